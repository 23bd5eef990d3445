/-! Partial functions: a condition that must hold, a callee's answer, a callee that may throw. -/
noncomputable def asr {α : Type} (P : Prop) (x : Option α) : Option α := @ite _ P (Classical.propDecidable P) x none
theorem asr_pos {α : Type} {P : Prop} {x : Option α} (h : P) : asr P x = x := if_pos h
theorem asr_e {α : Type} {P : Prop} {x : Option α} {r : α} (h : asr P x = some r) : P ∧ x = some r := by
  by_cases hp : P
  · exact ⟨hp, (asr_pos hp).symm.trans h⟩
  · rw [show asr P x = none from if_neg hp] at h; cases h
def bnd {α β : Type} (x : Option α) (f : α → Option β) : Option β := x.bind f
theorem bnd_some {α β : Type} {x : Option α} {f : α → Option β} {y : α} (h : x = some y) : bnd x f = f y := by rw [h]; rfl
theorem bnd_e {α β : Type} {x : Option α} {f : α → Option β} {r : β} (h : bnd x f = some r) : ∃ y, x = some y ∧ f y = some r := by
  cases x with
  | none => cases h
  | some y => exact ⟨y, rfl, h⟩
/-- what a method that may throw answers: the number of its exception (1 index, 2 argument, 3 state), or its value -/
abbrev Thr (α : Type) : Type := Except Nat α
def bnx {α β : Type} (x : Thr α) (f : α → Option (Thr β)) : Option (Thr β) := match x with
  | .error k => some (.error k)
  | .ok y => f y
theorem ite_t {α : Type} {P : Prop} [d : Decidable P] {a b r : α} (h : (if P then a else b) = r) (c : P) : a = r := (if_pos c).symm.trans h
theorem ite_f {α : Type} {P : Prop} [d : Decidable P] {a b r : α} (h : (if P then a else b) = r) (c : ¬ P) : b = r := (if_neg c).symm.trans h
theorem no_some {α : Type} {r : α} {P : Prop} (h : (none : Option α) = some r) : P := by cases h
theorem r_i {v : Int32} {r : Int32} (h : some v = some r) : some (Value.int v) = some (.int r) := by cases h; rfl
theorem r_l {v : Int64} {r : Int64} (h : some v = some r) : some (Value.long v) = some (.long r) := by cases h; rfl
theorem r_b {v : Bool} {r : Bool} (h : some v = some r) : some (Value.int (bI v)) = some (.int (bI r)) := by cases h; rfl
theorem r_b0 {r : Bool} (h : some false = some r) : some (Value.int 0) = some (.int (bI r)) := by cases h; rfl
theorem r_b1 {r : Bool} (h : some true = some r) : some (Value.int 1) = some (.int (bI r)) := by cases h; rfl
theorem r_o {b v r : Nat} (h : some v = some r) : some (Value.ref (b + v)) = some (.ref (b + r)) := by cases h; rfl
theorem rm_i {α : Type} {v : Int32} {m : α} {r : Int32 × α} (h : some (v, m) = some r) : some (Value.int v) = some (.int r.1) := by cases h; rfl
theorem rm_l {α : Type} {v : Int64} {m : α} {r : Int64 × α} (h : some (v, m) = some r) : some (Value.long v) = some (.long r.1) := by cases h; rfl
theorem rm_b {α : Type} {v : Bool} {m : α} {r : Bool × α} (h : some (v, m) = some r) : some (Value.int (bI v)) = some (.int (bI r.1)) := by cases h; rfl
theorem rm_b0 {α : Type} {m : α} {r : Bool × α} (h : some (false, m) = some r) : some (Value.int 0) = some (.int (bI r.1)) := by cases h; rfl
theorem rm_b1 {α : Type} {m : α} {r : Bool × α} (h : some (true, m) = some r) : some (Value.int 1) = some (.int (bI r.1)) := by cases h; rfl
theorem rm_o {α : Type} {b v : Nat} {m : α} {r : Nat × α} (h : some (v, m) = some r) : some (Value.ref (b + v)) = some (.ref (b + r.1)) := by cases h; rfl
theorem rm_m {α β : Type} {v : β} {m : α} {r : β × α} {W : α → Prop} (h : some (v, m) = some r) (w : W m) : W r.2 := by cases h; exact w
theorem rv_m {α : Type} {m r : α} {W : α → Prop} (h : some m = some r) (w : W m) : W r := by cases h; exact w
/-- a boolean in an int -/
def isZ (x : Int32) : Prop := x = 0 ∨ x = 1
theorem isZ_nar {x : Int32} (h : isZ x) : narrow .boolean (.int x) = .int x := by rcases h with rfl | rfl <;> rfl
theorem isZ_fit {x : Int32} (h : isZ x) : fits .boolean (.int x) = true := by rcases h with rfl | rfl <;> rfl
/-! Texts as numbers: the bytes as digits of 256, the first one last. -/
def dgs : Nat → Nat → List Nat
  | 0, _ => []
  | k + 1, c => if c = 0 then [] else c % 256 :: dgs k (c / 256)
def slen (c : Nat) : Nat := (dgs 16 c).length
def schar (c k : Nat) : Int32 := nI ((dgs 16 c).getD k 0)
/-! Where the class's objects lie, counted from the class's own. -/
def isLed (L : Nat) : Prop := L = 7 ∨ L = 334 ∨ ∃ k, k < 6 ∧ L = 664 + 327 * k
def isShip (o : Nat) : Prop := ∃ L i, isLed L ∧ i < 8 ∧ o = L + (6 + 2 * i)
def isCal (o : Nat) : Prop := ∃ L i, isLed L ∧ i < 40 ∧ o = L + (22 + i)
def isInv (o : Nat) : Prop := ∃ L i, isLed L ∧ i < 60 ∧ o = L + (62 + 2 * i)
def isNote (o : Nat) : Prop := ∃ L i, isLed L ∧ i < 40 ∧ o = L + (182 + i)
def isTar (o : Nat) : Prop := ∃ L i, isLed L ∧ i < 21 ∧ o = L + (222 + 5 * i)
def isByt (o : Nat) : Prop := o = 1 ∨ o = 4
def szB (o : Nat) : Nat := if o = 1 then 800 else 1400
abbrev Ra (c : ClassId) (n : Nat) (f : Nat → Nat) : va_E := .inl (c, n, .inr (.inr (.inr (.inr (fun i => some (f i))))))
theorem led_lt {L : Nat} (h : isLed L) : L + 327 ≤ 2626 ∧ 7 ≤ L := by
  rcases h with rfl | rfl | ⟨k, hk, rfl⟩ <;> omega
def shLed (nm : Nat → Nat) (cA : Nat → ClassId) (b L r : Nat) (f : Nat → Int32) (p : Nat → Int64) : va_E :=
  if r = 0 then .inr (5, [.ref (b + (L + 1)), .ref (b + (L + 2)), .ref (b + (L + 3)), .ref (b + (L + 4)), .ref (b + (L + 5)), .int (f 5), .int (f 6), .int (f 7), .int (f 8), .int (f 9), .int (f 10)])
  else if r = 1 then Ra (cA 3) 8 (fun i => b + (L + (6 + 2 * i)))
  else if r = 2 then Ra (cA 4) 40 (fun i => b + (L + (22 + i)))
  else if r = 3 then Ra (cA 5) 60 (fun i => b + (L + (62 + 2 * i)))
  else if r = 4 then Ra (cA 6) 40 (fun i => b + (L + (182 + i)))
  else if r = 5 then Ra (cA 7) 21 (fun i => b + (L + (222 + 5 * i)))
  else if r < 22 then (if r % 2 = 0 then .inr (9, [.ref (b + (L + r + 1)), .int (f 1), .int (f 2), .long (p 3)]) else .inl (cA 2, 6, .inl (fun k => vp_nar .byte (f k))))
  else if r < 62 then .inr (2, [.int (f 0), .int (f 1), .int (f 2), .int (f 3), .int (f 4), .int (f 5), .int (f 6)])
  else if r < 182 then (if r % 2 = 0 then .inr (4, [.ref (b + (L + r + 1)), .int (f 1), .int (f 2), .int (f 3), .int (f 4), .int (f 5), .int (f 6)]) else .inl (cA 0, 4, .inl f))
  else if r < 222 then .inr (6, [.int (f 0), .int (f 1), .int (f 2), .int (f 3)])
  else if (r - 222) % 5 = 0 then .inr (10, [.ref (b + (L + r + 1)), .ref (b + (L + r + 2)), .ref (b + (L + r + 3)), .ref (b + (L + r + 4)), .int (f 4), .int (f 5), .int (f 6), .int (f 7), .int (f 8), .int (f 9), .int (f 10), .int (f 11)])
  else .inl (cA 0, (if (r - 222) % 5 < 3 then 6 else 4), .inl f)
def shC (nm : Nat → Nat) (cA : Nat → ClassId) : Sh := fun b o f p _ =>
  if o < 7 then (match o with
    | 0 => .inr (11, [.ref (b + 1), .ref (b + 4), .ref (b + 7), .ref (b + 334), .ref (b + 661), .ref (b + 662), .ref (b + 2626), .ref (b + 2627)])
    | 1 => .inr (1, [.ref (b + (1 + 2)), .ref (b + (1 + 1)), .int (f 2)])
    | 2 => .inl (cA 2, 19, .inl f)
    | 3 => .inl (cA 2, 800, .inl f)
    | 4 => .inr (1, [.ref (b + (4 + 2)), .ref (b + (4 + 1)), .int (f 2)])
    | 5 => .inl (cA 2, 19, .inl f)
    | _ => .inl (cA 2, 1400, .inl f))
  else if o < 334 then shLed nm cA b 7 (o - 7) f p
  else if o < 661 then shLed nm cA b 334 (o - 334) f p
  else if o = 661 then .inr (7, [.ref (b + 1), .ref (b + 334), .int (f 2), .int (f 3), .int (f 4), .int (f 5), .int (f 6), .int (f 7), .int (f 8), .int (f 9), .int (f 10)])
  else if o = 662 then .inr (3, [.ref (b + 663), .int (f 1), .int (f 2)])
  else if o = 663 then Ra (cA 8) 6 (fun i => b + (664 + 327 * i))
  else if o < 2626 then shLed nm cA b (664 + 327 * ((o - 664) / 327)) ((o - 664) % 327) f p
  else if o = 2626 then .inr (0, [.ref (b + 7)])
  else .inr (8, [.ref (b + 7), .ref (b + 2626), .ref (b + 4)])
section SHC
variable {nm : Nat → Nat} {cA : Nat → ClassId} {b L o : Nat} {f : Nat → Int32} {p : Nat → Int64} {n : Nat → Nat}
theorem shC_led {r : Nat} (h : isLed L) (hr : r < 327) : shC nm cA b (L + r) f p n = shLed nm cA b L r f p := by
  unfold shC
  rcases h with rfl | rfl | ⟨k, hk, rfl⟩
  · rw [if_neg (by omega), if_pos (by omega), show 7 + r - 7 = r by omega]
  · rw [if_neg (by omega), if_neg (by omega), if_pos (by omega), show 334 + r - 334 = r by omega]
  · have e1 : (664 + 327 * k + r - 664) / 327 = k := by omega
    have e2 : (664 + 327 * k + r - 664) % 327 = r := by omega
    rw [if_neg (by omega), if_neg (by omega), if_neg (by omega), if_neg (by omega), if_neg (by omega), if_neg (by omega), if_pos (by omega), e1, e2]
theorem S_Led (h : isLed L) : shC nm cA b L f p n = .inr (5, [.ref (b + (L + 1)), .ref (b + (L + 2)), .ref (b + (L + 3)), .ref (b + (L + 4)), .ref (b + (L + 5)), .int (f 5), .int (f 6), .int (f 7), .int (f 8), .int (f 9), .int (f 10)]) := by
  have e := shC_led (nm := nm) (cA := cA) (b := b) (f := f) (p := p) (n := n) (r := 0) h (by decide)
  rw [Nat.add_zero] at e
  rw [e]; rfl
theorem S_ships (h : isLed L) : shC nm cA b (L + 1) f p n = Ra (cA 3) 8 (fun i => b + (L + (6 + 2 * i))) := by rw [shC_led h (by decide)]; rfl
theorem S_calls (h : isLed L) : shC nm cA b (L + 2) f p n = Ra (cA 4) 40 (fun i => b + (L + (22 + i))) := by rw [shC_led h (by decide)]; rfl
theorem S_invoices (h : isLed L) : shC nm cA b (L + 3) f p n = Ra (cA 5) 60 (fun i => b + (L + (62 + 2 * i))) := by rw [shC_led h (by decide)]; rfl
theorem S_notes (h : isLed L) : shC nm cA b (L + 4) f p n = Ra (cA 6) 40 (fun i => b + (L + (182 + i))) := by rw [shC_led h (by decide)]; rfl
theorem S_versions (h : isLed L) : shC nm cA b (L + 5) f p n = Ra (cA 7) 21 (fun i => b + (L + (222 + 5 * i))) := by rw [shC_led h (by decide)]; rfl
theorem S_Ship (h : isShip o) : shC nm cA b o f p n = .inr (9, [.ref (b + (o + 1)), .int (f 1), .int (f 2), .long (p 3)]) := by
  obtain ⟨L, i, hL, hi, rfl⟩ := h
  rw [shC_led hL (by omega)]
  unfold shLed
  rw [if_neg (by omega), if_neg (by omega), if_neg (by omega), if_neg (by omega), if_neg (by omega), if_neg (by omega), if_pos (by omega), if_pos (by omega)]
theorem lt_Ship (h : isShip o) : o < 2626 ∧ 7 ≤ o := by
  obtain ⟨L, i, hL, hi, rfl⟩ := h
  have := led_lt hL
  omega
theorem S_Cal (h : isCal o) : shC nm cA b o f p n = .inr (2, [.int (f 0), .int (f 1), .int (f 2), .int (f 3), .int (f 4), .int (f 5), .int (f 6)]) := by
  obtain ⟨L, i, hL, hi, rfl⟩ := h
  rw [shC_led hL (by omega)]
  unfold shLed
  rw [if_neg (by omega), if_neg (by omega), if_neg (by omega), if_neg (by omega), if_neg (by omega), if_neg (by omega), if_neg (by omega), if_pos (by omega)]
theorem lt_Cal (h : isCal o) : o < 2626 ∧ 7 ≤ o := by
  obtain ⟨L, i, hL, hi, rfl⟩ := h
  have := led_lt hL
  omega
theorem S_Inv (h : isInv o) : shC nm cA b o f p n = .inr (4, [.ref (b + (o + 1)), .int (f 1), .int (f 2), .int (f 3), .int (f 4), .int (f 5), .int (f 6)]) := by
  obtain ⟨L, i, hL, hi, rfl⟩ := h
  rw [shC_led hL (by omega)]
  unfold shLed
  rw [if_neg (by omega), if_neg (by omega), if_neg (by omega), if_neg (by omega), if_neg (by omega), if_neg (by omega), if_neg (by omega), if_neg (by omega), if_pos (by omega), if_pos (by omega)]
theorem lt_Inv (h : isInv o) : o < 2626 ∧ 7 ≤ o := by
  obtain ⟨L, i, hL, hi, rfl⟩ := h
  have := led_lt hL
  omega
theorem S_Note (h : isNote o) : shC nm cA b o f p n = .inr (6, [.int (f 0), .int (f 1), .int (f 2), .int (f 3)]) := by
  obtain ⟨L, i, hL, hi, rfl⟩ := h
  rw [shC_led hL (by omega)]
  unfold shLed
  rw [if_neg (by omega), if_neg (by omega), if_neg (by omega), if_neg (by omega), if_neg (by omega), if_neg (by omega), if_neg (by omega), if_neg (by omega), if_neg (by omega), if_pos (by omega)]
theorem lt_Note (h : isNote o) : o < 2626 ∧ 7 ≤ o := by
  obtain ⟨L, i, hL, hi, rfl⟩ := h
  have := led_lt hL
  omega
theorem S_Tar (h : isTar o) : shC nm cA b o f p n = .inr (10, [.ref (b + (o + 1)), .ref (b + (o + 2)), .ref (b + (o + 3)), .ref (b + (o + 4)), .int (f 4), .int (f 5), .int (f 6), .int (f 7), .int (f 8), .int (f 9), .int (f 10), .int (f 11)]) := by
  obtain ⟨L, i, hL, hi, rfl⟩ := h
  rw [shC_led hL (by omega)]
  unfold shLed
  rw [if_neg (by omega), if_neg (by omega), if_neg (by omega), if_neg (by omega), if_neg (by omega), if_neg (by omega), if_neg (by omega), if_neg (by omega), if_neg (by omega), if_neg (by omega), if_pos (by omega)]
theorem lt_Tar (h : isTar o) : o < 2626 ∧ 7 ≤ o := by
  obtain ⟨L, i, hL, hi, rfl⟩ := h
  have := led_lt hL
  omega
theorem S_name (h : isShip o) : shC nm cA b (o + 1) f p n = .inl (cA 2, 6, .inl (fun k => vp_nar .byte (f k))) := by
  obtain ⟨L, i, hL, hi, rfl⟩ := h
  rw [show L + (6 + 2 * i) + 1 = L + (6 + 2 * i + 1) by omega, shC_led hL (by omega)]
  unfold shLed
  rw [if_neg (by omega), if_neg (by omega), if_neg (by omega), if_neg (by omega), if_neg (by omega), if_neg (by omega), if_pos (by omega), if_neg (by omega)]
theorem S_amounts (h : isInv o) : shC nm cA b (o + 1) f p n = .inl (cA 0, 4, .inl f) := by
  obtain ⟨L, i, hL, hi, rfl⟩ := h
  rw [show L + (62 + 2 * i) + 1 = L + (62 + 2 * i + 1) by omega, shC_led hL (by omega)]
  unfold shLed
  rw [if_neg (by omega), if_neg (by omega), if_neg (by omega), if_neg (by omega), if_neg (by omega), if_neg (by omega), if_neg (by omega), if_neg (by omega), if_pos (by omega), if_neg (by omega)]
theorem S_bandFrom (h : isTar o) : shC nm cA b (o + 1) f p n = .inl (cA 0, 6, .inl f) := by
  obtain ⟨L, i, hL, hi, rfl⟩ := h
  rw [show L + (222 + 5 * i) + 1 = L + (222 + 5 * i + 1) by omega, shC_led hL (by omega)]
  unfold shLed
  rw [if_neg (by omega), if_neg (by omega), if_neg (by omega), if_neg (by omega), if_neg (by omega), if_neg (by omega), if_neg (by omega), if_neg (by omega), if_neg (by omega), if_neg (by omega), if_neg (by omega), if_pos (by omega)]
theorem S_bandRate (h : isTar o) : shC nm cA b (o + 2) f p n = .inl (cA 0, 6, .inl f) := by
  obtain ⟨L, i, hL, hi, rfl⟩ := h
  rw [show L + (222 + 5 * i) + 2 = L + (222 + 5 * i + 2) by omega, shC_led hL (by omega)]
  unfold shLed
  rw [if_neg (by omega), if_neg (by omega), if_neg (by omega), if_neg (by omega), if_neg (by omega), if_neg (by omega), if_neg (by omega), if_neg (by omega), if_neg (by omega), if_neg (by omega), if_neg (by omega), if_pos (by omega)]
theorem S_rebateFrom (h : isTar o) : shC nm cA b (o + 3) f p n = .inl (cA 0, 4, .inl f) := by
  obtain ⟨L, i, hL, hi, rfl⟩ := h
  rw [show L + (222 + 5 * i) + 3 = L + (222 + 5 * i + 3) by omega, shC_led hL (by omega)]
  unfold shLed
  rw [if_neg (by omega), if_neg (by omega), if_neg (by omega), if_neg (by omega), if_neg (by omega), if_neg (by omega), if_neg (by omega), if_neg (by omega), if_neg (by omega), if_neg (by omega), if_neg (by omega), if_neg (by omega)]
theorem S_rebatePercent (h : isTar o) : shC nm cA b (o + 4) f p n = .inl (cA 0, 4, .inl f) := by
  obtain ⟨L, i, hL, hi, rfl⟩ := h
  rw [show L + (222 + 5 * i) + 4 = L + (222 + 5 * i + 4) by omega, shC_led hL (by omega)]
  unfold shLed
  rw [if_neg (by omega), if_neg (by omega), if_neg (by omega), if_neg (by omega), if_neg (by omega), if_neg (by omega), if_neg (by omega), if_neg (by omega), if_neg (by omega), if_neg (by omega), if_neg (by omega), if_neg (by omega)]
theorem S_Byt (h : isByt o) : shC nm cA b o f p n = .inr (1, [.ref (b + (o + 2)), .ref (b + (o + 1)), .int (f 2)]) := by rcases h with rfl | rfl <;> rfl
theorem S_data (h : isByt o) : shC nm cA b (o + 2) f p n = .inl (cA 2, szB o, .inl f) := by rcases h with rfl | rfl <;> rfl
theorem S_digits (h : isByt o) : shC nm cA b (o + 1) f p n = .inl (cA 2, 19, .inl f) := by rcases h with rfl | rfl <;> rfl
theorem lt_Byt (h : isByt o) : o < 2626 := by rcases h with rfl | rfl <;> decide
theorem S_PD : shC nm cA b 0 f p n = .inr (11, [.ref (b + 1), .ref (b + 4), .ref (b + 7), .ref (b + 334), .ref (b + 661), .ref (b + 662), .ref (b + 2626), .ref (b + 2627)]) := rfl
theorem S_Par : shC nm cA b 661 f p n = .inr (7, [.ref (b + 1), .ref (b + 334), .int (f 2), .int (f 3), .int (f 4), .int (f 5), .int (f 6), .int (f 7), .int (f 8), .int (f 9), .int (f 10)]) := rfl
theorem S_His : shC nm cA b 662 f p n = .inr (3, [.ref (b + 663), .int (f 1), .int (f 2)]) := rfl
theorem S_kept : shC nm cA b 663 f p n = Ra (cA 8) 6 (fun i => b + (664 + 327 * i)) := rfl
theorem S_Acc : shC nm cA b 2626 f p n = .inr (0, [.ref (b + 7)]) := rfl
theorem S_Rep : shC nm cA b 2627 f p n = .inr (8, [.ref (b + 7), .ref (b + 2626), .ref (b + 4)]) := rfl
end SHC
theorem led7 : isLed 7 := Or.inl rfl
theorem led334 : isLed 334 := Or.inr (Or.inl rfl)
theorem ledK {k : Nat} (h : k < 6) : isLed (664 + 327 * k) := Or.inr (Or.inr ⟨k, h, rfl⟩)
theorem byt1 : isByt 1 := Or.inl rfl
theorem byt4 : isByt 4 := Or.inr rfl
theorem mk_Ship {L i : Nat} (hL : isLed L) (h : i < 8) : isShip (L + (6 + 2 * i)) := ⟨L, i, hL, h, rfl⟩
theorem mk_Cal {L i : Nat} (hL : isLed L) (h : i < 40) : isCal (L + (22 + i)) := ⟨L, i, hL, h, rfl⟩
theorem mk_Inv {L i : Nat} (hL : isLed L) (h : i < 60) : isInv (L + (62 + 2 * i)) := ⟨L, i, hL, h, rfl⟩
theorem mk_Note {L i : Nat} (hL : isLed L) (h : i < 40) : isNote (L + (182 + i)) := ⟨L, i, hL, h, rfl⟩
theorem mk_Tar {L i : Nat} (hL : isLed L) (h : i < 21) : isTar (L + (222 + 5 * i)) := ⟨L, i, hL, h, rfl⟩
/-! The class's world. -/
def extS (s0 : State) (H : Heap) : Prop := s0.heap.size ≤ H.size ∧ ∀ q : Nat, q < s0.heap.size → H[q]? = s0.heap[q]?
def okS (s0 : State) (z q : Nat) : Prop := q < s0.heap.size ∨ z ≤ q
/-- A String at a, its bytes at v, of the text c -/
def xF : Nat → Prop := fun _ => False
def okT (c : Nat) : Prop := ∀ j, j < slen c → ∃ d, d < 128 ∧ schar c j = nI d
def StrAt (s0 : State) (a v c : Nat) (H : Heap) : Prop := va_O "java/lang/String" a xF s0 H ∧ va_OF "java/lang/String" "coder" "B" (.int 0) a xF s0 H ∧ va_OF "java/lang/String" "value" "[B" (.ref v) a xF s0 H ∧ va_T .byte v (slen c) (fun j => .int (schar c j)) xF s0 H
def Str (D : va_G) (cA : Nat → ClassId) (s0 : State) (z a c : Nat) (H : Heap) : Prop := okT c ∧ okS s0 z a ∧ ∃ v, okS s0 z v ∧ StrAt s0 a v c H
theorem at_lt {D : va_G} {cl : List vw_C} {q : Nat × va_E} {H : Heap} (h : va_at D cl q H) : q.1 < H.size := by
  obtain ⟨a, e⟩ := q
  cases e with
  | inl x => exact (Array.getElem?_eq_some_iff.mp (show H[a]? = some _ from h)).1
  | inr x =>
    obtain ⟨r, h1, cell, q1, -⟩ := h
    exact (Array.getElem?_eq_some_iff.mp q1).1
theorem StrAt.kept {s0 : State} {a v c : Nat} {H H1 : Heap} (h : StrAt s0 a v c H) (ha : a < H.size → H1[a]? = H[a]?) (hv : v < H.size → H1[v]? = H[v]?) : StrAt s0 a v c H1 := by
  obtain ⟨⟨cell, h1, h2⟩, ⟨cf, k, i, f, cell2, g1, g2, g3, g4⟩, ⟨cf3, k3, i3, f3, cell3, q1, q2, q3, q4⟩, ⟨cell4, r1, r2⟩⟩ := h
  have ea := ha (Array.getElem?_eq_some_iff.mp h1).1
  have ev := hv (Array.getElem?_eq_some_iff.mp r1).1
  exact ⟨⟨cell, by rw [ea]; exact h1, h2⟩, ⟨cf, k, i, f, cell2, g1, g2, by rw [ea]; exact g3, g4⟩, ⟨cf3, k3, i3, f3, cell3, q1, q2, by rw [ea]; exact q3, q4⟩, ⟨cell4, by rw [ev]; exact r1, r2⟩⟩
theorem Str.kept {D : va_G} {cA : Nat → ClassId} {s0 : State} {z a c : Nat} {H H1 : Heap} (h : Str D cA s0 z a c H) (hq : ∀ q : Nat, okS s0 z q → q < H.size → H1[q]? = H[q]?) : Str D cA s0 z a c H1 := by
  obtain ⟨h0, h1, v, h2, h3⟩ := h
  exact ⟨h0, h1, v, h2, h3.kept (fun g => hq _ h1 g) (fun g => hq _ h2 g)⟩
def WC (D : va_G) (cA : Nat → ClassId) (s0 : State) (z b : Nat) (ν : Mm) (H : Heap) : Prop := s0.heap.size ≤ b ∧ b + 2628 ≤ z ∧ z ≤ H.size ∧ extS s0 H ∧ ∃ nm : Nat → Nat, Rg D (shC nm cA) 2628 b ν H
section WCS
variable {D : va_G} {cA : Nat → ClassId} {s0 : State} {z b : Nat} {ν : Mm} {H : Heap}
theorem okS_out {q off : Nat} (h : okS s0 z q) (hb : s0.heap.size ≤ b) (hz : b + 2628 ≤ z) (ho : off < 2628) : q ≠ b + off := by
  rcases h with h | h
  · exact fun e => by rw [e] at h; exact absurd (Nat.lt_of_lt_of_le h hb) (by omega)
  · omega
theorem WC.upd {ν1 : Mm} {H1 : Heap} {off : Nat} {nm1 : Nat → Nat} (hb : s0.heap.size ≤ b) (hz : b + 2628 ≤ z) (hzz : z ≤ H.size) (hx : extS s0 H) (ho : off < 2628) (hR : Rg D (shC nm1 cA) 2628 b ν1 H1) (hq : ∀ q : Nat, q ≠ b + off → H1[q]? = H[q]?) (hs : H1.size = H.size) : WC D cA s0 z b ν1 H1 :=
  ⟨hb, hz, by rw [hs]; exact hzz, ⟨by rw [hs]; exact hx.1, fun q h => (hq q (fun e => by rw [e] at h; exact absurd (Nat.lt_of_lt_of_le h hb) (by omega))).trans (hx.2 q h)⟩, nm1, hR⟩
theorem C_Led {L : Nat} (h : isLed L) (hw : WC D cA s0 z b ν H) : va_at D xcl (b + L, .inr (5, [.ref (b + (L + 1)), .ref (b + (L + 2)), .ref (b + (L + 3)), .ref (b + (L + 4)), .ref (b + (L + 5)), .int (ν.1 L 5), .int (ν.1 L 6), .int (ν.1 L 7), .int (ν.1 L 8), .int (ν.1 L 9), .int (ν.1 L 10)])) H := by
  obtain ⟨-, -, -, -, nm, hR⟩ := hw
  have e := hR L (by have := led_lt h; omega)
  rw [S_Led h] at e; exact e
theorem C_ships {L : Nat} (h : isLed L) (hw : WC D cA s0 z b ν H) : va_at D xcl (b + (L + 1), Ra (cA 3) 8 (fun i => b + (L + (6 + 2 * i)))) H := by
  obtain ⟨-, -, -, -, nm, hR⟩ := hw
  have e := hR (L + 1) (by have := led_lt h; omega)
  rw [S_ships h] at e; exact e
theorem C_calls {L : Nat} (h : isLed L) (hw : WC D cA s0 z b ν H) : va_at D xcl (b + (L + 2), Ra (cA 4) 40 (fun i => b + (L + (22 + i)))) H := by
  obtain ⟨-, -, -, -, nm, hR⟩ := hw
  have e := hR (L + 2) (by have := led_lt h; omega)
  rw [S_calls h] at e; exact e
theorem C_invoices {L : Nat} (h : isLed L) (hw : WC D cA s0 z b ν H) : va_at D xcl (b + (L + 3), Ra (cA 5) 60 (fun i => b + (L + (62 + 2 * i)))) H := by
  obtain ⟨-, -, -, -, nm, hR⟩ := hw
  have e := hR (L + 3) (by have := led_lt h; omega)
  rw [S_invoices h] at e; exact e
theorem C_notes {L : Nat} (h : isLed L) (hw : WC D cA s0 z b ν H) : va_at D xcl (b + (L + 4), Ra (cA 6) 40 (fun i => b + (L + (182 + i)))) H := by
  obtain ⟨-, -, -, -, nm, hR⟩ := hw
  have e := hR (L + 4) (by have := led_lt h; omega)
  rw [S_notes h] at e; exact e
theorem C_versions {L : Nat} (h : isLed L) (hw : WC D cA s0 z b ν H) : va_at D xcl (b + (L + 5), Ra (cA 7) 21 (fun i => b + (L + (222 + 5 * i)))) H := by
  obtain ⟨-, -, -, -, nm, hR⟩ := hw
  have e := hR (L + 5) (by have := led_lt h; omega)
  rw [S_versions h] at e; exact e
theorem C_Ship {o : Nat} (h : isShip o) (hw : WC D cA s0 z b ν H) : va_at D xcl (b + o, .inr (9, [.ref (b + (o + 1)), .int (ν.1 o 1), .int (ν.1 o 2), .long (ν.2.1 o 3)])) H := by
  obtain ⟨-, -, -, -, nm, hR⟩ := hw
  have e := hR o (by have := lt_Ship h; omega)
  rw [S_Ship h] at e; exact e
theorem C_Cal {o : Nat} (h : isCal o) (hw : WC D cA s0 z b ν H) : va_at D xcl (b + o, .inr (2, [.int (ν.1 o 0), .int (ν.1 o 1), .int (ν.1 o 2), .int (ν.1 o 3), .int (ν.1 o 4), .int (ν.1 o 5), .int (ν.1 o 6)])) H := by
  obtain ⟨-, -, -, -, nm, hR⟩ := hw
  have e := hR o (by have := lt_Cal h; omega)
  rw [S_Cal h] at e; exact e
theorem C_Inv {o : Nat} (h : isInv o) (hw : WC D cA s0 z b ν H) : va_at D xcl (b + o, .inr (4, [.ref (b + (o + 1)), .int (ν.1 o 1), .int (ν.1 o 2), .int (ν.1 o 3), .int (ν.1 o 4), .int (ν.1 o 5), .int (ν.1 o 6)])) H := by
  obtain ⟨-, -, -, -, nm, hR⟩ := hw
  have e := hR o (by have := lt_Inv h; omega)
  rw [S_Inv h] at e; exact e
theorem C_Note {o : Nat} (h : isNote o) (hw : WC D cA s0 z b ν H) : va_at D xcl (b + o, .inr (6, [.int (ν.1 o 0), .int (ν.1 o 1), .int (ν.1 o 2), .int (ν.1 o 3)])) H := by
  obtain ⟨-, -, -, -, nm, hR⟩ := hw
  have e := hR o (by have := lt_Note h; omega)
  rw [S_Note h] at e; exact e
theorem C_Tar {o : Nat} (h : isTar o) (hw : WC D cA s0 z b ν H) : va_at D xcl (b + o, .inr (10, [.ref (b + (o + 1)), .ref (b + (o + 2)), .ref (b + (o + 3)), .ref (b + (o + 4)), .int (ν.1 o 4), .int (ν.1 o 5), .int (ν.1 o 6), .int (ν.1 o 7), .int (ν.1 o 8), .int (ν.1 o 9), .int (ν.1 o 10), .int (ν.1 o 11)])) H := by
  obtain ⟨-, -, -, -, nm, hR⟩ := hw
  have e := hR o (by have := lt_Tar h; omega)
  rw [S_Tar h] at e; exact e
theorem la_amounts {o : Nat} (h : isInv o) : o + 1 < 2628 := by obtain ⟨L, i, hL, hi, rfl⟩ := h; have := led_lt hL; omega
theorem C_amounts {o : Nat} (h : isInv o) (hw : WC D cA s0 z b ν H) : va_at D xcl (b + (o + 1), .inl (cA 0, 4, .inl (ν.1 (o + 1)))) H := by
  obtain ⟨-, -, -, -, nm, hR⟩ := hw
  have e := hR (o + 1) (la_amounts h)
  rw [S_amounts h] at e; exact e
theorem la_bandFrom {o : Nat} (h : isTar o) : o + 1 < 2628 := by obtain ⟨L, i, hL, hi, rfl⟩ := h; have := led_lt hL; omega
theorem C_bandFrom {o : Nat} (h : isTar o) (hw : WC D cA s0 z b ν H) : va_at D xcl (b + (o + 1), .inl (cA 0, 6, .inl (ν.1 (o + 1)))) H := by
  obtain ⟨-, -, -, -, nm, hR⟩ := hw
  have e := hR (o + 1) (la_bandFrom h)
  rw [S_bandFrom h] at e; exact e
theorem la_bandRate {o : Nat} (h : isTar o) : o + 2 < 2628 := by obtain ⟨L, i, hL, hi, rfl⟩ := h; have := led_lt hL; omega
theorem C_bandRate {o : Nat} (h : isTar o) (hw : WC D cA s0 z b ν H) : va_at D xcl (b + (o + 2), .inl (cA 0, 6, .inl (ν.1 (o + 2)))) H := by
  obtain ⟨-, -, -, -, nm, hR⟩ := hw
  have e := hR (o + 2) (la_bandRate h)
  rw [S_bandRate h] at e; exact e
theorem la_rebateFrom {o : Nat} (h : isTar o) : o + 3 < 2628 := by obtain ⟨L, i, hL, hi, rfl⟩ := h; have := led_lt hL; omega
theorem C_rebateFrom {o : Nat} (h : isTar o) (hw : WC D cA s0 z b ν H) : va_at D xcl (b + (o + 3), .inl (cA 0, 4, .inl (ν.1 (o + 3)))) H := by
  obtain ⟨-, -, -, -, nm, hR⟩ := hw
  have e := hR (o + 3) (la_rebateFrom h)
  rw [S_rebateFrom h] at e; exact e
theorem la_rebatePercent {o : Nat} (h : isTar o) : o + 4 < 2628 := by obtain ⟨L, i, hL, hi, rfl⟩ := h; have := led_lt hL; omega
theorem C_rebatePercent {o : Nat} (h : isTar o) (hw : WC D cA s0 z b ν H) : va_at D xcl (b + (o + 4), .inl (cA 0, 4, .inl (ν.1 (o + 4)))) H := by
  obtain ⟨-, -, -, -, nm, hR⟩ := hw
  have e := hR (o + 4) (la_rebatePercent h)
  rw [S_rebatePercent h] at e; exact e
theorem la_data {o : Nat} (h : isByt o) : o + 2 < 2628 := by rcases h with rfl | rfl <;> decide
theorem C_data {o : Nat} (h : isByt o) (hw : WC D cA s0 z b ν H) : va_at D xcl (b + (o + 2), .inl (cA 2, szB o, .inl (ν.1 (o + 2)))) H := by
  obtain ⟨-, -, -, -, nm, hR⟩ := hw
  have e := hR (o + 2) (la_data h)
  rw [S_data h] at e; exact e
theorem la_digits {o : Nat} (h : isByt o) : o + 1 < 2628 := by rcases h with rfl | rfl <;> decide
theorem C_digits {o : Nat} (h : isByt o) (hw : WC D cA s0 z b ν H) : va_at D xcl (b + (o + 1), .inl (cA 2, 19, .inl (ν.1 (o + 1)))) H := by
  obtain ⟨-, -, -, -, nm, hR⟩ := hw
  have e := hR (o + 1) (la_digits h)
  rw [S_digits h] at e; exact e
theorem C_PD (hw : WC D cA s0 z b ν H) : va_at D xcl (b + 0, .inr (11, [.ref (b + 1), .ref (b + 4), .ref (b + 7), .ref (b + 334), .ref (b + 661), .ref (b + 662), .ref (b + 2626), .ref (b + 2627)])) H := by
  obtain ⟨-, -, -, -, nm, hR⟩ := hw
  exact hR 0 (by decide)
theorem C_Par (hw : WC D cA s0 z b ν H) : va_at D xcl (b + 661, .inr (7, [.ref (b + 1), .ref (b + 334), .int (ν.1 661 2), .int (ν.1 661 3), .int (ν.1 661 4), .int (ν.1 661 5), .int (ν.1 661 6), .int (ν.1 661 7), .int (ν.1 661 8), .int (ν.1 661 9), .int (ν.1 661 10)])) H := by
  obtain ⟨-, -, -, -, nm, hR⟩ := hw
  exact hR 661 (by decide)
theorem C_His (hw : WC D cA s0 z b ν H) : va_at D xcl (b + 662, .inr (3, [.ref (b + 663), .int (ν.1 662 1), .int (ν.1 662 2)])) H := by
  obtain ⟨-, -, -, -, nm, hR⟩ := hw
  exact hR 662 (by decide)
theorem C_Acc (hw : WC D cA s0 z b ν H) : va_at D xcl (b + 2626, .inr (0, [.ref (b + 7)])) H := by
  obtain ⟨-, -, -, -, nm, hR⟩ := hw
  exact hR 2626 (by decide)
theorem C_Rep (hw : WC D cA s0 z b ν H) : va_at D xcl (b + 2627, .inr (8, [.ref (b + 7), .ref (b + 2626), .ref (b + 4)])) H := by
  obtain ⟨-, -, -, -, nm, hR⟩ := hw
  exact hR 2627 (by decide)
theorem C_Byt {o : Nat} (h : isByt o) (hw : WC D cA s0 z b ν H) : va_at D xcl (b + o, .inr (1, [.ref (b + (o + 2)), .ref (b + (o + 1)), .int (ν.1 o 2)])) H := by
  obtain ⟨-, -, -, -, nm, hR⟩ := hw
  have e := hR o (by have := lt_Byt h; omega)
  rw [S_Byt h] at e; exact e
theorem C_kept (hw : WC D cA s0 z b ν H) : va_at D xcl (b + 663, Ra (cA 8) 6 (fun i => b + (664 + 327 * i))) H := by
  obtain ⟨-, -, -, -, nm, hR⟩ := hw
  exact hR 663 (by decide)
theorem la_name {o : Nat} (h : isShip o) : o + 1 < 2628 := by obtain ⟨L, i, hL, hi, rfl⟩ := h; have := led_lt hL; omega
theorem C_name {o : Nat} (h : isShip o) (hw : WC D cA s0 z b ν H) : va_at D xcl (b + (o + 1), .inl (cA 2, 6, .inl (fun k => vp_nar .byte (ν.1 (o + 1) k)))) H := by
  obtain ⟨-, -, -, -, nm, hR⟩ := hw
  have e := hR (o + 1) (la_name h)
  rw [S_name h] at e; exact e
theorem l2 {o : Nat} (h : o < 2626 ∧ 7 ≤ o) : o < 2628 := by omega
theorem l3 {o : Nat} (h : o < 2626) : o < 2628 := by omega
theorem l4 {L : Nat} (h : isLed L) : L < 2628 := by have := led_lt h; omega
end WCS
section YROWS
variable {p : Program} {l : Launch} {e : Env} {R : Room} {s : State} {m : MethodId} {args : Array Value} {below : List Frame} {meth : Method} {c : Code} {nL : Nat} {Q : State → Prop} {H : Heap} {locs : List Loc} {cells slots : Nat} {pc : Nat} {lv : List (Nat × Value)} {st : List Value}
  {D : va_G} {cA : Nat → ClassId} {s0 : State} {own : String} {cc : ByteArray} {rt : Option FieldType} {z b : Nat} {ν : Mm} {A : Nat → Prop} {H0 : Heap}
theorem y_putI {ix ci k kk0 N : Nat} {Cn : String} {T : u_T} {ty0 : Nat → FieldType} {fs : (Nat → Nat) → List Value} {x : Int32} (off : Nat) (C : xC D cA s0 own cc nL rt p s m args meth c) (FL : xFL own ix ci k Cn T N ty0) (hw : WC D cA s0 z b ν H) (hlt : off < 2628) (hs : ∀ nm, shC nm cA b off (ν.1 off) (ν.2.1 off) (ν.2.2 off) = .inr (ci, fs nm)) (he : ∀ nm, shC nm cA b off (upd (ν.1 off) kk0 x) (ν.2.1 off) (ν.2.2 off) = .inr (ci, (fs nm).set k (.int x))) (hfin : (T k).2.2.2 = false) (ht : ty0 k = .int) (hlen : ∀ nm, k < (fs nm).length) (hd : decode cc pc = .ok (.putfield ix, 3)) (hS : va_S A H0 H locs) (hA : A (b + off))
    (kk : ∀ (H1 : Heap) (locs1 : List Loc), WC D cA s0 z b (uI ν off kk0 x) H1 → va_S A H0 H1 locs1 → xW p l e R s m args below meth c nL Q H1 locs1 cells slots (pc + 3) lv st) : xW p l e R s m args below meth c nL Q H locs cells slots pc lv (.int x :: .ref (b + off) :: st) := by
  obtain ⟨hb, hz, hzz, hx, nm, hR⟩ := hw
  exact x_putI (kk0 := kk0) off C FL hR hlt (hs nm) (he nm) hfin ht (hlen nm) hd hS hA (fun H1 locs1 h1 h2 h3 h4 => kk H1 locs1 (WC.upd hb hz hzz hx hlt h1 h2 h3) h4)
theorem y_putZ {ix ci k kk0 N : Nat} {Cn : String} {T : u_T} {ty0 : Nat → FieldType} {fs : (Nat → Nat) → List Value} {x : Int32} (off : Nat) (C : xC D cA s0 own cc nL rt p s m args meth c) (FL : xFL own ix ci k Cn T N ty0) (hw : WC D cA s0 z b ν H) (hlt : off < 2628) (hs : ∀ nm, shC nm cA b off (ν.1 off) (ν.2.1 off) (ν.2.2 off) = .inr (ci, fs nm)) (he : ∀ nm, shC nm cA b off (upd (ν.1 off) kk0 x) (ν.2.1 off) (ν.2.2 off) = .inr (ci, (fs nm).set k (.int x))) (hfin : (T k).2.2.2 = false) (hn : narrow (ty0 k) (.int x) = .int x) (hfit : fits (ty0 k) (.int x) = true) (hlen : ∀ nm, k < (fs nm).length) (hd : decode cc pc = .ok (.putfield ix, 3)) (hS : va_S A H0 H locs) (hA : A (b + off))
    (kk : ∀ (H1 : Heap) (locs1 : List Loc), WC D cA s0 z b (uI ν off kk0 x) H1 → va_S A H0 H1 locs1 → xW p l e R s m args below meth c nL Q H1 locs1 cells slots (pc + 3) lv st) : xW p l e R s m args below meth c nL Q H locs cells slots pc lv (.int x :: .ref (b + off) :: st) := by
  obtain ⟨hb, hz, hzz, hx, nm, hR⟩ := hw
  exact x_putZ (kk0 := kk0) off C FL hR hlt (hs nm) (he nm) hfin hn hfit (hlen nm) hd hS hA (fun H1 locs1 h1 h2 h3 h4 => kk H1 locs1 (WC.upd hb hz hzz hx hlt h1 h2 h3) h4)
theorem y_putP {ix ci k kk0 N : Nat} {Cn : String} {T : u_T} {ty0 : Nat → FieldType} {fs : (Nat → Nat) → List Value} {x : Int64} (off : Nat) (C : xC D cA s0 own cc nL rt p s m args meth c) (FL : xFL own ix ci k Cn T N ty0) (hw : WC D cA s0 z b ν H) (hlt : off < 2628) (hs : ∀ nm, shC nm cA b off (ν.1 off) (ν.2.1 off) (ν.2.2 off) = .inr (ci, fs nm)) (he : ∀ nm, shC nm cA b off (ν.1 off) (vp_updL (ν.2.1 off) kk0 x) (ν.2.2 off) = .inr (ci, (fs nm).set k (.long x))) (hfin : (T k).2.2.2 = false) (ht : ty0 k = .long) (hlen : ∀ nm, k < (fs nm).length) (hd : decode cc pc = .ok (.putfield ix, 3)) (hS : va_S A H0 H locs) (hA : A (b + off))
    (kk : ∀ (H1 : Heap) (locs1 : List Loc), WC D cA s0 z b (uP ν off kk0 x) H1 → va_S A H0 H1 locs1 → xW p l e R s m args below meth c nL Q H1 locs1 cells slots (pc + 3) lv st) : xW p l e R s m args below meth c nL Q H locs cells slots pc lv (.long x :: .ref (b + off) :: st) := by
  obtain ⟨hb, hz, hzz, hx, nm, hR⟩ := hw
  exact x_putP (kk0 := kk0) off C FL hR hlt (hs nm) (he nm) hfin ht (hlen nm) hd hS hA (fun H1 locs1 h1 h2 h3 h4 => kk H1 locs1 (WC.upd hb hz hzz hx hlt h1 h2 h3) h4)
theorem y_iast {n0 k : Nat} {i : Int32} {x : Int32} (off : Nat) (C : xC D cA s0 own cc nL rt p s m args meth c) (hw : WC D cA s0 z b ν H) (hlt : off < 2628) (hs : ∀ nm f, shC nm cA b off f (ν.2.1 off) (ν.2.2 off) = .inl (cA 0, n0, .inl f)) (hi : i = nI k) (hk : k < n0) (h31 : n0 < 2 ^ 31) (hd : decode cc pc = .ok (.iastore, 1)) (hS : va_S A H0 H locs) (hA : A (b + off))
    (kk : ∀ (H1 : Heap) (locs1 : List Loc), WC D cA s0 z b (uI ν off k x) H1 → va_S A H0 H1 locs1 → xW p l e R s m args below meth c nL Q H1 locs1 cells slots (pc + 1) lv st) : xW p l e R s m args below meth c nL Q H locs cells slots pc lv (.int x :: .int i :: .ref (b + off) :: st) := by
  obtain ⟨hb, hz, hzz, hx, nm, hR⟩ := hw
  exact x_iastN off C hR hlt (hs nm) hi hk h31 hd hS hA (fun H1 locs1 h1 h2 h3 h4 => kk H1 locs1 (WC.upd hb hz hzz hx hlt h1 h2 h3) h4)
theorem y_bast {n0 k : Nat} {i : Int32} {x : Int32} (off : Nat) (C : xC D cA s0 own cc nL rt p s m args meth c) (hw : WC D cA s0 z b ν H) (hlt : off < 2628) (hs : ∀ nm f, shC nm cA b off f (ν.2.1 off) (ν.2.2 off) = .inl (cA 2, n0, .inl f)) (hi : i = nI k) (hk : k < n0) (h31 : n0 < 2 ^ 31) (hd : decode cc pc = .ok (.bastore, 1)) (hS : va_S A H0 H locs) (hA : A (b + off))
    (kk : ∀ (H1 : Heap) (locs1 : List Loc), WC D cA s0 z b (uI ν off k (vp_nar .byte x)) H1 → va_S A H0 H1 locs1 → xW p l e R s m args below meth c nL Q H1 locs1 cells slots (pc + 1) lv st) : xW p l e R s m args below meth c nL Q H locs cells slots pc lv (.int x :: .int i :: .ref (b + off) :: st) := by
  obtain ⟨hb, hz, hzz, hx, nm, hR⟩ := hw
  exact x_bastN off C hR hlt (hs nm) hi hk h31 hd hS hA (fun H1 locs1 h1 h2 h3 h4 => kk H1 locs1 (WC.upd hb hz hzz hx hlt h1 h2 h3) h4)
end YROWS
