/-! The start's memories, of the class and of the model. -/
def nu0I (off : Nat) : Nat → Int32 :=
  if off < 7 then fun _ => 0 else if off < 334 then fIni (off - 7) else if off < 661 then fIni (off - 334) else if off = 661 then (fun k => if k = 10 then -1 else 0) else if off < 664 then fun _ => 0 else if off < 2626 then fIni ((off - 664) % 327) else fun _ => 0
def nu0 : Mm := (nu0I, fun _ _ => 0, fun _ _ => 0)
def mu0 : Mm := (fun o => if o = 0 then (fun k => if k = 13 then -1 else 0) else if o = 1 then upd (fun _ => 0) 32 30 else fun _ => 0, fun _ _ => 0, fun _ _ => 1)
theorem shLed_at {nr b L r : Nat} {cA : Nat → ClassId} {f : Nat → Int32} {p : Nat → Int64} : shLed (fun _ => nr) cA (b + L) 0 r f p = shLed (fun _ => nr) cA b L r f p := by
  unfold shLed
  simp only [Nat.zero_add, Nat.add_assoc]
section INIT
variable {D : va_G} {cA : Nat → ClassId} {nr b : Nat} {H : Heap}
theorem CE_lo {off : Nat} (ho : off < 7) (h : va_at D xcl (b + off, CE cA nr b [.ref (b + 1), .ref (b + 4), .ref (b + 7), .ref (b + 334), .ref (b + 661), .ref (b + 662), .ref (b + 2626), .ref (b + 2627)] off) H) : va_at D xcl (b + off, shC (fun _ => nr) cA b off (nu0.1 off) (nu0.2.1 off) (nu0.2.2 off)) H := by
  match off, ho, h with
  | 0, _, h => exact h
  | 1, _, h => exact h
  | 2, _, h => exact h
  | 3, _, h => exact h
  | 4, _, h => exact h
  | 5, _, h => exact h
  | 6, _, h => exact h
  | k + 7, g, _ => exact absurd g (by omega)
set_option maxRecDepth 20000 in
theorem CE_sh {off : Nat} (ho : off < 2628) (h : va_at D xcl (b + off, CE cA nr b [.ref (b + 1), .ref (b + 4), .ref (b + 7), .ref (b + 334), .ref (b + 661), .ref (b + 662), .ref (b + 2626), .ref (b + 2627)] off) H) : va_at D xcl (b + off, shC (fun _ => nr) cA b off (nu0.1 off) (nu0.2.1 off) (nu0.2.2 off)) H := by
  by_cases h7 : off < 7
  · exact CE_lo h7 h
  have e0 : nu0.1 off = nu0I off := rfl
  have e1 : nu0.2.1 off = fun _ => 0 := rfl
  rw [e0, e1]
  unfold CE at h
  unfold shC nu0I
  rw [if_neg (by omega), if_neg (by omega), if_neg (by omega)] at h
  rw [if_neg h7, if_neg h7]
  by_cases h1 : off < 334
  · rw [if_pos h1] at h ⊢
    rw [if_pos h1, ← shLed_at]
    unfold RowEnd RowE at h
    exact h
  rw [if_neg h1] at h ⊢
  rw [if_neg h1]
  by_cases h2 : off < 661
  · rw [if_pos h2] at h ⊢
    rw [if_pos h2, ← shLed_at]
    unfold RowEnd RowE at h
    exact h
  rw [if_neg h2] at h ⊢
  rw [if_neg h2]
  by_cases h3 : off = 661
  · rw [if_pos (show off < 662 by omega)] at h
    rw [if_pos h3, if_pos h3]
    exact h
  rw [if_neg h3, if_neg h3]
  rw [if_neg (by omega)] at h
  by_cases h4 : off = 662
  · rw [if_pos (show off < 2626 by omega)] at h
    unfold HisE at h
    rw [if_pos (show off - 662 = 0 by omega)] at h
    rw [if_pos h4, if_pos (show off < 664 by omega)]
    exact h
  rw [if_neg h4]
  by_cases h5 : off = 663
  · rw [if_pos (show off < 2626 by omega)] at h
    unfold HisE at h
    rw [if_neg (show ¬ off - 662 = 0 by omega), if_pos (show off - 662 = 1 by omega)] at h
    rw [if_pos h5]
    refine q_conv (f := pf (b + 662) 2 327 6) h (fun i hi => ?_)
    show pf (b + 662) 2 327 6 i = some (b + (664 + 327 * i))
    rw [show b + (664 + 327 * i) = b + 662 + (0 + (2 + 327 * i)) by omega]
    exact pf_in hi
  rw [if_neg h5]
  rw [if_neg (show ¬ off < 664 by omega)]
  by_cases h6 : off < 2626
  · rw [if_pos h6] at h ⊢
    rw [if_pos h6]
    unfold HisE at h
    rw [if_neg (by omega), if_neg (by omega), show off - 662 - 2 = off - 664 by omega, show b + 662 + (2 + 327 * ((off - 664) / 327)) = b + (664 + 327 * ((off - 664) / 327)) by omega] at h
    rw [← shLed_at]
    unfold RowEnd RowE at h
    exact h
  rw [if_neg h6] at h ⊢
  by_cases h8 : off = 2626
  · rw [if_pos (show off < 2627 by omega)] at h
    rw [if_pos h8]
    exact h
  rw [if_neg (show ¬ off < 2627 by omega)] at h
  rw [if_neg h8]
  exact h
theorem CE_WC {s0 : State} (hb : s0.heap.size = b) {H1 : Heap} (h : Lay D (CE cA nr b [.ref (b + 1), .ref (b + 4), .ref (b + 7), .ref (b + 334), .ref (b + 661), .ref (b + 662), .ref (b + 2626), .ref (b + 2627)]) b 2628 H) (hx : extS s0 H1) (hz : b + 2637 ≤ H1.size) (hk : ∀ q : Nat, q < b + 2628 → H1[q]? = H[q]?) : WC D cA s0 (b + 2637) b nu0 H1 :=
  ⟨Nat.le_of_eq hb, by omega, hz, hx, fun _ => nr, fun off ho => (CE_sh ho (h.2 off ho)).kept (hk _ (by show b + off < b + 2628; omega))⟩
theorem ME_RX {s0 : State} {a : Nat} {H1 : Heap} (hb : s0.heap.size ≤ a) (h : Lay D (ME cA [.int 0, .ref (a + 1), .ref (a + 2), .ref (a + 1), .ref (a + 3), .ref (a + 4), .int 0, .int 0, .int 0, .int 0, .int 0, .int 0, .int 0, .int (-1), .int 0, .int 0, .int 0, .ref (a + 5), .ref (a + 6), .int 0, .ref (a + 7), .int 0] (upd (fun _ => 0) 32 30)) a 8 H) (hx : extS s0 H1) {z : Nat} (hz : a + 8 ≤ z) (hz1 : z ≤ H1.size) (hk : ∀ q : Nat, q < a + 8 → H1[q]? = H[q]?) : RX D cA s0 z a mu0 H1 := by
  refine ⟨hb, hz, hz1, hx, fun off ho => ?_⟩
  have h1 := (h.2 off ho).kept (hk _ (by show a + off < a + 8; omega))
  match off, ho, h1 with
  | 0, _, h1 => exact h1
  | 1, _, h1 => exact h1
  | 2, _, h1 => exact h1
  | 3, _, h1 => exact h1
  | 4, _, h1 => exact h1
  | 5, _, h1 => exact h1
  | 6, _, h1 => exact h1
  | 7, _, h1 => exact h1
  | k + 8, g, _ => exact absurd g (by omega)
end INIT
