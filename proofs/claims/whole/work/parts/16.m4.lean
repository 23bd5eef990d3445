def f_X12_laySet (μ : Mm) (a1 : Int32) : Int32 := f_X12_daysFrom (f_X12_ofVersion μ (f_X12_version μ) (10 : Int32)) (f_X12_daysOf μ a1)
set_option maxRecDepth 20000 in
set_option maxHeartbeats 4000000 in
theorem c_X12_laySet (l : Launch) (D : va_G) (cA : Nat → ClassId) (s0 : State) (b : Nat) (μ : Mm) (hok : OkR (μ.1 1)) (a1 : Int32) (hv_a1 : vp_in a1 41) : Met l yX12_laySet (wsG yX12_laySet cX12_laySet 2 (some (FieldType.int))) { frames := 2, cells := 0, slots := 0, locals := 43 } (xP D cA s0 [.ref b, .int a1] (RM D cA b μ)) (xQr (some (.int (f_X12_laySet μ a1)))) 0 0 xN := by
  refine x_start (own := RX12) [(0, .ref b), (1, .int a1)] rfl rfl (by decide) (nb rfl) ?_
  intro p e s m args below meth c C hw
  obtain ⟨F, hF⟩ : ∃ z, z = (f_X12_laySet μ a1) := ⟨_, rfl⟩
  rw [← hF]
  obtain ⟨hn_a1, hl_a1⟩ := vpn hv_a1 (by decide)
  refine x_aload_n C dX12_laySet_0 rfl ?_
  refine x_aload_n C dX12_laySet_1 rfl ?_
  refine x_goR (fun ls h => x_runV (As := []) [.ref b] h C ml_X12_256 (c_X12_version l D cA s0 b μ ) ⟨rfl, rfl, nb rfl, nb rfl⟩ rfl (M_obj hw) rfl hw (nb rfl) ⟨Nat.zero_le _, Nat.zero_le _⟩ dX12_laySet_2) ?_
  obtain ⟨hn1, hl2⟩ := vpn (f_version_in hok) (by decide)
  refine x_bipush (10 : Int32) C dX12_laySet_5 rfl ?_
  refine x_goR (fun ls h => x_runV (As := [.int (f_X12_version μ), .int (10 : Int32)]) [] h C ml_X12_240 (c_X12_ofVersion l D cA s0 b μ (f_X12_version μ) (10 : Int32) (ixin hn1 (by omega) (by decide)) (ixin (ixl (x := (10 : Int32)) 10 rfl) (by omega) (by decide))) ⟨rfl, rfl, nb rfl, nb rfl⟩ rfl (M_obj hw) rfl hw (nb rfl) ⟨Nat.zero_le _, Nat.zero_le _⟩ dX12_laySet_7) ?_
  obtain ⟨hn3, hl4⟩ := vpn (f_ofVersion_free hok (ixin hn1 (by omega) (by decide))) (by decide)
  refine x_aload_n C dX12_laySet_10 rfl ?_
  refine x_iload_n C dX12_laySet_11 rfl ?_
  refine x_goR (fun ls h => x_runV (As := [.int a1]) [.int (f_X12_ofVersion μ (f_X12_version μ) (10 : Int32))] h C ml_X12_299 (c_X12_daysOf l D cA s0 b μ a1 (ixin hn_a1 (by omega) (by decide))) ⟨rfl, rfl, nb rfl, nb rfl⟩ rfl (M_obj hw) rfl hw (nb rfl) ⟨Nat.zero_le _, Nat.zero_le _⟩ dX12_laySet_12) ?_
  obtain ⟨hn5, hl6⟩ := vpn (f_daysOf_in hok (ixin hn_a1 (by omega) (by decide))) (by decide)
  refine x_goR (fun ls h => x_runS (As := [.int (f_X12_ofVersion μ (f_X12_version μ) (10 : Int32)), .int (f_X12_daysOf μ a1)]) [] h C ml_X12_302 (c_X12_daysFrom l D cA s0 (f_X12_ofVersion μ (f_X12_version μ) (10 : Int32)) (f_X12_daysOf μ a1) (ixin hn3 (by omega) (by decide)) (ixin hn5 (by omega) (by decide))) ⟨rfl, rfl, nb rfl, nb rfl⟩ rfl trivial (nb rfl) ⟨Nat.zero_le _, Nat.zero_le _⟩ dX12_laySet_15) ?_
  exact x_iretR C rfl dX12_laySet_18 (e_i hF)
def f_X12_billedSet_L4 (μ : Mm) (a1 : Int32) : Nat → Int32 → Int32 → Int32
  | 0, _, _ => 0
  | n + 1, x2, x3 => (if (μ.1 1 2) ≤ x3 then x2 &&& (7 : Int32) else (if (f_X12_ofInvoice μ x3 (0 : Int32)) = a1 then (f_X12_billedSet_L4 μ a1 n (x2 ||| ((f_X12_ofInvoice μ x3 (3 : Int32)) &&& ((f_X12_ofInvoice μ x3 (4 : Int32)) ^^^ (-1 : Int32)))) (x3 + (1 : Int32))) else (f_X12_billedSet_L4 μ a1 n (x2 ||| (0 : Int32)) (x3 + (1 : Int32)))))
def f_X12_billedSet (μ : Mm) (a1 : Int32) : Int32 := (f_X12_billedSet_L4 μ a1 61 (0 : Int32) (0 : Int32))
set_option maxRecDepth 20000 in
set_option maxHeartbeats 4000000 in
theorem c_X12_billedSet (l : Launch) (D : va_G) (cA : Nat → ClassId) (s0 : State) (b : Nat) (μ : Mm) (hok : OkR (μ.1 1)) (a1 : Int32) : Met l yX12_billedSet (wsG yX12_billedSet cX12_billedSet 4 (some (FieldType.int))) { frames := 1, cells := 0, slots := 0, locals := 22 } (xP D cA s0 [.ref b, .int a1] (RM D cA b μ)) (xQr (some (.int (f_X12_billedSet μ a1)))) 0 0 xN := by
  refine x_start (own := RX12) [(0, .ref b), (1, .int a1)] rfl rfl (by decide) (nb rfl) ?_
  intro p e s m args below meth c C hw
  obtain ⟨F, hF⟩ : ∃ z, z = (f_X12_billedSet μ a1) := ⟨_, rfl⟩
  rw [← hF]
  have hL4 : ∀ (n : Nat) (x2 : Int32) (x3 : Int32) (hnx3 : x3 = nI (cl x3)) (hbx3 : cl x3 ≤ 60) (hmx3 : 60 < cl x3 + n), F = f_X12_billedSet_L4 μ a1 n x2 x3 → xW p l e { frames := 1, cells := 0, slots := 0, locals := 22 } s m args below meth c 4 (MQ below (xQr (some (.int F))) args s 0 0 xN) s.heap [] 0 0 4 [(0, .ref b), (1, .int a1), (2, .int x2), (3, .int x3)] [] := by
    intro n
    induction n with
    | zero =>
      intro x2 x3 hnx3 hbx3 hmx3 hF
      exact False.elim (by omega)
    | succ n ih =>
      intro x2 x3 hnx3 hbx3 hmx3 hF
      have ih4 := ih
      refine x_iload_n C dX12_billedSet_4 rfl ?_
      refine x_aload_n C dX12_billedSet_5 rfl ?_
      refine x_get (.ref (b + 1)) C fl_X12_17 (M_obj hw) rfl dX12_billedSet_6 ?_
      refine x_iconst (2 : Int32) C dX12_billedSet_9 rfl ?_
      refine x_ialdN C (M_a1 hw) (ixl (x := (2 : Int32)) 2 rfl) (by omega) (by decide) dX12_billedSet_10 ?_
      obtain ⟨hn1, hl2⟩ := vpn (OkR_2 hok) (by decide)
      refine x_icmp_ge 52 C dX12_billedSet_11 (by decide) (fun c3 => ?_) (fun c3 => ?_)
      · have hF := hF.trans (if_pos c3)
        have q4 := (nleI hn1 hnx3 (by omega) (by omega)).mp c3
        refine x_iload_n C dX12_billedSet_52 rfl ?_
        refine x_bipush (7 : Int32) C dX12_billedSet_53 rfl ?_
        refine x_iand C dX12_billedSet_55 ?_
        exact x_iretR C rfl dX12_billedSet_56 (e_i hF)
      · have hF := hF.trans (if_neg c3)
        have q4 := mt (nleI hn1 hnx3 (by omega) (by omega)).mpr c3
        refine x_iload_n C dX12_billedSet_14 rfl ?_
        refine x_aload_n C dX12_billedSet_15 rfl ?_
        refine x_iload_n C dX12_billedSet_16 rfl ?_
        refine x_iconst (0 : Int32) C dX12_billedSet_17 rfl ?_
        refine x_goR (fun ls h => x_runV (As := [.int x3, .int (0 : Int32)]) [.int x2] h C ml_X12_305 (c_X12_ofInvoice l D cA s0 b μ x3 (0 : Int32) (ixin hnx3 (by omega) (by decide)) (ixin (ixl (x := (0 : Int32)) 0 rfl) (by omega) (by decide))) ⟨rfl, rfl, nb rfl, nb rfl⟩ rfl (M_obj hw) rfl hw (nb rfl) ⟨Nat.zero_le _, Nat.zero_le _⟩ dX12_billedSet_18) ?_
        obtain ⟨hn5, hl6⟩ := vpn (f_ofInvoice_call hok (ixin hnx3 (by omega) (by decide))) (by decide)
        refine x_iload_n C dX12_billedSet_21 rfl ?_
        refine x_icmp_ne 43 C dX12_billedSet_22 (by decide) (fun c7 => ?_) (fun c7 => ?_)
        · have hF := hF.trans (if_neg c7)
          refine x_iconst (0 : Int32) C dX12_billedSet_43 rfl ?_
          refine x_ior C dX12_billedSet_44 ?_
          refine x_istore_n [(2, .int (x2 ||| (0 : Int32))), (0, .ref b), (1, .int a1), (3, .int x3)] C dX12_billedSet_45 rfl (by decide) rfl ?_
          refine x_iinc (x3 + (1 : Int32)) [(3, .int (x3 + (1 : Int32))), (2, .int (x2 ||| (0 : Int32))), (0, .ref b), (1, .int a1)] C dX12_billedSet_46 rfl rfl (by decide) rfl ?_
          refine x_goto 4 C dX12_billedSet_49 (by decide) ?_
          refine x_sub [(0, .ref b), (1, .int a1), (2, .int (x2 ||| (0 : Int32))), (3, .int (x3 + (1 : Int32)))] [2, 3, 1, 0] rfl ?_
          exact ih4 (x2 ||| (0 : Int32)) (x3 + (1 : Int32)) (natS (ixa hnx3 (ixl (x := (1 : Int32)) 1 rfl)) (by omega)).1 (by rw [(natS (ixa hnx3 (ixl (x := (1 : Int32)) 1 rfl)) (by omega)).2]; omega) (by rw [(natS (ixa hnx3 (ixl (x := (1 : Int32)) 1 rfl)) (by omega)).2]; omega)  hF
        · have hF := hF.trans (if_pos c7)
          refine x_aload_n C dX12_billedSet_25 rfl ?_
          refine x_iload_n C dX12_billedSet_26 rfl ?_
          refine x_iconst (3 : Int32) C dX12_billedSet_27 rfl ?_
          refine x_goR (fun ls h => x_runV (As := [.int x3, .int (3 : Int32)]) [.int x2] h C ml_X12_305 (c_X12_ofInvoice l D cA s0 b μ x3 (3 : Int32) (ixin hnx3 (by omega) (by decide)) (ixin (ixl (x := (3 : Int32)) 3 rfl) (by omega) (by decide))) ⟨rfl, rfl, nb rfl, nb rfl⟩ rfl (M_obj hw) rfl hw (nb rfl) ⟨Nat.zero_le _, Nat.zero_le _⟩ dX12_billedSet_28) ?_
          refine x_aload_n C dX12_billedSet_31 rfl ?_
          refine x_iload_n C dX12_billedSet_32 rfl ?_
          refine x_iconst (4 : Int32) C dX12_billedSet_33 rfl ?_
          refine x_goR (fun ls h => x_runV (As := [.int x3, .int (4 : Int32)]) [.int (f_X12_ofInvoice μ x3 (3 : Int32)), .int x2] h C ml_X12_305 (c_X12_ofInvoice l D cA s0 b μ x3 (4 : Int32) (ixin hnx3 (by omega) (by decide)) (ixin (ixl (x := (4 : Int32)) 4 rfl) (by omega) (by decide))) ⟨rfl, rfl, nb rfl, nb rfl⟩ rfl (M_obj hw) rfl hw (nb rfl) ⟨Nat.zero_le _, Nat.zero_le _⟩ dX12_billedSet_34) ?_
          refine x_iconst (-1 : Int32) C dX12_billedSet_37 rfl ?_
          refine x_ixor C dX12_billedSet_38 ?_
          refine x_iand C dX12_billedSet_39 ?_
          refine x_goto 44 C dX12_billedSet_40 (by decide) ?_
          refine x_ior C dX12_billedSet_44 ?_
          refine x_istore_n [(2, .int (x2 ||| ((f_X12_ofInvoice μ x3 (3 : Int32)) &&& ((f_X12_ofInvoice μ x3 (4 : Int32)) ^^^ (-1 : Int32))))), (0, .ref b), (1, .int a1), (3, .int x3)] C dX12_billedSet_45 rfl (by decide) rfl ?_
          refine x_iinc (x3 + (1 : Int32)) [(3, .int (x3 + (1 : Int32))), (2, .int (x2 ||| ((f_X12_ofInvoice μ x3 (3 : Int32)) &&& ((f_X12_ofInvoice μ x3 (4 : Int32)) ^^^ (-1 : Int32))))), (0, .ref b), (1, .int a1)] C dX12_billedSet_46 rfl rfl (by decide) rfl ?_
          refine x_goto 4 C dX12_billedSet_49 (by decide) ?_
          refine x_sub [(0, .ref b), (1, .int a1), (2, .int (x2 ||| ((f_X12_ofInvoice μ x3 (3 : Int32)) &&& ((f_X12_ofInvoice μ x3 (4 : Int32)) ^^^ (-1 : Int32))))), (3, .int (x3 + (1 : Int32)))] [2, 3, 1, 0] rfl ?_
          exact ih4 (x2 ||| ((f_X12_ofInvoice μ x3 (3 : Int32)) &&& ((f_X12_ofInvoice μ x3 (4 : Int32)) ^^^ (-1 : Int32)))) (x3 + (1 : Int32)) (natS (ixa hnx3 (ixl (x := (1 : Int32)) 1 rfl)) (by omega)).1 (by rw [(natS (ixa hnx3 (ixl (x := (1 : Int32)) 1 rfl)) (by omega)).2]; omega) (by rw [(natS (ixa hnx3 (ixl (x := (1 : Int32)) 1 rfl)) (by omega)).2]; omega)  hF
  refine x_iconst (0 : Int32) C dX12_billedSet_0 rfl ?_
  refine x_istore_n [(2, .int (0 : Int32)), (0, .ref b), (1, .int a1)] C dX12_billedSet_1 rfl (by decide) rfl ?_
  refine x_iconst (0 : Int32) C dX12_billedSet_2 rfl ?_
  refine x_istore_n [(3, .int (0 : Int32)), (2, .int (0 : Int32)), (0, .ref b), (1, .int a1)] C dX12_billedSet_3 rfl (by decide) rfl ?_
  refine x_sub [(0, .ref b), (1, .int a1), (2, .int (0 : Int32)), (3, .int (0 : Int32))] [2, 3, 1, 0] rfl ?_
  exact hL4 61 (0 : Int32) (0 : Int32) (natS (ixl (x := (0 : Int32)) 0 rfl) (by omega)).1 (by rw [(natS (ixl (x := (0 : Int32)) 0 rfl) (by omega)).2]; omega) (by rw [(natS (ixl (x := (0 : Int32)) 0 rfl) (by omega)).2]; omega)  hF
def f_X12_billedDaySet_L4 (μ : Mm) (a1 : Int32) : Nat → Int32 → Int32 → Int32
  | 0, _, _ => 0
  | n + 1, x2, x3 => (if (μ.1 1 2) ≤ x3 then x2 else (if (f_X12_ofInvoice μ x3 (0 : Int32)) = a1 then (if f_X12_has (f_X12_ofInvoice μ x3 (4 : Int32)) (3 : Int32) then (f_X12_billedDaySet_L4 μ a1 n (x2 ||| (0 : Int32)) (x3 + (1 : Int32))) else (f_X12_billedDaySet_L4 μ a1 n (x2 ||| (f_X12_ofInvoice μ x3 (5 : Int32))) (x3 + (1 : Int32)))) else (f_X12_billedDaySet_L4 μ a1 n (x2 ||| (0 : Int32)) (x3 + (1 : Int32)))))
def f_X12_billedDaySet (μ : Mm) (a1 : Int32) : Int32 := (f_X12_billedDaySet_L4 μ a1 61 (0 : Int32) (0 : Int32))
set_option maxRecDepth 20000 in
set_option maxHeartbeats 4000000 in
theorem c_X12_billedDaySet (l : Launch) (D : va_G) (cA : Nat → ClassId) (s0 : State) (b : Nat) (μ : Mm) (hok : OkR (μ.1 1)) (a1 : Int32) : Met l yX12_billedDaySet (wsG yX12_billedDaySet cX12_billedDaySet 4 (some (FieldType.int))) { frames := 1, cells := 0, slots := 0, locals := 22 } (xP D cA s0 [.ref b, .int a1] (RM D cA b μ)) (xQr (some (.int (f_X12_billedDaySet μ a1)))) 0 0 xN := by
  refine x_start (own := RX12) [(0, .ref b), (1, .int a1)] rfl rfl (by decide) (nb rfl) ?_
  intro p e s m args below meth c C hw
  obtain ⟨F, hF⟩ : ∃ z, z = (f_X12_billedDaySet μ a1) := ⟨_, rfl⟩
  rw [← hF]
  have hL4 : ∀ (n : Nat) (x2 : Int32) (x3 : Int32) (hnx3 : x3 = nI (cl x3)) (hbx3 : cl x3 ≤ 60) (hmx3 : 60 < cl x3 + n), F = f_X12_billedDaySet_L4 μ a1 n x2 x3 → xW p l e { frames := 1, cells := 0, slots := 0, locals := 22 } s m args below meth c 4 (MQ below (xQr (some (.int F))) args s 0 0 xN) s.heap [] 0 0 4 [(0, .ref b), (1, .int a1), (2, .int x2), (3, .int x3)] [] := by
    intro n
    induction n with
    | zero =>
      intro x2 x3 hnx3 hbx3 hmx3 hF
      exact False.elim (by omega)
    | succ n ih =>
      intro x2 x3 hnx3 hbx3 hmx3 hF
      have ih4 := ih
      refine x_iload_n C dX12_billedDaySet_4 rfl ?_
      refine x_aload_n C dX12_billedDaySet_5 rfl ?_
      refine x_get (.ref (b + 1)) C fl_X12_17 (M_obj hw) rfl dX12_billedDaySet_6 ?_
      refine x_iconst (2 : Int32) C dX12_billedDaySet_9 rfl ?_
      refine x_ialdN C (M_a1 hw) (ixl (x := (2 : Int32)) 2 rfl) (by omega) (by decide) dX12_billedDaySet_10 ?_
      obtain ⟨hn1, hl2⟩ := vpn (OkR_2 hok) (by decide)
      refine x_icmp_ge 56 C dX12_billedDaySet_11 (by decide) (fun c3 => ?_) (fun c3 => ?_)
      · have hF := hF.trans (if_pos c3)
        have q4 := (nleI hn1 hnx3 (by omega) (by omega)).mp c3
        refine x_iload_n C dX12_billedDaySet_56 rfl ?_
        exact x_iretR C rfl dX12_billedDaySet_57 (e_i hF)
      · have hF := hF.trans (if_neg c3)
        have q4 := mt (nleI hn1 hnx3 (by omega) (by omega)).mpr c3
        refine x_iload_n C dX12_billedDaySet_14 rfl ?_
        refine x_aload_n C dX12_billedDaySet_15 rfl ?_
        refine x_iload_n C dX12_billedDaySet_16 rfl ?_
        refine x_iconst (0 : Int32) C dX12_billedDaySet_17 rfl ?_
        refine x_goR (fun ls h => x_runV (As := [.int x3, .int (0 : Int32)]) [.int x2] h C ml_X12_305 (c_X12_ofInvoice l D cA s0 b μ x3 (0 : Int32) (ixin hnx3 (by omega) (by decide)) (ixin (ixl (x := (0 : Int32)) 0 rfl) (by omega) (by decide))) ⟨rfl, rfl, nb rfl, nb rfl⟩ rfl (M_obj hw) rfl hw (nb rfl) ⟨Nat.zero_le _, Nat.zero_le _⟩ dX12_billedDaySet_18) ?_
        obtain ⟨hn5, hl6⟩ := vpn (f_ofInvoice_call hok (ixin hnx3 (by omega) (by decide))) (by decide)
        refine x_iload_n C dX12_billedDaySet_21 rfl ?_
        refine x_icmp_ne 47 C dX12_billedDaySet_22 (by decide) (fun c7 => ?_) (fun c7 => ?_)
        · have hF := hF.trans (if_neg c7)
          refine x_iconst (0 : Int32) C dX12_billedDaySet_47 rfl ?_
          refine x_ior C dX12_billedDaySet_48 ?_
          refine x_istore_n [(2, .int (x2 ||| (0 : Int32))), (0, .ref b), (1, .int a1), (3, .int x3)] C dX12_billedDaySet_49 rfl (by decide) rfl ?_
          refine x_iinc (x3 + (1 : Int32)) [(3, .int (x3 + (1 : Int32))), (2, .int (x2 ||| (0 : Int32))), (0, .ref b), (1, .int a1)] C dX12_billedDaySet_50 rfl rfl (by decide) rfl ?_
          refine x_goto 4 C dX12_billedDaySet_53 (by decide) ?_
          refine x_sub [(0, .ref b), (1, .int a1), (2, .int (x2 ||| (0 : Int32))), (3, .int (x3 + (1 : Int32)))] [2, 3, 1, 0] rfl ?_
          exact ih4 (x2 ||| (0 : Int32)) (x3 + (1 : Int32)) (natS (ixa hnx3 (ixl (x := (1 : Int32)) 1 rfl)) (by omega)).1 (by rw [(natS (ixa hnx3 (ixl (x := (1 : Int32)) 1 rfl)) (by omega)).2]; omega) (by rw [(natS (ixa hnx3 (ixl (x := (1 : Int32)) 1 rfl)) (by omega)).2]; omega)  hF
        · have hF := hF.trans (if_pos c7)
          refine x_aload_n C dX12_billedDaySet_25 rfl ?_
          refine x_iload_n C dX12_billedDaySet_26 rfl ?_
          refine x_iconst (4 : Int32) C dX12_billedDaySet_27 rfl ?_
          refine x_goR (fun ls h => x_runV (As := [.int x3, .int (4 : Int32)]) [.int x2] h C ml_X12_305 (c_X12_ofInvoice l D cA s0 b μ x3 (4 : Int32) (ixin hnx3 (by omega) (by decide)) (ixin (ixl (x := (4 : Int32)) 4 rfl) (by omega) (by decide))) ⟨rfl, rfl, nb rfl, nb rfl⟩ rfl (M_obj hw) rfl hw (nb rfl) ⟨Nat.zero_le _, Nat.zero_le _⟩ dX12_billedDaySet_28) ?_
          refine x_iconst (3 : Int32) C dX12_billedDaySet_31 rfl ?_
          refine x_goR (fun ls h => x_runS (As := [.int (f_X12_ofInvoice μ x3 (4 : Int32)), .int (3 : Int32)]) [.int x2] h C ml_X12_308 (c_X12_has l D cA s0 (f_X12_ofInvoice μ x3 (4 : Int32)) (3 : Int32) ) ⟨rfl, rfl, nb rfl, nb rfl⟩ rfl trivial (nb rfl) ⟨Nat.zero_le _, Nat.zero_le _⟩ dX12_billedDaySet_32) ?_
          refine x_ifB_ne 47 C dX12_billedDaySet_35 (by decide) (fun c8 => ?_) (fun c8 => ?_)
          · have hF := hF.trans (if_pos c8)
            refine x_iconst (0 : Int32) C dX12_billedDaySet_47 rfl ?_
            refine x_ior C dX12_billedDaySet_48 ?_
            refine x_istore_n [(2, .int (x2 ||| (0 : Int32))), (0, .ref b), (1, .int a1), (3, .int x3)] C dX12_billedDaySet_49 rfl (by decide) rfl ?_
            refine x_iinc (x3 + (1 : Int32)) [(3, .int (x3 + (1 : Int32))), (2, .int (x2 ||| (0 : Int32))), (0, .ref b), (1, .int a1)] C dX12_billedDaySet_50 rfl rfl (by decide) rfl ?_
            refine x_goto 4 C dX12_billedDaySet_53 (by decide) ?_
            refine x_sub [(0, .ref b), (1, .int a1), (2, .int (x2 ||| (0 : Int32))), (3, .int (x3 + (1 : Int32)))] [2, 3, 1, 0] rfl ?_
            exact ih4 (x2 ||| (0 : Int32)) (x3 + (1 : Int32)) (natS (ixa hnx3 (ixl (x := (1 : Int32)) 1 rfl)) (by omega)).1 (by rw [(natS (ixa hnx3 (ixl (x := (1 : Int32)) 1 rfl)) (by omega)).2]; omega) (by rw [(natS (ixa hnx3 (ixl (x := (1 : Int32)) 1 rfl)) (by omega)).2]; omega)  hF
          · have hF := hF.trans (if_neg (nbt c8))
            refine x_aload_n C dX12_billedDaySet_38 rfl ?_
            refine x_iload_n C dX12_billedDaySet_39 rfl ?_
            refine x_iconst (5 : Int32) C dX12_billedDaySet_40 rfl ?_
            refine x_goR (fun ls h => x_runV (As := [.int x3, .int (5 : Int32)]) [.int x2] h C ml_X12_305 (c_X12_ofInvoice l D cA s0 b μ x3 (5 : Int32) (ixin hnx3 (by omega) (by decide)) (ixin (ixl (x := (5 : Int32)) 5 rfl) (by omega) (by decide))) ⟨rfl, rfl, nb rfl, nb rfl⟩ rfl (M_obj hw) rfl hw (nb rfl) ⟨Nat.zero_le _, Nat.zero_le _⟩ dX12_billedDaySet_41) ?_
            refine x_goto 48 C dX12_billedDaySet_44 (by decide) ?_
            refine x_ior C dX12_billedDaySet_48 ?_
            refine x_istore_n [(2, .int (x2 ||| (f_X12_ofInvoice μ x3 (5 : Int32)))), (0, .ref b), (1, .int a1), (3, .int x3)] C dX12_billedDaySet_49 rfl (by decide) rfl ?_
            refine x_iinc (x3 + (1 : Int32)) [(3, .int (x3 + (1 : Int32))), (2, .int (x2 ||| (f_X12_ofInvoice μ x3 (5 : Int32)))), (0, .ref b), (1, .int a1)] C dX12_billedDaySet_50 rfl rfl (by decide) rfl ?_
            refine x_goto 4 C dX12_billedDaySet_53 (by decide) ?_
            refine x_sub [(0, .ref b), (1, .int a1), (2, .int (x2 ||| (f_X12_ofInvoice μ x3 (5 : Int32)))), (3, .int (x3 + (1 : Int32)))] [2, 3, 1, 0] rfl ?_
            exact ih4 (x2 ||| (f_X12_ofInvoice μ x3 (5 : Int32))) (x3 + (1 : Int32)) (natS (ixa hnx3 (ixl (x := (1 : Int32)) 1 rfl)) (by omega)).1 (by rw [(natS (ixa hnx3 (ixl (x := (1 : Int32)) 1 rfl)) (by omega)).2]; omega) (by rw [(natS (ixa hnx3 (ixl (x := (1 : Int32)) 1 rfl)) (by omega)).2]; omega)  hF
  refine x_iconst (0 : Int32) C dX12_billedDaySet_0 rfl ?_
  refine x_istore_n [(2, .int (0 : Int32)), (0, .ref b), (1, .int a1)] C dX12_billedDaySet_1 rfl (by decide) rfl ?_
  refine x_iconst (0 : Int32) C dX12_billedDaySet_2 rfl ?_
  refine x_istore_n [(3, .int (0 : Int32)), (2, .int (0 : Int32)), (0, .ref b), (1, .int a1)] C dX12_billedDaySet_3 rfl (by decide) rfl ?_
  refine x_sub [(0, .ref b), (1, .int a1), (2, .int (0 : Int32)), (3, .int (0 : Int32))] [2, 3, 1, 0] rfl ?_
  exact hL4 61 (0 : Int32) (0 : Int32) (natS (ixl (x := (0 : Int32)) 0 rfl) (by omega)).1 (by rw [(natS (ixl (x := (0 : Int32)) 0 rfl) (by omega)).2]; omega) (by rw [(natS (ixl (x := (0 : Int32)) 0 rfl) (by omega)).2]; omega)  hF
def f_X12_billableSet (μ : Mm) (a1 : Int32) : Int32 := ((f_X12_laySet μ a1) &&& ((f_X12_billedDaySet μ a1) ^^^ (-1 : Int32))) &&& ((f_X12_contestedSet μ a1) ^^^ (-1 : Int32))
set_option maxRecDepth 20000 in
set_option maxHeartbeats 4000000 in
theorem c_X12_billableSet (l : Launch) (D : va_G) (cA : Nat → ClassId) (s0 : State) (b : Nat) (μ : Mm) (hok : OkR (μ.1 1)) (a1 : Int32) (hv_a1 : vp_in a1 41) : Met l yX12_billableSet (wsG yX12_billableSet cX12_billableSet 2 (some (FieldType.int))) { frames := 3, cells := 0, slots := 0, locals := 64 } (xP D cA s0 [.ref b, .int a1] (RM D cA b μ)) (xQr (some (.int (f_X12_billableSet μ a1)))) 0 0 xN := by
  refine x_start (own := RX12) [(0, .ref b), (1, .int a1)] rfl rfl (by decide) (nb rfl) ?_
  intro p e s m args below meth c C hw
  obtain ⟨F, hF⟩ : ∃ z, z = (f_X12_billableSet μ a1) := ⟨_, rfl⟩
  rw [← hF]
  obtain ⟨hn_a1, hl_a1⟩ := vpn hv_a1 (by decide)
  refine x_aload_n C dX12_billableSet_0 rfl ?_
  refine x_iload_n C dX12_billableSet_1 rfl ?_
  refine x_goR (fun ls h => x_runV (As := [.int a1]) [] h C ml_X12_311 (c_X12_laySet l D cA s0 b μ hok a1 (ixin hn_a1 (by omega) (by decide))) ⟨rfl, rfl, nb rfl, nb rfl⟩ rfl (M_obj hw) rfl hw (nb rfl) ⟨Nat.zero_le _, Nat.zero_le _⟩ dX12_billableSet_2) ?_
  refine x_aload_n C dX12_billableSet_5 rfl ?_
  refine x_iload_n C dX12_billableSet_6 rfl ?_
  refine x_goR (fun ls h => x_runV (As := [.int a1]) [.int (f_X12_laySet μ a1)] h C ml_X12_314 (c_X12_billedDaySet l D cA s0 b μ hok a1 ) ⟨rfl, rfl, nb rfl, nb rfl⟩ rfl (M_obj hw) rfl hw (nb rfl) ⟨Nat.zero_le _, Nat.zero_le _⟩ dX12_billableSet_7) ?_
  refine x_iconst (-1 : Int32) C dX12_billableSet_10 rfl ?_
  refine x_ixor C dX12_billableSet_11 ?_
  refine x_iand C dX12_billableSet_12 ?_
  refine x_aload_n C dX12_billableSet_13 rfl ?_
  refine x_iload_n C dX12_billableSet_14 rfl ?_
  refine x_goR (fun ls h => x_runV (As := [.int a1]) [.int ((f_X12_laySet μ a1) &&& ((f_X12_billedDaySet μ a1) ^^^ (-1 : Int32)))] h C ml_X12_317 (c_X12_contestedSet l D cA s0 b μ a1 (ixin hn_a1 (by omega) (by decide))) ⟨rfl, rfl, nb rfl, nb rfl⟩ rfl (M_obj hw) rfl hw (nb rfl) ⟨Nat.zero_le _, Nat.zero_le _⟩ dX12_billableSet_15) ?_
  refine x_iconst (-1 : Int32) C dX12_billableSet_18 rfl ?_
  refine x_ixor C dX12_billableSet_19 ?_
  refine x_iand C dX12_billableSet_20 ?_
  exact x_iretR C rfl dX12_billableSet_21 (e_i hF)
def f_X12_lineOf (μ : Mm) (a1 : Int32) (a2 : Int32) (a3 : Int32) (a4 : Int32) (a5 : Int32) : Int32 := (if a4 = (2 : Int32) then f_X12_feeOf μ a3 else (if a4 = 0 then f_X12_duesOf μ a1 a5 else -(((f_X12_duesOf μ a1 a5) * (f_X12_percentOf μ a2 a5)) / (100 : Int32))))
set_option maxRecDepth 20000 in
set_option maxHeartbeats 4000000 in
theorem c_X12_lineOf (l : Launch) (D : va_G) (cA : Nat → ClassId) (s0 : State) (b : Nat) (μ : Mm) (hok : OkR (μ.1 1)) (a1 : Int32) (a2 : Int32) (a3 : Int32) (a4 : Int32) (a5 : Int32) (hv_a5 : vp_in a5 21) : Met l yX12_lineOf (wsG yX12_lineOf cX12_lineOf 7 (some (FieldType.int))) { frames := 3, cells := 0, slots := 0, locals := 68 } (xP D cA s0 [.ref b, .int a1, .int a2, .int a3, .int a4, .int a5] (RM D cA b μ)) (xQr (some (.int (f_X12_lineOf μ a1 a2 a3 a4 a5)))) 0 0 xN := by
  refine x_start (own := RX12) [(0, .ref b), (1, .int a1), (2, .int a2), (3, .int a3), (4, .int a4), (5, .int a5)] rfl rfl (by decide) (nb rfl) ?_
  intro p e s m args below meth c C hw
  obtain ⟨F, hF⟩ : ∃ z, z = (f_X12_lineOf μ a1 a2 a3 a4 a5) := ⟨_, rfl⟩
  rw [← hF]
  obtain ⟨hn_a5, hl_a5⟩ := vpn hv_a5 (by decide)
  refine x_iload C dX12_lineOf_0 rfl ?_
  refine x_iconst (2 : Int32) C dX12_lineOf_2 rfl ?_
  refine x_icmp_ne 12 C dX12_lineOf_3 (by decide) (fun c1 => ?_) (fun c1 => ?_)
  · have hF := hF.trans (if_neg c1)
    refine x_aload_n C dX12_lineOf_12 rfl ?_
    refine x_iload_n C dX12_lineOf_13 rfl ?_
    refine x_iload C dX12_lineOf_14 rfl ?_
    refine x_goR (fun ls h => x_runV (As := [.int a1, .int a5]) [] h C ml_X12_273 (c_X12_duesOf l D cA s0 b μ hok a1 a5 (ixin hn_a5 (by omega) (by decide))) ⟨rfl, rfl, nb rfl, nb rfl⟩ rfl (M_obj hw) rfl hw (nb rfl) ⟨Nat.zero_le _, Nat.zero_le _⟩ dX12_lineOf_16) ?_
    refine x_istore [(6, .int (f_X12_duesOf μ a1 a5)), (0, .ref b), (1, .int a1), (2, .int a2), (3, .int a3), (4, .int a4), (5, .int a5)] C dX12_lineOf_19 (by decide) rfl ?_
    refine x_iload C dX12_lineOf_21 rfl ?_
    refine x_if_ne 31 C dX12_lineOf_23 (by decide) (fun c2 => ?_) (fun c2 => ?_)
    · have hF := hF.trans (if_neg c2)
      refine x_iload C dX12_lineOf_31 rfl ?_
      refine x_aload_n C dX12_lineOf_33 rfl ?_
      refine x_iload_n C dX12_lineOf_34 rfl ?_
      refine x_iload C dX12_lineOf_35 rfl ?_
      refine x_goR (fun ls h => x_runV (As := [.int a2, .int a5]) [.int (f_X12_duesOf μ a1 a5)] h C ml_X12_320 (c_X12_percentOf l D cA s0 b μ hok a2 a5 (ixin hn_a5 (by omega) (by decide))) ⟨rfl, rfl, nb rfl, nb rfl⟩ rfl (M_obj hw) rfl hw (nb rfl) ⟨Nat.zero_le _, Nat.zero_le _⟩ dX12_lineOf_37) ?_
      refine x_imul C dX12_lineOf_40 ?_
      refine x_bipush (100 : Int32) C dX12_lineOf_41 rfl ?_
      refine x_idiv C dX12_lineOf_43 (by decide) ?_
      refine x_ineg C dX12_lineOf_44 ?_
      exact x_iretR C rfl dX12_lineOf_45 (e_i hF)
    · have hF := hF.trans (if_pos c2)
      refine x_iload C dX12_lineOf_26 rfl ?_
      refine x_goto 45 C dX12_lineOf_28 (by decide) ?_
      exact x_iretR C rfl dX12_lineOf_45 (e_i hF)
  · have hF := hF.trans (if_pos c1)
    refine x_aload_n C dX12_lineOf_6 rfl ?_
    refine x_iload_n C dX12_lineOf_7 rfl ?_
    refine x_goR (fun ls h => x_runV (As := [.int a3]) [] h C ml_X12_279 (c_X12_feeOf l D cA s0 b μ a3 ) ⟨rfl, rfl, nb rfl, nb rfl⟩ rfl (M_obj hw) rfl hw (nb rfl) ⟨Nat.zero_le _, Nat.zero_le _⟩ dX12_lineOf_8) ?_
    exact x_iretR C rfl dX12_lineOf_11 (e_i hF)
def f_X12_callLine (μ : Mm) (a1 : Int32) (a2 : Int32) (a3 : Int32) : Int32 := f_X12_lineOf μ (f_X12_ofShip μ (f_X12_ofCall μ a1 (0 : Int32)) (0 : Int32)) (f_X12_rankOf μ a1) (f_X12_ofCall μ a1 (3 : Int32)) a2 a3
set_option maxRecDepth 20000 in
set_option maxHeartbeats 4000000 in
theorem c_X12_callLine (l : Launch) (D : va_G) (cA : Nat → ClassId) (s0 : State) (b : Nat) (μ : Mm) (hok : OkR (μ.1 1)) (a1 : Int32) (a2 : Int32) (a3 : Int32) (hv_a1 : vp_in a1 41) (hv_a3 : vp_in a3 21) : Met l yX12_callLine (wsG yX12_callLine cX12_callLine 4 (some (FieldType.int))) { frames := 4, cells := 0, slots := 0, locals := 94 } (xP D cA s0 [.ref b, .int a1, .int a2, .int a3] (RM D cA b μ)) (xQr (some (.int (f_X12_callLine μ a1 a2 a3)))) 0 0 xN := by
  refine x_start (own := RX12) [(0, .ref b), (1, .int a1), (2, .int a2), (3, .int a3)] rfl rfl (by decide) (nb rfl) ?_
  intro p e s m args below meth c C hw
  obtain ⟨F, hF⟩ : ∃ z, z = (f_X12_callLine μ a1 a2 a3) := ⟨_, rfl⟩
  rw [← hF]
  obtain ⟨hn_a1, hl_a1⟩ := vpn hv_a1 (by decide)
  obtain ⟨hn_a3, hl_a3⟩ := vpn hv_a3 (by decide)
  refine x_aload_n C dX12_callLine_0 rfl ?_
  refine x_aload_n C dX12_callLine_1 rfl ?_
  refine x_aload_n C dX12_callLine_2 rfl ?_
  refine x_iload_n C dX12_callLine_3 rfl ?_
  refine x_iconst (0 : Int32) C dX12_callLine_4 rfl ?_
  refine x_goR (fun ls h => x_runV (As := [.int a1, .int (0 : Int32)]) [.ref b, .ref b] h C ml_X12_248 (c_X12_ofCall l D cA s0 b μ a1 (0 : Int32) (ixin hn_a1 (by omega) (by decide)) (ixin (ixl (x := (0 : Int32)) 0 rfl) (by omega) (by decide))) ⟨rfl, rfl, nb rfl, nb rfl⟩ rfl (M_obj hw) rfl hw (nb rfl) ⟨Nat.zero_le _, Nat.zero_le _⟩ dX12_callLine_5) ?_
  obtain ⟨hn1, hl2⟩ := vpn (f_ofCall_ship hok (ixin hn_a1 (by omega) (by decide))) (by decide)
  refine x_iconst (0 : Int32) C dX12_callLine_8 rfl ?_
  refine x_goR (fun ls h => x_runV (As := [.int (f_X12_ofCall μ a1 (0 : Int32)), .int (0 : Int32)]) [.ref b] h C ml_X12_285 (c_X12_ofShip l D cA s0 b μ (f_X12_ofCall μ a1 (0 : Int32)) (0 : Int32) (ixin hn1 (by omega) (by decide)) (ixin (ixl (x := (0 : Int32)) 0 rfl) (by omega) (by decide))) ⟨rfl, rfl, nb rfl, nb rfl⟩ rfl (M_obj hw) rfl hw (nb rfl) ⟨Nat.zero_le _, Nat.zero_le _⟩ dX12_callLine_9) ?_
  refine x_aload_n C dX12_callLine_12 rfl ?_
  refine x_iload_n C dX12_callLine_13 rfl ?_
  refine x_goR (fun ls h => x_runV (As := [.int a1]) [.int (f_X12_ofShip μ (f_X12_ofCall μ a1 (0 : Int32)) (0 : Int32)), .ref b] h C ml_X12_323 (c_X12_rankOf l D cA s0 b μ hok a1 (ixin hn_a1 (by omega) (by decide))) ⟨rfl, rfl, nb rfl, nb rfl⟩ rfl (M_obj hw) rfl hw (nb rfl) ⟨Nat.zero_le _, Nat.zero_le _⟩ dX12_callLine_14) ?_
  refine x_aload_n C dX12_callLine_17 rfl ?_
  refine x_iload_n C dX12_callLine_18 rfl ?_
  refine x_iconst (3 : Int32) C dX12_callLine_19 rfl ?_
  refine x_goR (fun ls h => x_runV (As := [.int a1, .int (3 : Int32)]) [.int (f_X12_rankOf μ a1), .int (f_X12_ofShip μ (f_X12_ofCall μ a1 (0 : Int32)) (0 : Int32)), .ref b] h C ml_X12_248 (c_X12_ofCall l D cA s0 b μ a1 (3 : Int32) (ixin hn_a1 (by omega) (by decide)) (ixin (ixl (x := (3 : Int32)) 3 rfl) (by omega) (by decide))) ⟨rfl, rfl, nb rfl, nb rfl⟩ rfl (M_obj hw) rfl hw (nb rfl) ⟨Nat.zero_le _, Nat.zero_le _⟩ dX12_callLine_20) ?_
  refine x_iload_n C dX12_callLine_23 rfl ?_
  refine x_iload_n C dX12_callLine_24 rfl ?_
  refine x_goR (fun ls h => x_runV (As := [.int (f_X12_ofShip μ (f_X12_ofCall μ a1 (0 : Int32)) (0 : Int32)), .int (f_X12_rankOf μ a1), .int (f_X12_ofCall μ a1 (3 : Int32)), .int a2, .int a3]) [] h C ml_X12_326 (c_X12_lineOf l D cA s0 b μ hok (f_X12_ofShip μ (f_X12_ofCall μ a1 (0 : Int32)) (0 : Int32)) (f_X12_rankOf μ a1) (f_X12_ofCall μ a1 (3 : Int32)) a2 a3 (ixin hn_a3 (by omega) (by decide))) ⟨rfl, rfl, nb rfl, nb rfl⟩ rfl (M_obj hw) rfl hw (nb rfl) ⟨Nat.zero_le _, Nat.zero_le _⟩ dX12_callLine_25) ?_
  exact x_iretR C rfl dX12_callLine_28 (e_i hF)
def f_X12_layOf (μ : Mm) (a1 : Int32) (a2 : Int32) : Int32 := (f_X12_bits a1) * (f_X12_ofVersion μ a2 (11 : Int32))
set_option maxRecDepth 20000 in
set_option maxHeartbeats 4000000 in
theorem c_X12_layOf (l : Launch) (D : va_G) (cA : Nat → ClassId) (s0 : State) (b : Nat) (μ : Mm) (a1 : Int32) (a2 : Int32) (hv_a2 : vp_in a2 21) : Met l yX12_layOf (wsG yX12_layOf cX12_layOf 3 (some (FieldType.int))) { frames := 1, cells := 0, slots := 0, locals := 22 } (xP D cA s0 [.ref b, .int a1, .int a2] (RM D cA b μ)) (xQr (some (.int (f_X12_layOf μ a1 a2)))) 0 0 xN := by
  refine x_start (own := RX12) [(0, .ref b), (1, .int a1), (2, .int a2)] rfl rfl (by decide) (nb rfl) ?_
  intro p e s m args below meth c C hw
  obtain ⟨F, hF⟩ : ∃ z, z = (f_X12_layOf μ a1 a2) := ⟨_, rfl⟩
  rw [← hF]
  obtain ⟨hn_a2, hl_a2⟩ := vpn hv_a2 (by decide)
  refine x_iload_n C dX12_layOf_0 rfl ?_
  refine x_goR (fun ls h => x_runS (As := [.int a1]) [] h C ml_X12_251 (c_X12_bits l D cA s0 a1 ) ⟨rfl, rfl, nb rfl, nb rfl⟩ rfl trivial (nb rfl) ⟨Nat.zero_le _, Nat.zero_le _⟩ dX12_layOf_1) ?_
  refine x_aload_n C dX12_layOf_4 rfl ?_
  refine x_iload_n C dX12_layOf_5 rfl ?_
  refine x_bipush (11 : Int32) C dX12_layOf_6 rfl ?_
  refine x_goR (fun ls h => x_runV (As := [.int a2, .int (11 : Int32)]) [.int (f_X12_bits a1)] h C ml_X12_240 (c_X12_ofVersion l D cA s0 b μ a2 (11 : Int32) (ixin hn_a2 (by omega) (by decide)) (ixin (ixl (x := (11 : Int32)) 11 rfl) (by omega) (by decide))) ⟨rfl, rfl, nb rfl, nb rfl⟩ rfl (M_obj hw) rfl hw (nb rfl) ⟨Nat.zero_le _, Nat.zero_le _⟩ dX12_layOf_8) ?_
  refine x_imul C dX12_layOf_11 ?_
  exact x_iretR C rfl dX12_layOf_12 (e_i hF)
def f_X12_amountOf (μ : Mm) (a1 : Int32) (a2 : Int32) : Int32 := (if a2 = (3 : Int32) then f_X12_layOf μ ((f_X12_laySet μ a1) &&& ((f_X12_contestedSet μ a1) ^^^ (-1 : Int32))) (f_X12_version μ) else f_X12_callLine μ a1 a2 (f_X12_version μ))
set_option maxRecDepth 20000 in
set_option maxHeartbeats 4000000 in
theorem c_X12_amountOf (l : Launch) (D : va_G) (cA : Nat → ClassId) (s0 : State) (b : Nat) (μ : Mm) (hok : OkR (μ.1 1)) (a1 : Int32) (a2 : Int32) (hv_a1 : vp_in a1 41) : Met l yX12_amountOf (wsG yX12_amountOf cX12_amountOf 3 (some (FieldType.int))) { frames := 5, cells := 0, slots := 0, locals := 117 } (xP D cA s0 [.ref b, .int a1, .int a2] (RM D cA b μ)) (xQr (some (.int (f_X12_amountOf μ a1 a2)))) 0 0 xN := by
  refine x_start (own := RX12) [(0, .ref b), (1, .int a1), (2, .int a2)] rfl rfl (by decide) (nb rfl) ?_
  intro p e s m args below meth c C hw
  obtain ⟨F, hF⟩ : ∃ z, z = (f_X12_amountOf μ a1 a2) := ⟨_, rfl⟩
  rw [← hF]
  obtain ⟨hn_a1, hl_a1⟩ := vpn hv_a1 (by decide)
  refine x_iload_n C dX12_amountOf_0 rfl ?_
  refine x_iconst (3 : Int32) C dX12_amountOf_1 rfl ?_
  refine x_icmp_ne 29 C dX12_amountOf_2 (by decide) (fun c1 => ?_) (fun c1 => ?_)
  · have hF := hF.trans (if_neg c1)
    refine x_aload_n C dX12_amountOf_29 rfl ?_
    refine x_iload_n C dX12_amountOf_30 rfl ?_
    refine x_iload_n C dX12_amountOf_31 rfl ?_
    refine x_aload_n C dX12_amountOf_32 rfl ?_
    refine x_goR (fun ls h => x_runV (As := []) [.int a2, .int a1, .ref b] h C ml_X12_256 (c_X12_version l D cA s0 b μ ) ⟨rfl, rfl, nb rfl, nb rfl⟩ rfl (M_obj hw) rfl hw (nb rfl) ⟨Nat.zero_le _, Nat.zero_le _⟩ dX12_amountOf_33) ?_
    obtain ⟨hn2, hl3⟩ := vpn (f_version_in hok) (by decide)
    refine x_goR (fun ls h => x_runV (As := [.int a1, .int a2, .int (f_X12_version μ)]) [] h C ml_X12_333 (c_X12_callLine l D cA s0 b μ hok a1 a2 (f_X12_version μ) (ixin hn_a1 (by omega) (by decide)) (ixin hn2 (by omega) (by decide))) ⟨rfl, rfl, nb rfl, nb rfl⟩ rfl (M_obj hw) rfl hw (nb rfl) ⟨Nat.zero_le _, Nat.zero_le _⟩ dX12_amountOf_36) ?_
    exact x_iretR C rfl dX12_amountOf_39 (e_i hF)
  · have hF := hF.trans (if_pos c1)
    refine x_aload_n C dX12_amountOf_5 rfl ?_
    refine x_aload_n C dX12_amountOf_6 rfl ?_
    refine x_iload_n C dX12_amountOf_7 rfl ?_
    refine x_goR (fun ls h => x_runV (As := [.int a1]) [.ref b] h C ml_X12_311 (c_X12_laySet l D cA s0 b μ hok a1 (ixin hn_a1 (by omega) (by decide))) ⟨rfl, rfl, nb rfl, nb rfl⟩ rfl (M_obj hw) rfl hw (nb rfl) ⟨Nat.zero_le _, Nat.zero_le _⟩ dX12_amountOf_8) ?_
    refine x_aload_n C dX12_amountOf_11 rfl ?_
    refine x_iload_n C dX12_amountOf_12 rfl ?_
    refine x_goR (fun ls h => x_runV (As := [.int a1]) [.int (f_X12_laySet μ a1), .ref b] h C ml_X12_317 (c_X12_contestedSet l D cA s0 b μ a1 (ixin hn_a1 (by omega) (by decide))) ⟨rfl, rfl, nb rfl, nb rfl⟩ rfl (M_obj hw) rfl hw (nb rfl) ⟨Nat.zero_le _, Nat.zero_le _⟩ dX12_amountOf_13) ?_
    refine x_iconst (-1 : Int32) C dX12_amountOf_16 rfl ?_
    refine x_ixor C dX12_amountOf_17 ?_
    refine x_iand C dX12_amountOf_18 ?_
    refine x_aload_n C dX12_amountOf_19 rfl ?_
    refine x_goR (fun ls h => x_runV (As := []) [.int ((f_X12_laySet μ a1) &&& ((f_X12_contestedSet μ a1) ^^^ (-1 : Int32))), .ref b] h C ml_X12_256 (c_X12_version l D cA s0 b μ ) ⟨rfl, rfl, nb rfl, nb rfl⟩ rfl (M_obj hw) rfl hw (nb rfl) ⟨Nat.zero_le _, Nat.zero_le _⟩ dX12_amountOf_20) ?_
    obtain ⟨hn4, hl5⟩ := vpn (f_version_in hok) (by decide)
    refine x_goR (fun ls h => x_runV (As := [.int ((f_X12_laySet μ a1) &&& ((f_X12_contestedSet μ a1) ^^^ (-1 : Int32))), .int (f_X12_version μ)]) [] h C ml_X12_330 (c_X12_layOf l D cA s0 b μ ((f_X12_laySet μ a1) &&& ((f_X12_contestedSet μ a1) ^^^ (-1 : Int32))) (f_X12_version μ) (ixin hn4 (by omega) (by decide))) ⟨rfl, rfl, nb rfl, nb rfl⟩ rfl (M_obj hw) rfl hw (nb rfl) ⟨Nat.zero_le _, Nat.zero_le _⟩ dX12_amountOf_23) ?_
    refine x_goto 39 C dX12_amountOf_26 (by decide) ?_
    exact x_iretR C rfl dX12_amountOf_39 (e_i hF)
def f_X12_totalOf (μ : Mm) (a1 : Int32) : Int32 := (if (f_X12_ofCall μ a1 (4 : Int32)) = (1 : Int32) then (0 : Int32) else (((f_X12_amountOf μ a1 (0 : Int32)) + (f_X12_amountOf μ a1 (1 : Int32))) + (f_X12_amountOf μ a1 (2 : Int32))) + (f_X12_amountOf μ a1 (3 : Int32)))
set_option maxRecDepth 20000 in
set_option maxHeartbeats 4000000 in
theorem c_X12_totalOf (l : Launch) (D : va_G) (cA : Nat → ClassId) (s0 : State) (b : Nat) (μ : Mm) (hok : OkR (μ.1 1)) (a1 : Int32) (hv_a1 : vp_in a1 41) : Met l yX12_totalOf (wsG yX12_totalOf cX12_totalOf 2 (some (FieldType.int))) { frames := 6, cells := 0, slots := 0, locals := 139 } (xP D cA s0 [.ref b, .int a1] (RM D cA b μ)) (xQr (some (.int (f_X12_totalOf μ a1)))) 0 0 xN := by
  refine x_start (own := RX12) [(0, .ref b), (1, .int a1)] rfl rfl (by decide) (nb rfl) ?_
  intro p e s m args below meth c C hw
  obtain ⟨F, hF⟩ : ∃ z, z = (f_X12_totalOf μ a1) := ⟨_, rfl⟩
  rw [← hF]
  obtain ⟨hn_a1, hl_a1⟩ := vpn hv_a1 (by decide)
  refine x_aload_n C dX12_totalOf_0 rfl ?_
  refine x_iload_n C dX12_totalOf_1 rfl ?_
  refine x_iconst (4 : Int32) C dX12_totalOf_2 rfl ?_
  refine x_goR (fun ls h => x_runV (As := [.int a1, .int (4 : Int32)]) [] h C ml_X12_248 (c_X12_ofCall l D cA s0 b μ a1 (4 : Int32) (ixin hn_a1 (by omega) (by decide)) (ixin (ixl (x := (4 : Int32)) 4 rfl) (by omega) (by decide))) ⟨rfl, rfl, nb rfl, nb rfl⟩ rfl (M_obj hw) rfl hw (nb rfl) ⟨Nat.zero_le _, Nat.zero_le _⟩ dX12_totalOf_3) ?_
  refine x_iconst (1 : Int32) C dX12_totalOf_6 rfl ?_
  refine x_icmp_ne 12 C dX12_totalOf_7 (by decide) (fun c1 => ?_) (fun c1 => ?_)
  · have hF := hF.trans (if_neg c1)
    refine x_aload_n C dX12_totalOf_12 rfl ?_
    refine x_iload_n C dX12_totalOf_13 rfl ?_
    refine x_iconst (0 : Int32) C dX12_totalOf_14 rfl ?_
    refine x_goR (fun ls h => x_runV (As := [.int a1, .int (0 : Int32)]) [] h C ml_X12_336 (c_X12_amountOf l D cA s0 b μ hok a1 (0 : Int32) (ixin hn_a1 (by omega) (by decide))) ⟨rfl, rfl, nb rfl, nb rfl⟩ rfl (M_obj hw) rfl hw (nb rfl) ⟨Nat.zero_le _, Nat.zero_le _⟩ dX12_totalOf_15) ?_
    refine x_aload_n C dX12_totalOf_18 rfl ?_
    refine x_iload_n C dX12_totalOf_19 rfl ?_
    refine x_iconst (1 : Int32) C dX12_totalOf_20 rfl ?_
    refine x_goR (fun ls h => x_runV (As := [.int a1, .int (1 : Int32)]) [.int (f_X12_amountOf μ a1 (0 : Int32))] h C ml_X12_336 (c_X12_amountOf l D cA s0 b μ hok a1 (1 : Int32) (ixin hn_a1 (by omega) (by decide))) ⟨rfl, rfl, nb rfl, nb rfl⟩ rfl (M_obj hw) rfl hw (nb rfl) ⟨Nat.zero_le _, Nat.zero_le _⟩ dX12_totalOf_21) ?_
    refine x_iadd C dX12_totalOf_24 ?_
    refine x_aload_n C dX12_totalOf_25 rfl ?_
    refine x_iload_n C dX12_totalOf_26 rfl ?_
    refine x_iconst (2 : Int32) C dX12_totalOf_27 rfl ?_
    refine x_goR (fun ls h => x_runV (As := [.int a1, .int (2 : Int32)]) [.int ((f_X12_amountOf μ a1 (0 : Int32)) + (f_X12_amountOf μ a1 (1 : Int32)))] h C ml_X12_336 (c_X12_amountOf l D cA s0 b μ hok a1 (2 : Int32) (ixin hn_a1 (by omega) (by decide))) ⟨rfl, rfl, nb rfl, nb rfl⟩ rfl (M_obj hw) rfl hw (nb rfl) ⟨Nat.zero_le _, Nat.zero_le _⟩ dX12_totalOf_28) ?_
    refine x_iadd C dX12_totalOf_31 ?_
    refine x_aload_n C dX12_totalOf_32 rfl ?_
    refine x_iload_n C dX12_totalOf_33 rfl ?_
    refine x_iconst (3 : Int32) C dX12_totalOf_34 rfl ?_
    refine x_goR (fun ls h => x_runV (As := [.int a1, .int (3 : Int32)]) [.int (((f_X12_amountOf μ a1 (0 : Int32)) + (f_X12_amountOf μ a1 (1 : Int32))) + (f_X12_amountOf μ a1 (2 : Int32)))] h C ml_X12_336 (c_X12_amountOf l D cA s0 b μ hok a1 (3 : Int32) (ixin hn_a1 (by omega) (by decide))) ⟨rfl, rfl, nb rfl, nb rfl⟩ rfl (M_obj hw) rfl hw (nb rfl) ⟨Nat.zero_le _, Nat.zero_le _⟩ dX12_totalOf_35) ?_
    refine x_iadd C dX12_totalOf_38 ?_
    exact x_iretR C rfl dX12_totalOf_39 (e_i hF)
  · have hF := hF.trans (if_pos c1)
    refine x_iconst (0 : Int32) C dX12_totalOf_10 rfl ?_
    exact x_iretR C rfl dX12_totalOf_11 (e_i hF)
def f_X12_lineIn (μ : Mm) (a1 : Int32) (a2 : Int32) : Int32 := f_X12_ofInvoice μ a1 ((6 : Int32) + a2)
set_option maxRecDepth 20000 in
set_option maxHeartbeats 4000000 in
theorem c_X12_lineIn (l : Launch) (D : va_G) (cA : Nat → ClassId) (s0 : State) (b : Nat) (μ : Mm) (a1 : Int32) (a2 : Int32) (hv_a1 : vp_in a1 60) (hv_a2 : vp_in a2 4) : Met l yX12_lineIn (wsG yX12_lineIn cX12_lineIn 3 (some (FieldType.int))) { frames := 1, cells := 0, slots := 0, locals := 22 } (xP D cA s0 [.ref b, .int a1, .int a2] (RM D cA b μ)) (xQr (some (.int (f_X12_lineIn μ a1 a2)))) 0 0 xN := by
  refine x_start (own := RX12) [(0, .ref b), (1, .int a1), (2, .int a2)] rfl rfl (by decide) (nb rfl) ?_
  intro p e s m args below meth c C hw
  obtain ⟨F, hF⟩ : ∃ z, z = (f_X12_lineIn μ a1 a2) := ⟨_, rfl⟩
  rw [← hF]
  obtain ⟨hn_a1, hl_a1⟩ := vpn hv_a1 (by decide)
  obtain ⟨hn_a2, hl_a2⟩ := vpn hv_a2 (by decide)
  refine x_aload_n C dX12_lineIn_0 rfl ?_
  refine x_iload_n C dX12_lineIn_1 rfl ?_
  refine x_bipush (6 : Int32) C dX12_lineIn_2 rfl ?_
  refine x_iload_n C dX12_lineIn_4 rfl ?_
  refine x_iadd C dX12_lineIn_5 ?_
  refine x_goR (fun ls h => x_runV (As := [.int a1, .int ((6 : Int32) + a2)]) [] h C ml_X12_305 (c_X12_ofInvoice l D cA s0 b μ a1 ((6 : Int32) + a2) (ixin hn_a1 (by omega) (by decide)) (ixin (ixa (ixl (x := (6 : Int32)) 6 rfl) hn_a2) (by omega) (by decide))) ⟨rfl, rfl, nb rfl, nb rfl⟩ rfl (M_obj hw) rfl hw (nb rfl) ⟨Nat.zero_le _, Nat.zero_le _⟩ dX12_lineIn_6) ?_
  exact x_iretR C rfl dX12_lineIn_9 (e_i hF)
def f_X12_shipOf (μ : Mm) (a1 : Int32) : Int32 := f_X12_ofCall μ (f_X12_ofInvoice μ a1 (0 : Int32)) (0 : Int32)
set_option maxRecDepth 20000 in
set_option maxHeartbeats 4000000 in
theorem c_X12_shipOf (l : Launch) (D : va_G) (cA : Nat → ClassId) (s0 : State) (b : Nat) (μ : Mm) (hok : OkR (μ.1 1)) (a1 : Int32) (hv_a1 : vp_in a1 60) : Met l yX12_shipOf (wsG yX12_shipOf cX12_shipOf 2 (some (FieldType.int))) { frames := 1, cells := 0, slots := 0, locals := 22 } (xP D cA s0 [.ref b, .int a1] (RM D cA b μ)) (xQr (some (.int (f_X12_shipOf μ a1)))) 0 0 xN := by
  refine x_start (own := RX12) [(0, .ref b), (1, .int a1)] rfl rfl (by decide) (nb rfl) ?_
  intro p e s m args below meth c C hw
  obtain ⟨F, hF⟩ : ∃ z, z = (f_X12_shipOf μ a1) := ⟨_, rfl⟩
  rw [← hF]
  obtain ⟨hn_a1, hl_a1⟩ := vpn hv_a1 (by decide)
  refine x_aload_n C dX12_shipOf_0 rfl ?_
  refine x_aload_n C dX12_shipOf_1 rfl ?_
  refine x_iload_n C dX12_shipOf_2 rfl ?_
  refine x_iconst (0 : Int32) C dX12_shipOf_3 rfl ?_
  refine x_goR (fun ls h => x_runV (As := [.int a1, .int (0 : Int32)]) [.ref b] h C ml_X12_305 (c_X12_ofInvoice l D cA s0 b μ a1 (0 : Int32) (ixin hn_a1 (by omega) (by decide)) (ixin (ixl (x := (0 : Int32)) 0 rfl) (by omega) (by decide))) ⟨rfl, rfl, nb rfl, nb rfl⟩ rfl (M_obj hw) rfl hw (nb rfl) ⟨Nat.zero_le _, Nat.zero_le _⟩ dX12_shipOf_4) ?_
  obtain ⟨hn1, hl2⟩ := vpn (f_ofInvoice_call hok (ixin hn_a1 (by omega) (by decide))) (by decide)
  refine x_iconst (0 : Int32) C dX12_shipOf_7 rfl ?_
  refine x_goR (fun ls h => x_runV (As := [.int (f_X12_ofInvoice μ a1 (0 : Int32)), .int (0 : Int32)]) [] h C ml_X12_248 (c_X12_ofCall l D cA s0 b μ (f_X12_ofInvoice μ a1 (0 : Int32)) (0 : Int32) (ixin hn1 (by omega) (by decide)) (ixin (ixl (x := (0 : Int32)) 0 rfl) (by omega) (by decide))) ⟨rfl, rfl, nb rfl, nb rfl⟩ rfl (M_obj hw) rfl hw (nb rfl) ⟨Nat.zero_le _, Nat.zero_le _⟩ dX12_shipOf_8) ?_
  obtain ⟨hn3, hl4⟩ := vpn (f_ofCall_ship hok (ixin hn1 (by omega) (by decide))) (by decide)
  exact x_iretR C rfl dX12_shipOf_11 (e_i hF)
def f_X12_livingLines (μ : Mm) (a1 : Int32) : Int32 := (f_X12_ofInvoice μ a1 (3 : Int32)) &&& ((f_X12_ofInvoice μ a1 (4 : Int32)) ^^^ (-1 : Int32))
set_option maxRecDepth 20000 in
set_option maxHeartbeats 4000000 in
theorem c_X12_livingLines (l : Launch) (D : va_G) (cA : Nat → ClassId) (s0 : State) (b : Nat) (μ : Mm) (a1 : Int32) (hv_a1 : vp_in a1 60) : Met l yX12_livingLines (wsG yX12_livingLines cX12_livingLines 2 (some (FieldType.int))) { frames := 1, cells := 0, slots := 0, locals := 22 } (xP D cA s0 [.ref b, .int a1] (RM D cA b μ)) (xQr (some (.int (f_X12_livingLines μ a1)))) 0 0 xN := by
  refine x_start (own := RX12) [(0, .ref b), (1, .int a1)] rfl rfl (by decide) (nb rfl) ?_
  intro p e s m args below meth c C hw
  obtain ⟨F, hF⟩ : ∃ z, z = (f_X12_livingLines μ a1) := ⟨_, rfl⟩
  rw [← hF]
  obtain ⟨hn_a1, hl_a1⟩ := vpn hv_a1 (by decide)
  refine x_aload_n C dX12_livingLines_0 rfl ?_
  refine x_iload_n C dX12_livingLines_1 rfl ?_
  refine x_iconst (3 : Int32) C dX12_livingLines_2 rfl ?_
  refine x_goR (fun ls h => x_runV (As := [.int a1, .int (3 : Int32)]) [] h C ml_X12_305 (c_X12_ofInvoice l D cA s0 b μ a1 (3 : Int32) (ixin hn_a1 (by omega) (by decide)) (ixin (ixl (x := (3 : Int32)) 3 rfl) (by omega) (by decide))) ⟨rfl, rfl, nb rfl, nb rfl⟩ rfl (M_obj hw) rfl hw (nb rfl) ⟨Nat.zero_le _, Nat.zero_le _⟩ dX12_livingLines_3) ?_
  refine x_aload_n C dX12_livingLines_6 rfl ?_
  refine x_iload_n C dX12_livingLines_7 rfl ?_
  refine x_iconst (4 : Int32) C dX12_livingLines_8 rfl ?_
  refine x_goR (fun ls h => x_runV (As := [.int a1, .int (4 : Int32)]) [.int (f_X12_ofInvoice μ a1 (3 : Int32))] h C ml_X12_305 (c_X12_ofInvoice l D cA s0 b μ a1 (4 : Int32) (ixin hn_a1 (by omega) (by decide)) (ixin (ixl (x := (4 : Int32)) 4 rfl) (by omega) (by decide))) ⟨rfl, rfl, nb rfl, nb rfl⟩ rfl (M_obj hw) rfl hw (nb rfl) ⟨Nat.zero_le _, Nat.zero_le _⟩ dX12_livingLines_9) ?_
  refine x_iconst (-1 : Int32) C dX12_livingLines_12 rfl ?_
  refine x_ixor C dX12_livingLines_13 ?_
  refine x_iand C dX12_livingLines_14 ?_
  exact x_iretR C rfl dX12_livingLines_15 (e_i hF)
def f_X12_netOf_L4 (μ : Mm) (a1 : Int32) : Nat → Int32 → Int32 → Int32
  | 0, _, _ => 0
  | n + 1, x2, x3 => (if (4 : Int32) ≤ x3 then x2 else (if f_X12_has (f_X12_livingLines μ a1) x3 then (f_X12_netOf_L4 μ a1 n (x2 + (f_X12_lineIn μ a1 x3)) (x3 + (1 : Int32))) else (f_X12_netOf_L4 μ a1 n (x2 + (0 : Int32)) (x3 + (1 : Int32)))))
def f_X12_netOf (μ : Mm) (a1 : Int32) : Int32 := (f_X12_netOf_L4 μ a1 5 (0 : Int32) (0 : Int32))
set_option maxRecDepth 20000 in
set_option maxHeartbeats 4000000 in
theorem c_X12_netOf (l : Launch) (D : va_G) (cA : Nat → ClassId) (s0 : State) (b : Nat) (μ : Mm) (hok : OkR (μ.1 1)) (a1 : Int32) (hv_a1 : vp_in a1 60) : Met l yX12_netOf (wsG yX12_netOf cX12_netOf 4 (some (FieldType.int))) { frames := 2, cells := 0, slots := 0, locals := 44 } (xP D cA s0 [.ref b, .int a1] (RM D cA b μ)) (xQr (some (.int (f_X12_netOf μ a1)))) 0 0 xN := by
  refine x_start (own := RX12) [(0, .ref b), (1, .int a1)] rfl rfl (by decide) (nb rfl) ?_
  intro p e s m args below meth c C hw
  obtain ⟨F, hF⟩ : ∃ z, z = (f_X12_netOf μ a1) := ⟨_, rfl⟩
  rw [← hF]
  obtain ⟨hn_a1, hl_a1⟩ := vpn hv_a1 (by decide)
  have hL4 : ∀ (n : Nat) (x2 : Int32) (x3 : Int32) (hnx3 : x3 = nI (cl x3)) (hbx3 : cl x3 ≤ 4) (hmx3 : 4 < cl x3 + n), F = f_X12_netOf_L4 μ a1 n x2 x3 → xW p l e { frames := 2, cells := 0, slots := 0, locals := 44 } s m args below meth c 4 (MQ below (xQr (some (.int F))) args s 0 0 xN) s.heap [] 0 0 4 [(0, .ref b), (1, .int a1), (2, .int x2), (3, .int x3)] [] := by
    intro n
    induction n with
    | zero =>
      intro x2 x3 hnx3 hbx3 hmx3 hF
      exact False.elim (by omega)
    | succ n ih =>
      intro x2 x3 hnx3 hbx3 hmx3 hF
      have ih4 := ih
      refine x_iload_n C dX12_netOf_4 rfl ?_
      refine x_iconst (4 : Int32) C dX12_netOf_5 rfl ?_
      refine x_icmp_ge 40 C dX12_netOf_6 (by decide) (fun c1 => ?_) (fun c1 => ?_)
      · have hF := hF.trans (if_pos c1)
        have q2 := (nleI (ixl (x := (4 : Int32)) 4 rfl) hnx3 (by omega) (by omega)).mp c1
        refine x_iload_n C dX12_netOf_40 rfl ?_
        exact x_iretR C rfl dX12_netOf_41 (e_i hF)
      · have hF := hF.trans (if_neg c1)
        have q2 := mt (nleI (ixl (x := (4 : Int32)) 4 rfl) hnx3 (by omega) (by omega)).mpr c1
        refine x_iload_n C dX12_netOf_9 rfl ?_
        refine x_aload_n C dX12_netOf_10 rfl ?_
        refine x_iload_n C dX12_netOf_11 rfl ?_
        refine x_goR (fun ls h => x_runV (As := [.int a1]) [.int x2] h C ml_X12_362 (c_X12_livingLines l D cA s0 b μ a1 (ixin hn_a1 (by omega) (by decide))) ⟨rfl, rfl, nb rfl, nb rfl⟩ rfl (M_obj hw) rfl hw (nb rfl) ⟨Nat.zero_le _, Nat.zero_le _⟩ dX12_netOf_12) ?_
        refine x_iload_n C dX12_netOf_15 rfl ?_
        refine x_goR (fun ls h => x_runS (As := [.int (f_X12_livingLines μ a1), .int x3]) [.int x2] h C ml_X12_308 (c_X12_has l D cA s0 (f_X12_livingLines μ a1) x3 ) ⟨rfl, rfl, nb rfl, nb rfl⟩ rfl trivial (nb rfl) ⟨Nat.zero_le _, Nat.zero_le _⟩ dX12_netOf_16) ?_
        refine x_ifB_eq 31 C dX12_netOf_19 (by decide) (fun c3 => ?_) (fun c3 => ?_)
        · have hF := hF.trans (if_neg (nbt c3))
          refine x_iconst (0 : Int32) C dX12_netOf_31 rfl ?_
          refine x_iadd C dX12_netOf_32 ?_
          refine x_istore_n [(2, .int (x2 + (0 : Int32))), (0, .ref b), (1, .int a1), (3, .int x3)] C dX12_netOf_33 rfl (by decide) rfl ?_
          refine x_iinc (x3 + (1 : Int32)) [(3, .int (x3 + (1 : Int32))), (2, .int (x2 + (0 : Int32))), (0, .ref b), (1, .int a1)] C dX12_netOf_34 rfl rfl (by decide) rfl ?_
          refine x_goto 4 C dX12_netOf_37 (by decide) ?_
          refine x_sub [(0, .ref b), (1, .int a1), (2, .int (x2 + (0 : Int32))), (3, .int (x3 + (1 : Int32)))] [2, 3, 1, 0] rfl ?_
          exact ih4 (x2 + (0 : Int32)) (x3 + (1 : Int32)) (natS (ixa hnx3 (ixl (x := (1 : Int32)) 1 rfl)) (by omega)).1 (by rw [(natS (ixa hnx3 (ixl (x := (1 : Int32)) 1 rfl)) (by omega)).2]; omega) (by rw [(natS (ixa hnx3 (ixl (x := (1 : Int32)) 1 rfl)) (by omega)).2]; omega)  hF
        · have hF := hF.trans (if_pos c3)
          refine x_aload_n C dX12_netOf_22 rfl ?_
          refine x_iload_n C dX12_netOf_23 rfl ?_
          refine x_iload_n C dX12_netOf_24 rfl ?_
          refine x_goR (fun ls h => x_runV (As := [.int a1, .int x3]) [.int x2] h C ml_X12_365 (c_X12_lineIn l D cA s0 b μ a1 x3 (ixin hn_a1 (by omega) (by decide)) (ixin hnx3 (by omega) (by decide))) ⟨rfl, rfl, nb rfl, nb rfl⟩ rfl (M_obj hw) rfl hw (nb rfl) ⟨Nat.zero_le _, Nat.zero_le _⟩ dX12_netOf_25) ?_
          refine x_goto 32 C dX12_netOf_28 (by decide) ?_
          refine x_iadd C dX12_netOf_32 ?_
          refine x_istore_n [(2, .int (x2 + (f_X12_lineIn μ a1 x3))), (0, .ref b), (1, .int a1), (3, .int x3)] C dX12_netOf_33 rfl (by decide) rfl ?_
          refine x_iinc (x3 + (1 : Int32)) [(3, .int (x3 + (1 : Int32))), (2, .int (x2 + (f_X12_lineIn μ a1 x3))), (0, .ref b), (1, .int a1)] C dX12_netOf_34 rfl rfl (by decide) rfl ?_
          refine x_goto 4 C dX12_netOf_37 (by decide) ?_
          refine x_sub [(0, .ref b), (1, .int a1), (2, .int (x2 + (f_X12_lineIn μ a1 x3))), (3, .int (x3 + (1 : Int32)))] [2, 3, 1, 0] rfl ?_
          exact ih4 (x2 + (f_X12_lineIn μ a1 x3)) (x3 + (1 : Int32)) (natS (ixa hnx3 (ixl (x := (1 : Int32)) 1 rfl)) (by omega)).1 (by rw [(natS (ixa hnx3 (ixl (x := (1 : Int32)) 1 rfl)) (by omega)).2]; omega) (by rw [(natS (ixa hnx3 (ixl (x := (1 : Int32)) 1 rfl)) (by omega)).2]; omega)  hF
  refine x_iconst (0 : Int32) C dX12_netOf_0 rfl ?_
  refine x_istore_n [(2, .int (0 : Int32)), (0, .ref b), (1, .int a1)] C dX12_netOf_1 rfl (by decide) rfl ?_
  refine x_iconst (0 : Int32) C dX12_netOf_2 rfl ?_
  refine x_istore_n [(3, .int (0 : Int32)), (2, .int (0 : Int32)), (0, .ref b), (1, .int a1)] C dX12_netOf_3 rfl (by decide) rfl ?_
  refine x_sub [(0, .ref b), (1, .int a1), (2, .int (0 : Int32)), (3, .int (0 : Int32))] [2, 3, 1, 0] rfl ?_
  exact hL4 5 (0 : Int32) (0 : Int32) (natS (ixl (x := (0 : Int32)) 0 rfl) (by omega)).1 (by rw [(natS (ixl (x := (0 : Int32)) 0 rfl) (by omega)).2]; omega) (by rw [(natS (ixl (x := (0 : Int32)) 0 rfl) (by omega)).2]; omega)  hF
