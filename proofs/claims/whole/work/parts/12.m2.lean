def f_X12_percentOf_L5 (μ : Mm) (a1 : Int32) (a2 : Int32) : Nat → Int32 → Int32 → Int32
  | 0, _, _ => 0
  | n + 1, x3, x4 => (if (μ.1 1 7) ≤ x4 then x3 else (if a1 < (μ.1 1 (18 + cl x4)) then (f_X12_percentOf_L5 μ a1 a2 n x3 (x4 + (1 : Int32))) else (f_X12_percentOf_L5 μ a1 a2 n (f_X12_ofVersion μ a2 ((6 : Int32) + x4)) (x4 + (1 : Int32)))))
def f_X12_percentOf (μ : Mm) (a1 : Int32) (a2 : Int32) : Int32 := (f_X12_percentOf_L5 μ a1 a2 5 (0 : Int32) (0 : Int32))
set_option maxRecDepth 20000 in
set_option maxHeartbeats 4000000 in
theorem c_X12_percentOf (l : Launch) (D : va_G) (cA : Nat → ClassId) (s0 : State) (b : Nat) (μ : Mm) (hok : OkR (μ.1 1)) (a1 : Int32) (a2 : Int32) (hv_a2 : vp_in a2 21) : Met l yX12_percentOf (wsG yX12_percentOf cX12_percentOf 5 (some (FieldType.int))) { frames := 1, cells := 0, slots := 0, locals := 22 } (xP D cA s0 [.ref b, .int a1, .int a2] (RM D cA b μ)) (xQr (some (.int (f_X12_percentOf μ a1 a2)))) 0 0 xN := by
  refine x_start (own := RX12) [(0, .ref b), (1, .int a1), (2, .int a2)] rfl rfl (by decide) (nb rfl) ?_
  intro p e s m args below meth c C hw
  obtain ⟨F, hF⟩ : ∃ z, z = (f_X12_percentOf μ a1 a2) := ⟨_, rfl⟩
  rw [← hF]
  obtain ⟨hn_a2, hl_a2⟩ := vpn hv_a2 (by decide)
  have hL5 : ∀ (n : Nat) (x3 : Int32) (x4 : Int32) (hnx4 : x4 = nI (cl x4)) (hbx4 : cl x4 ≤ 4) (hmx4 : 4 < cl x4 + n), F = f_X12_percentOf_L5 μ a1 a2 n x3 x4 → xW p l e { frames := 1, cells := 0, slots := 0, locals := 22 } s m args below meth c 5 (MQ below (xQr (some (.int F))) args s 0 0 xN) s.heap [] 0 0 5 [(0, .ref b), (1, .int a1), (2, .int a2), (3, .int x3), (4, .int x4)] [] := by
    intro n
    induction n with
    | zero =>
      intro x3 x4 hnx4 hbx4 hmx4 hF
      exact False.elim (by omega)
    | succ n ih =>
      intro x3 x4 hnx4 hbx4 hmx4 hF
      have ih5 := ih
      refine x_iload C dX12_percentOf_5 rfl ?_
      refine x_aload_n C dX12_percentOf_7 rfl ?_
      refine x_get (.ref (b + 1)) C fl_X12_17 (M_obj hw) rfl dX12_percentOf_8 ?_
      refine x_bipush (7 : Int32) C dX12_percentOf_11 rfl ?_
      refine x_ialdN C (M_a1 hw) (ixl (x := (7 : Int32)) 7 rfl) (by omega) (by decide) dX12_percentOf_13 ?_
      obtain ⟨hn1, hl2⟩ := vpn (OkR_7 hok) (by decide)
      refine x_icmp_ge 52 C dX12_percentOf_14 (by decide) (fun c3 => ?_) (fun c3 => ?_)
      · have hF := hF.trans (if_pos c3)
        have q4 := (nleI hn1 hnx4 (by omega) (by omega)).mp c3
        refine x_iload_n C dX12_percentOf_52 rfl ?_
        exact x_iretR C rfl dX12_percentOf_53 (e_i hF)
      · have hF := hF.trans (if_neg c3)
        have q4 := mt (nleI hn1 hnx4 (by omega) (by omega)).mpr c3
        refine x_aload_n C dX12_percentOf_17 rfl ?_
        refine x_get (.ref (b + 1)) C fl_X12_17 (M_obj hw) rfl dX12_percentOf_18 ?_
        refine x_bipush (18 : Int32) C dX12_percentOf_21 rfl ?_
        refine x_iload C dX12_percentOf_23 rfl ?_
        refine x_iadd C dX12_percentOf_25 ?_
        refine x_ialdN C (M_a1 hw) (ixa (ixl (x := (18 : Int32)) 18 rfl) hnx4) (by omega) (by decide) dX12_percentOf_26 ?_
        refine x_iload_n C dX12_percentOf_27 rfl ?_
        refine x_icmp_gt 44 C dX12_percentOf_28 (by decide) (fun c5 => ?_) (fun c5 => ?_)
        · have hF := hF.trans (if_pos c5)
          refine x_iload_n C dX12_percentOf_44 rfl ?_
          refine x_istore_n [(3, .int x3), (0, .ref b), (1, .int a1), (2, .int a2), (4, .int x4)] C dX12_percentOf_45 rfl (by decide) rfl ?_
          refine x_iinc (x4 + (1 : Int32)) [(4, .int (x4 + (1 : Int32))), (3, .int x3), (0, .ref b), (1, .int a1), (2, .int a2)] C dX12_percentOf_46 rfl rfl (by decide) rfl ?_
          refine x_goto 5 C dX12_percentOf_49 (by decide) ?_
          refine x_sub [(0, .ref b), (1, .int a1), (2, .int a2), (3, .int x3), (4, .int (x4 + (1 : Int32)))] [2, 3, 4, 1, 0] rfl ?_
          exact ih5 x3 (x4 + (1 : Int32)) (natS (ixa hnx4 (ixl (x := (1 : Int32)) 1 rfl)) (by omega)).1 (by rw [(natS (ixa hnx4 (ixl (x := (1 : Int32)) 1 rfl)) (by omega)).2]; omega) (by rw [(natS (ixa hnx4 (ixl (x := (1 : Int32)) 1 rfl)) (by omega)).2]; omega)  hF
        · have hF := hF.trans (if_neg c5)
          refine x_aload_n C dX12_percentOf_31 rfl ?_
          refine x_iload_n C dX12_percentOf_32 rfl ?_
          refine x_bipush (6 : Int32) C dX12_percentOf_33 rfl ?_
          refine x_iload C dX12_percentOf_35 rfl ?_
          refine x_iadd C dX12_percentOf_37 ?_
          refine x_goR (fun ls h => x_runV (As := [.int a2, .int ((6 : Int32) + x4)]) [] h C ml_X12_240 (c_X12_ofVersion l D cA s0 b μ a2 ((6 : Int32) + x4) (ixin hn_a2 (by omega) (by decide)) (ixin (ixa (ixl (x := (6 : Int32)) 6 rfl) hnx4) (by omega) (by decide))) ⟨rfl, rfl, nb rfl, nb rfl⟩ rfl (M_obj hw) rfl hw (nb rfl) ⟨Nat.zero_le _, Nat.zero_le _⟩ dX12_percentOf_38) ?_
          refine x_goto 45 C dX12_percentOf_41 (by decide) ?_
          refine x_istore_n [(3, .int (f_X12_ofVersion μ a2 ((6 : Int32) + x4))), (0, .ref b), (1, .int a1), (2, .int a2), (4, .int x4)] C dX12_percentOf_45 rfl (by decide) rfl ?_
          refine x_iinc (x4 + (1 : Int32)) [(4, .int (x4 + (1 : Int32))), (3, .int (f_X12_ofVersion μ a2 ((6 : Int32) + x4))), (0, .ref b), (1, .int a1), (2, .int a2)] C dX12_percentOf_46 rfl rfl (by decide) rfl ?_
          refine x_goto 5 C dX12_percentOf_49 (by decide) ?_
          refine x_sub [(0, .ref b), (1, .int a1), (2, .int a2), (3, .int (f_X12_ofVersion μ a2 ((6 : Int32) + x4))), (4, .int (x4 + (1 : Int32)))] [2, 3, 4, 1, 0] rfl ?_
          exact ih5 (f_X12_ofVersion μ a2 ((6 : Int32) + x4)) (x4 + (1 : Int32)) (natS (ixa hnx4 (ixl (x := (1 : Int32)) 1 rfl)) (by omega)).1 (by rw [(natS (ixa hnx4 (ixl (x := (1 : Int32)) 1 rfl)) (by omega)).2]; omega) (by rw [(natS (ixa hnx4 (ixl (x := (1 : Int32)) 1 rfl)) (by omega)).2]; omega)  hF
  refine x_iconst (0 : Int32) C dX12_percentOf_0 rfl ?_
  refine x_istore_n [(3, .int (0 : Int32)), (0, .ref b), (1, .int a1), (2, .int a2)] C dX12_percentOf_1 rfl (by decide) rfl ?_
  refine x_iconst (0 : Int32) C dX12_percentOf_2 rfl ?_
  refine x_istore [(4, .int (0 : Int32)), (3, .int (0 : Int32)), (0, .ref b), (1, .int a1), (2, .int a2)] C dX12_percentOf_3 (by decide) rfl ?_
  refine x_sub [(0, .ref b), (1, .int a1), (2, .int a2), (3, .int (0 : Int32)), (4, .int (0 : Int32))] [2, 3, 4, 1, 0] rfl ?_
  exact hL5 5 (0 : Int32) (0 : Int32) (natS (ixl (x := (0 : Int32)) 0 rfl) (by omega)).1 (by rw [(natS (ixl (x := (0 : Int32)) 0 rfl) (by omega)).2]; omega) (by rw [(natS (ixl (x := (0 : Int32)) 0 rfl) (by omega)).2]; omega)  hF
def f_X12_yearOf (μ : Mm) (a1 : Int32) : Int32 := (f_X12_ofCall μ a1 (1 : Int32)) / (360 : Int32)
set_option maxRecDepth 20000 in
set_option maxHeartbeats 4000000 in
theorem c_X12_yearOf (l : Launch) (D : va_G) (cA : Nat → ClassId) (s0 : State) (b : Nat) (μ : Mm) (a1 : Int32) (hv_a1 : vp_in a1 41) : Met l yX12_yearOf (wsG yX12_yearOf cX12_yearOf 2 (some (FieldType.int))) { frames := 1, cells := 0, slots := 0, locals := 22 } (xP D cA s0 [.ref b, .int a1] (RM D cA b μ)) (xQr (some (.int (f_X12_yearOf μ a1)))) 0 0 xN := by
  refine x_start (own := RX12) [(0, .ref b), (1, .int a1)] rfl rfl (by decide) (nb rfl) ?_
  intro p e s m args below meth c C hw
  obtain ⟨F, hF⟩ : ∃ z, z = (f_X12_yearOf μ a1) := ⟨_, rfl⟩
  rw [← hF]
  obtain ⟨hn_a1, hl_a1⟩ := vpn hv_a1 (by decide)
  refine x_aload_n C dX12_yearOf_0 rfl ?_
  refine x_iload_n C dX12_yearOf_1 rfl ?_
  refine x_iconst (1 : Int32) C dX12_yearOf_2 rfl ?_
  refine x_goR (fun ls h => x_runV (As := [.int a1, .int (1 : Int32)]) [] h C ml_X12_248 (c_X12_ofCall l D cA s0 b μ a1 (1 : Int32) (ixin hn_a1 (by omega) (by decide)) (ixin (ixl (x := (1 : Int32)) 1 rfl) (by omega) (by decide))) ⟨rfl, rfl, nb rfl, nb rfl⟩ rfl (M_obj hw) rfl hw (nb rfl) ⟨Nat.zero_le _, Nat.zero_le _⟩ dX12_yearOf_3) ?_
  refine x_sipush (360 : Int32) C dX12_yearOf_6 rfl ?_
  refine x_idiv C dX12_yearOf_9 (by decide) ?_
  exact x_iretR C rfl dX12_yearOf_10 (e_i hF)
def f_X12_isLive (μ : Mm) (a1 : Int32) (a2 : Int32) : Bool := (if (f_X12_ofCall μ a1 (0 : Int32)) = a2 then (if (f_X12_ofCall μ a1 (4 : Int32)) = 0 then true else false) else false)
set_option maxRecDepth 20000 in
set_option maxHeartbeats 4000000 in
theorem c_X12_isLive (l : Launch) (D : va_G) (cA : Nat → ClassId) (s0 : State) (b : Nat) (μ : Mm) (a1 : Int32) (a2 : Int32) (hv_a1 : vp_in a1 41) : Met l yX12_isLive (wsG yX12_isLive cX12_isLive 3 (some (FieldType.boolean))) { frames := 1, cells := 0, slots := 0, locals := 22 } (xP D cA s0 [.ref b, .int a1, .int a2] (RM D cA b μ)) (xQr (some (.int (bI (f_X12_isLive μ a1 a2))))) 0 0 xN := by
  refine x_start (own := RX12) [(0, .ref b), (1, .int a1), (2, .int a2)] rfl rfl (by decide) (nb rfl) ?_
  intro p e s m args below meth c C hw
  obtain ⟨F, hF⟩ : ∃ z, z = (f_X12_isLive μ a1 a2) := ⟨_, rfl⟩
  rw [← hF]
  obtain ⟨hn_a1, hl_a1⟩ := vpn hv_a1 (by decide)
  refine x_aload_n C dX12_isLive_0 rfl ?_
  refine x_iload_n C dX12_isLive_1 rfl ?_
  refine x_iconst (0 : Int32) C dX12_isLive_2 rfl ?_
  refine x_goR (fun ls h => x_runV (As := [.int a1, .int (0 : Int32)]) [] h C ml_X12_248 (c_X12_ofCall l D cA s0 b μ a1 (0 : Int32) (ixin hn_a1 (by omega) (by decide)) (ixin (ixl (x := (0 : Int32)) 0 rfl) (by omega) (by decide))) ⟨rfl, rfl, nb rfl, nb rfl⟩ rfl (M_obj hw) rfl hw (nb rfl) ⟨Nat.zero_le _, Nat.zero_le _⟩ dX12_isLive_3) ?_
  refine x_iload_n C dX12_isLive_6 rfl ?_
  refine x_icmp_ne 23 C dX12_isLive_7 (by decide) (fun c1 => ?_) (fun c1 => ?_)
  · have hF := hF.trans (if_neg c1)
    refine x_iconst (0 : Int32) C dX12_isLive_23 rfl ?_
    exact x_zretR C rfl dX12_isLive_24 rfl (e_b0 hF)
  · have hF := hF.trans (if_pos c1)
    refine x_aload_n C dX12_isLive_10 rfl ?_
    refine x_iload_n C dX12_isLive_11 rfl ?_
    refine x_iconst (4 : Int32) C dX12_isLive_12 rfl ?_
    refine x_goR (fun ls h => x_runV (As := [.int a1, .int (4 : Int32)]) [] h C ml_X12_248 (c_X12_ofCall l D cA s0 b μ a1 (4 : Int32) (ixin hn_a1 (by omega) (by decide)) (ixin (ixl (x := (4 : Int32)) 4 rfl) (by omega) (by decide))) ⟨rfl, rfl, nb rfl, nb rfl⟩ rfl (M_obj hw) rfl hw (nb rfl) ⟨Nat.zero_le _, Nat.zero_le _⟩ dX12_isLive_13) ?_
    refine x_if_ne 23 C dX12_isLive_16 (by decide) (fun c2 => ?_) (fun c2 => ?_)
    · have hF := hF.trans (if_neg c2)
      refine x_iconst (0 : Int32) C dX12_isLive_23 rfl ?_
      exact x_zretR C rfl dX12_isLive_24 rfl (e_b0 hF)
    · have hF := hF.trans (if_pos c2)
      refine x_iconst (1 : Int32) C dX12_isLive_19 rfl ?_
      refine x_goto 24 C dX12_isLive_20 (by decide) ?_
      exact x_zretR C rfl dX12_isLive_24 rfl (e_b1 hF)
def f_X12_callsIn_L5 (μ : Mm) (a1 : Int32) (a2 : Int32) : Nat → Int32 → Int32 → Int32
  | 0, _, _ => 0
  | n + 1, x3, x4 => (if (μ.1 1 1) ≤ x4 then x3 else (if f_X12_isLive μ x4 a1 then (if (f_X12_yearOf μ x4) = a2 then (f_X12_callsIn_L5 μ a1 a2 n (x3 + (1 : Int32)) (x4 + (1 : Int32))) else (f_X12_callsIn_L5 μ a1 a2 n (x3 + (0 : Int32)) (x4 + (1 : Int32)))) else (f_X12_callsIn_L5 μ a1 a2 n (x3 + (0 : Int32)) (x4 + (1 : Int32)))))
def f_X12_callsIn (μ : Mm) (a1 : Int32) (a2 : Int32) : Int32 := (f_X12_callsIn_L5 μ a1 a2 42 (0 : Int32) (0 : Int32))
set_option maxRecDepth 20000 in
set_option maxHeartbeats 4000000 in
theorem c_X12_callsIn (l : Launch) (D : va_G) (cA : Nat → ClassId) (s0 : State) (b : Nat) (μ : Mm) (hok : OkR (μ.1 1)) (a1 : Int32) (a2 : Int32) : Met l yX12_callsIn (wsG yX12_callsIn cX12_callsIn 5 (some (FieldType.int))) { frames := 2, cells := 0, slots := 0, locals := 44 } (xP D cA s0 [.ref b, .int a1, .int a2] (RM D cA b μ)) (xQr (some (.int (f_X12_callsIn μ a1 a2)))) 0 0 xN := by
  refine x_start (own := RX12) [(0, .ref b), (1, .int a1), (2, .int a2)] rfl rfl (by decide) (nb rfl) ?_
  intro p e s m args below meth c C hw
  obtain ⟨F, hF⟩ : ∃ z, z = (f_X12_callsIn μ a1 a2) := ⟨_, rfl⟩
  rw [← hF]
  have hL5 : ∀ (n : Nat) (x3 : Int32) (x4 : Int32) (hnx4 : x4 = nI (cl x4)) (hbx4 : cl x4 ≤ 41) (hmx4 : 41 < cl x4 + n), F = f_X12_callsIn_L5 μ a1 a2 n x3 x4 → xW p l e { frames := 2, cells := 0, slots := 0, locals := 44 } s m args below meth c 5 (MQ below (xQr (some (.int F))) args s 0 0 xN) s.heap [] 0 0 5 [(0, .ref b), (1, .int a1), (2, .int a2), (3, .int x3), (4, .int x4)] [] := by
    intro n
    induction n with
    | zero =>
      intro x3 x4 hnx4 hbx4 hmx4 hF
      exact False.elim (by omega)
    | succ n ih =>
      intro x3 x4 hnx4 hbx4 hmx4 hF
      have ih5 := ih
      refine x_iload C dX12_callsIn_5 rfl ?_
      refine x_aload_n C dX12_callsIn_7 rfl ?_
      refine x_get (.ref (b + 1)) C fl_X12_17 (M_obj hw) rfl dX12_callsIn_8 ?_
      refine x_iconst (1 : Int32) C dX12_callsIn_11 rfl ?_
      refine x_ialdN C (M_a1 hw) (ixl (x := (1 : Int32)) 1 rfl) (by omega) (by decide) dX12_callsIn_12 ?_
      obtain ⟨hn1, hl2⟩ := vpn (OkR_1 hok) (by decide)
      refine x_icmp_ge 50 C dX12_callsIn_13 (by decide) (fun c3 => ?_) (fun c3 => ?_)
      · have hF := hF.trans (if_pos c3)
        have q4 := (nleI hn1 hnx4 (by omega) (by omega)).mp c3
        refine x_iload_n C dX12_callsIn_50 rfl ?_
        exact x_iretR C rfl dX12_callsIn_51 (e_i hF)
      · have hF := hF.trans (if_neg c3)
        have q4 := mt (nleI hn1 hnx4 (by omega) (by omega)).mpr c3
        refine x_iload_n C dX12_callsIn_16 rfl ?_
        refine x_aload_n C dX12_callsIn_17 rfl ?_
        refine x_iload C dX12_callsIn_18 rfl ?_
        refine x_iload_n C dX12_callsIn_20 rfl ?_
        refine x_goR (fun ls h => x_runV (As := [.int x4, .int a1]) [.int x3] h C ml_X12_288 (c_X12_isLive l D cA s0 b μ x4 a1 (ixin hnx4 (by omega) (by decide))) ⟨rfl, rfl, nb rfl, nb rfl⟩ rfl (M_obj hw) rfl hw (nb rfl) ⟨Nat.zero_le _, Nat.zero_le _⟩ dX12_callsIn_21) ?_
        refine x_ifB_eq 41 C dX12_callsIn_24 (by decide) (fun c5 => ?_) (fun c5 => ?_)
        · have hF := hF.trans (if_neg (nbt c5))
          refine x_iconst (0 : Int32) C dX12_callsIn_41 rfl ?_
          refine x_iadd C dX12_callsIn_42 ?_
          refine x_istore_n [(3, .int (x3 + (0 : Int32))), (0, .ref b), (1, .int a1), (2, .int a2), (4, .int x4)] C dX12_callsIn_43 rfl (by decide) rfl ?_
          refine x_iinc (x4 + (1 : Int32)) [(4, .int (x4 + (1 : Int32))), (3, .int (x3 + (0 : Int32))), (0, .ref b), (1, .int a1), (2, .int a2)] C dX12_callsIn_44 rfl rfl (by decide) rfl ?_
          refine x_goto 5 C dX12_callsIn_47 (by decide) ?_
          refine x_sub [(0, .ref b), (1, .int a1), (2, .int a2), (3, .int (x3 + (0 : Int32))), (4, .int (x4 + (1 : Int32)))] [2, 3, 4, 1, 0] rfl ?_
          exact ih5 (x3 + (0 : Int32)) (x4 + (1 : Int32)) (natS (ixa hnx4 (ixl (x := (1 : Int32)) 1 rfl)) (by omega)).1 (by rw [(natS (ixa hnx4 (ixl (x := (1 : Int32)) 1 rfl)) (by omega)).2]; omega) (by rw [(natS (ixa hnx4 (ixl (x := (1 : Int32)) 1 rfl)) (by omega)).2]; omega)  hF
        · have hF := hF.trans (if_pos c5)
          refine x_aload_n C dX12_callsIn_27 rfl ?_
          refine x_iload C dX12_callsIn_28 rfl ?_
          refine x_goR (fun ls h => x_runV (As := [.int x4]) [.int x3] h C ml_X12_292 (c_X12_yearOf l D cA s0 b μ x4 (ixin hnx4 (by omega) (by decide))) ⟨rfl, rfl, nb rfl, nb rfl⟩ rfl (M_obj hw) rfl hw (nb rfl) ⟨Nat.zero_le _, Nat.zero_le _⟩ dX12_callsIn_30) ?_
          refine x_iload_n C dX12_callsIn_33 rfl ?_
          refine x_icmp_ne 41 C dX12_callsIn_34 (by decide) (fun c6 => ?_) (fun c6 => ?_)
          · have hF := hF.trans (if_neg c6)
            refine x_iconst (0 : Int32) C dX12_callsIn_41 rfl ?_
            refine x_iadd C dX12_callsIn_42 ?_
            refine x_istore_n [(3, .int (x3 + (0 : Int32))), (0, .ref b), (1, .int a1), (2, .int a2), (4, .int x4)] C dX12_callsIn_43 rfl (by decide) rfl ?_
            refine x_iinc (x4 + (1 : Int32)) [(4, .int (x4 + (1 : Int32))), (3, .int (x3 + (0 : Int32))), (0, .ref b), (1, .int a1), (2, .int a2)] C dX12_callsIn_44 rfl rfl (by decide) rfl ?_
            refine x_goto 5 C dX12_callsIn_47 (by decide) ?_
            refine x_sub [(0, .ref b), (1, .int a1), (2, .int a2), (3, .int (x3 + (0 : Int32))), (4, .int (x4 + (1 : Int32)))] [2, 3, 4, 1, 0] rfl ?_
            exact ih5 (x3 + (0 : Int32)) (x4 + (1 : Int32)) (natS (ixa hnx4 (ixl (x := (1 : Int32)) 1 rfl)) (by omega)).1 (by rw [(natS (ixa hnx4 (ixl (x := (1 : Int32)) 1 rfl)) (by omega)).2]; omega) (by rw [(natS (ixa hnx4 (ixl (x := (1 : Int32)) 1 rfl)) (by omega)).2]; omega)  hF
          · have hF := hF.trans (if_pos c6)
            refine x_iconst (1 : Int32) C dX12_callsIn_37 rfl ?_
            refine x_goto 42 C dX12_callsIn_38 (by decide) ?_
            refine x_iadd C dX12_callsIn_42 ?_
            refine x_istore_n [(3, .int (x3 + (1 : Int32))), (0, .ref b), (1, .int a1), (2, .int a2), (4, .int x4)] C dX12_callsIn_43 rfl (by decide) rfl ?_
            refine x_iinc (x4 + (1 : Int32)) [(4, .int (x4 + (1 : Int32))), (3, .int (x3 + (1 : Int32))), (0, .ref b), (1, .int a1), (2, .int a2)] C dX12_callsIn_44 rfl rfl (by decide) rfl ?_
            refine x_goto 5 C dX12_callsIn_47 (by decide) ?_
            refine x_sub [(0, .ref b), (1, .int a1), (2, .int a2), (3, .int (x3 + (1 : Int32))), (4, .int (x4 + (1 : Int32)))] [2, 3, 4, 1, 0] rfl ?_
            exact ih5 (x3 + (1 : Int32)) (x4 + (1 : Int32)) (natS (ixa hnx4 (ixl (x := (1 : Int32)) 1 rfl)) (by omega)).1 (by rw [(natS (ixa hnx4 (ixl (x := (1 : Int32)) 1 rfl)) (by omega)).2]; omega) (by rw [(natS (ixa hnx4 (ixl (x := (1 : Int32)) 1 rfl)) (by omega)).2]; omega)  hF
  refine x_iconst (0 : Int32) C dX12_callsIn_0 rfl ?_
  refine x_istore_n [(3, .int (0 : Int32)), (0, .ref b), (1, .int a1), (2, .int a2)] C dX12_callsIn_1 rfl (by decide) rfl ?_
  refine x_iconst (0 : Int32) C dX12_callsIn_2 rfl ?_
  refine x_istore [(4, .int (0 : Int32)), (3, .int (0 : Int32)), (0, .ref b), (1, .int a1), (2, .int a2)] C dX12_callsIn_3 (by decide) rfl ?_
  refine x_sub [(0, .ref b), (1, .int a1), (2, .int a2), (3, .int (0 : Int32)), (4, .int (0 : Int32))] [2, 3, 4, 1, 0] rfl ?_
  exact hL5 42 (0 : Int32) (0 : Int32) (natS (ixl (x := (0 : Int32)) 0 rfl) (by omega)).1 (by rw [(natS (ixl (x := (0 : Int32)) 0 rfl) (by omega)).2]; omega) (by rw [(natS (ixl (x := (0 : Int32)) 0 rfl) (by omega)).2]; omega)  hF
def f_X12_rankWith_L6 (μ : Mm) (a1 : Int32) (a2 : Int32) (a3 : Int32) : Nat → Int32 → Int32 → Int32
  | 0, _, _ => 0
  | n + 1, x4, x5 => (if (μ.1 1 1) ≤ x5 then x4 else (if x5 = a3 then (f_X12_rankWith_L6 μ a1 a2 a3 n x4 (x5 + (1 : Int32))) else (if f_X12_isLive μ x5 a1 then (if (f_X12_yearOf μ x5) = (a2 / (360 : Int32)) then (if (f_X12_ofCall μ x5 (1 : Int32)) < a2 then (f_X12_rankWith_L6 μ a1 a2 a3 n (x4 + (1 : Int32)) (x5 + (1 : Int32))) else (if (f_X12_ofCall μ x5 (1 : Int32)) = a2 then (if a3 ≤ x5 then (f_X12_rankWith_L6 μ a1 a2 a3 n (x4 + (0 : Int32)) (x5 + (1 : Int32))) else (f_X12_rankWith_L6 μ a1 a2 a3 n (x4 + (1 : Int32)) (x5 + (1 : Int32)))) else (f_X12_rankWith_L6 μ a1 a2 a3 n (x4 + (0 : Int32)) (x5 + (1 : Int32))))) else (f_X12_rankWith_L6 μ a1 a2 a3 n x4 (x5 + (1 : Int32)))) else (f_X12_rankWith_L6 μ a1 a2 a3 n x4 (x5 + (1 : Int32))))))
def f_X12_rankWith (μ : Mm) (a1 : Int32) (a2 : Int32) (a3 : Int32) : Int32 := (f_X12_rankWith_L6 μ a1 a2 a3 42 (1 : Int32) (0 : Int32))
set_option maxRecDepth 20000 in
set_option maxHeartbeats 4000000 in
theorem c_X12_rankWith (l : Launch) (D : va_G) (cA : Nat → ClassId) (s0 : State) (b : Nat) (μ : Mm) (hok : OkR (μ.1 1)) (a1 : Int32) (a2 : Int32) (a3 : Int32) : Met l yX12_rankWith (wsG yX12_rankWith cX12_rankWith 6 (some (FieldType.int))) { frames := 2, cells := 0, slots := 0, locals := 44 } (xP D cA s0 [.ref b, .int a1, .int a2, .int a3] (RM D cA b μ)) (xQr (some (.int (f_X12_rankWith μ a1 a2 a3)))) 0 0 xN := by
  refine x_start (own := RX12) [(0, .ref b), (1, .int a1), (2, .int a2), (3, .int a3)] rfl rfl (by decide) (nb rfl) ?_
  intro p e s m args below meth c C hw
  obtain ⟨F, hF⟩ : ∃ z, z = (f_X12_rankWith μ a1 a2 a3) := ⟨_, rfl⟩
  rw [← hF]
  have hL6 : ∀ (n : Nat) (x4 : Int32) (x5 : Int32) (hnx5 : x5 = nI (cl x5)) (hbx5 : cl x5 ≤ 41) (hmx5 : 41 < cl x5 + n), F = f_X12_rankWith_L6 μ a1 a2 a3 n x4 x5 → xW p l e { frames := 2, cells := 0, slots := 0, locals := 44 } s m args below meth c 6 (MQ below (xQr (some (.int F))) args s 0 0 xN) s.heap [] 0 0 6 [(0, .ref b), (1, .int a1), (2, .int a2), (3, .int a3), (4, .int x4), (5, .int x5)] [] := by
    intro n
    induction n with
    | zero =>
      intro x4 x5 hnx5 hbx5 hmx5 hF
      exact False.elim (by omega)
    | succ n ih =>
      intro x4 x5 hnx5 hbx5 hmx5 hF
      have ih6 := ih
      refine x_iload C dX12_rankWith_6 rfl ?_
      refine x_aload_n C dX12_rankWith_8 rfl ?_
      refine x_get (.ref (b + 1)) C fl_X12_17 (M_obj hw) rfl dX12_rankWith_9 ?_
      refine x_iconst (1 : Int32) C dX12_rankWith_12 rfl ?_
      refine x_ialdN C (M_a1 hw) (ixl (x := (1 : Int32)) 1 rfl) (by omega) (by decide) dX12_rankWith_13 ?_
      obtain ⟨hn1, hl2⟩ := vpn (OkR_1 hok) (by decide)
      refine x_icmp_ge 94 C dX12_rankWith_14 (by decide) (fun c3 => ?_) (fun c3 => ?_)
      · have hF := hF.trans (if_pos c3)
        have q4 := (nleI hn1 hnx5 (by omega) (by omega)).mp c3
        refine x_iload C dX12_rankWith_94 rfl ?_
        exact x_iretR C rfl dX12_rankWith_96 (e_i hF)
      · have hF := hF.trans (if_neg c3)
        have q4 := mt (nleI hn1 hnx5 (by omega) (by omega)).mpr c3
        refine x_iload C dX12_rankWith_17 rfl ?_
        refine x_iload_n C dX12_rankWith_19 rfl ?_
        refine x_icmp_eq 88 C dX12_rankWith_20 (by decide) (fun c5 => ?_) (fun c5 => ?_)
        · have hF := hF.trans (if_pos c5)
          refine x_iinc (x5 + (1 : Int32)) [(5, .int (x5 + (1 : Int32))), (0, .ref b), (1, .int a1), (2, .int a2), (3, .int a3), (4, .int x4)] C dX12_rankWith_88 rfl rfl (by decide) rfl ?_
          refine x_goto 6 C dX12_rankWith_91 (by decide) ?_
          refine x_sub [(0, .ref b), (1, .int a1), (2, .int a2), (3, .int a3), (4, .int x4), (5, .int (x5 + (1 : Int32)))] [1, 2, 3, 4, 5, 0] rfl ?_
          exact ih6 x4 (x5 + (1 : Int32)) (natS (ixa hnx5 (ixl (x := (1 : Int32)) 1 rfl)) (by omega)).1 (by rw [(natS (ixa hnx5 (ixl (x := (1 : Int32)) 1 rfl)) (by omega)).2]; omega) (by rw [(natS (ixa hnx5 (ixl (x := (1 : Int32)) 1 rfl)) (by omega)).2]; omega)  hF
        · have hF := hF.trans (if_neg c5)
          refine x_aload_n C dX12_rankWith_23 rfl ?_
          refine x_iload C dX12_rankWith_24 rfl ?_
          refine x_iload_n C dX12_rankWith_26 rfl ?_
          refine x_goR (fun ls h => x_runV (As := [.int x5, .int a1]) [] h C ml_X12_288 (c_X12_isLive l D cA s0 b μ x5 a1 (ixin hnx5 (by omega) (by decide))) ⟨rfl, rfl, nb rfl, nb rfl⟩ rfl (M_obj hw) rfl hw (nb rfl) ⟨Nat.zero_le _, Nat.zero_le _⟩ dX12_rankWith_27) ?_
          refine x_ifB_eq 88 C dX12_rankWith_30 (by decide) (fun c6 => ?_) (fun c6 => ?_)
          · have hF := hF.trans (if_neg (nbt c6))
            refine x_iinc (x5 + (1 : Int32)) [(5, .int (x5 + (1 : Int32))), (0, .ref b), (1, .int a1), (2, .int a2), (3, .int a3), (4, .int x4)] C dX12_rankWith_88 rfl rfl (by decide) rfl ?_
            refine x_goto 6 C dX12_rankWith_91 (by decide) ?_
            refine x_sub [(0, .ref b), (1, .int a1), (2, .int a2), (3, .int a3), (4, .int x4), (5, .int (x5 + (1 : Int32)))] [1, 2, 3, 4, 5, 0] rfl ?_
            exact ih6 x4 (x5 + (1 : Int32)) (natS (ixa hnx5 (ixl (x := (1 : Int32)) 1 rfl)) (by omega)).1 (by rw [(natS (ixa hnx5 (ixl (x := (1 : Int32)) 1 rfl)) (by omega)).2]; omega) (by rw [(natS (ixa hnx5 (ixl (x := (1 : Int32)) 1 rfl)) (by omega)).2]; omega)  hF
          · have hF := hF.trans (if_pos c6)
            refine x_aload_n C dX12_rankWith_33 rfl ?_
            refine x_iload C dX12_rankWith_34 rfl ?_
            refine x_goR (fun ls h => x_runV (As := [.int x5]) [] h C ml_X12_292 (c_X12_yearOf l D cA s0 b μ x5 (ixin hnx5 (by omega) (by decide))) ⟨rfl, rfl, nb rfl, nb rfl⟩ rfl (M_obj hw) rfl hw (nb rfl) ⟨Nat.zero_le _, Nat.zero_le _⟩ dX12_rankWith_36) ?_
            refine x_iload_n C dX12_rankWith_39 rfl ?_
            refine x_sipush (360 : Int32) C dX12_rankWith_40 rfl ?_
            refine x_idiv C dX12_rankWith_43 (by decide) ?_
            refine x_icmp_eq 50 C dX12_rankWith_44 (by decide) (fun c7 => ?_) (fun c7 => ?_)
            · have hF := hF.trans (if_pos c7)
              refine x_iload C dX12_rankWith_50 rfl ?_
              refine x_aload_n C dX12_rankWith_52 rfl ?_
              refine x_iload C dX12_rankWith_53 rfl ?_
              refine x_iconst (1 : Int32) C dX12_rankWith_55 rfl ?_
              refine x_goR (fun ls h => x_runV (As := [.int x5, .int (1 : Int32)]) [.int x4] h C ml_X12_248 (c_X12_ofCall l D cA s0 b μ x5 (1 : Int32) (ixin hnx5 (by omega) (by decide)) (ixin (ixl (x := (1 : Int32)) 1 rfl) (by omega) (by decide))) ⟨rfl, rfl, nb rfl, nb rfl⟩ rfl (M_obj hw) rfl hw (nb rfl) ⟨Nat.zero_le _, Nat.zero_le _⟩ dX12_rankWith_56) ?_
              refine x_iload_n C dX12_rankWith_59 rfl ?_
              refine x_icmp_lt 80 C dX12_rankWith_60 (by decide) (fun c8 => ?_) (fun c8 => ?_)
              · have hF := hF.trans (if_pos c8)
                refine x_iconst (1 : Int32) C dX12_rankWith_80 rfl ?_
                refine x_goto 85 C dX12_rankWith_81 (by decide) ?_
                refine x_iadd C dX12_rankWith_85 ?_
                refine x_istore [(4, .int (x4 + (1 : Int32))), (0, .ref b), (1, .int a1), (2, .int a2), (3, .int a3), (5, .int x5)] C dX12_rankWith_86 (by decide) rfl ?_
                refine x_iinc (x5 + (1 : Int32)) [(5, .int (x5 + (1 : Int32))), (4, .int (x4 + (1 : Int32))), (0, .ref b), (1, .int a1), (2, .int a2), (3, .int a3)] C dX12_rankWith_88 rfl rfl (by decide) rfl ?_
                refine x_goto 6 C dX12_rankWith_91 (by decide) ?_
                refine x_sub [(0, .ref b), (1, .int a1), (2, .int a2), (3, .int a3), (4, .int (x4 + (1 : Int32))), (5, .int (x5 + (1 : Int32)))] [2, 3, 4, 5, 1, 0] rfl ?_
                exact ih6 (x4 + (1 : Int32)) (x5 + (1 : Int32)) (natS (ixa hnx5 (ixl (x := (1 : Int32)) 1 rfl)) (by omega)).1 (by rw [(natS (ixa hnx5 (ixl (x := (1 : Int32)) 1 rfl)) (by omega)).2]; omega) (by rw [(natS (ixa hnx5 (ixl (x := (1 : Int32)) 1 rfl)) (by omega)).2]; omega)  hF
              · have hF := hF.trans (if_neg c8)
                refine x_aload_n C dX12_rankWith_63 rfl ?_
                refine x_iload C dX12_rankWith_64 rfl ?_
                refine x_iconst (1 : Int32) C dX12_rankWith_66 rfl ?_
                refine x_goR (fun ls h => x_runV (As := [.int x5, .int (1 : Int32)]) [.int x4] h C ml_X12_248 (c_X12_ofCall l D cA s0 b μ x5 (1 : Int32) (ixin hnx5 (by omega) (by decide)) (ixin (ixl (x := (1 : Int32)) 1 rfl) (by omega) (by decide))) ⟨rfl, rfl, nb rfl, nb rfl⟩ rfl (M_obj hw) rfl hw (nb rfl) ⟨Nat.zero_le _, Nat.zero_le _⟩ dX12_rankWith_67) ?_
                refine x_iload_n C dX12_rankWith_70 rfl ?_
                refine x_icmp_ne 84 C dX12_rankWith_71 (by decide) (fun c9 => ?_) (fun c9 => ?_)
                · have hF := hF.trans (if_neg c9)
                  refine x_iconst (0 : Int32) C dX12_rankWith_84 rfl ?_
                  refine x_iadd C dX12_rankWith_85 ?_
                  refine x_istore [(4, .int (x4 + (0 : Int32))), (0, .ref b), (1, .int a1), (2, .int a2), (3, .int a3), (5, .int x5)] C dX12_rankWith_86 (by decide) rfl ?_
                  refine x_iinc (x5 + (1 : Int32)) [(5, .int (x5 + (1 : Int32))), (4, .int (x4 + (0 : Int32))), (0, .ref b), (1, .int a1), (2, .int a2), (3, .int a3)] C dX12_rankWith_88 rfl rfl (by decide) rfl ?_
                  refine x_goto 6 C dX12_rankWith_91 (by decide) ?_
                  refine x_sub [(0, .ref b), (1, .int a1), (2, .int a2), (3, .int a3), (4, .int (x4 + (0 : Int32))), (5, .int (x5 + (1 : Int32)))] [2, 3, 4, 5, 1, 0] rfl ?_
                  exact ih6 (x4 + (0 : Int32)) (x5 + (1 : Int32)) (natS (ixa hnx5 (ixl (x := (1 : Int32)) 1 rfl)) (by omega)).1 (by rw [(natS (ixa hnx5 (ixl (x := (1 : Int32)) 1 rfl)) (by omega)).2]; omega) (by rw [(natS (ixa hnx5 (ixl (x := (1 : Int32)) 1 rfl)) (by omega)).2]; omega)  hF
                · have hF := hF.trans (if_pos c9)
                  refine x_iload C dX12_rankWith_74 rfl ?_
                  refine x_iload_n C dX12_rankWith_76 rfl ?_
                  refine x_icmp_ge 84 C dX12_rankWith_77 (by decide) (fun c10 => ?_) (fun c10 => ?_)
                  · have hF := hF.trans (if_pos c10)
                    refine x_iconst (0 : Int32) C dX12_rankWith_84 rfl ?_
                    refine x_iadd C dX12_rankWith_85 ?_
                    refine x_istore [(4, .int (x4 + (0 : Int32))), (0, .ref b), (1, .int a1), (2, .int a2), (3, .int a3), (5, .int x5)] C dX12_rankWith_86 (by decide) rfl ?_
                    refine x_iinc (x5 + (1 : Int32)) [(5, .int (x5 + (1 : Int32))), (4, .int (x4 + (0 : Int32))), (0, .ref b), (1, .int a1), (2, .int a2), (3, .int a3)] C dX12_rankWith_88 rfl rfl (by decide) rfl ?_
                    refine x_goto 6 C dX12_rankWith_91 (by decide) ?_
                    refine x_sub [(0, .ref b), (1, .int a1), (2, .int a2), (3, .int a3), (4, .int (x4 + (0 : Int32))), (5, .int (x5 + (1 : Int32)))] [2, 3, 4, 5, 1, 0] rfl ?_
                    exact ih6 (x4 + (0 : Int32)) (x5 + (1 : Int32)) (natS (ixa hnx5 (ixl (x := (1 : Int32)) 1 rfl)) (by omega)).1 (by rw [(natS (ixa hnx5 (ixl (x := (1 : Int32)) 1 rfl)) (by omega)).2]; omega) (by rw [(natS (ixa hnx5 (ixl (x := (1 : Int32)) 1 rfl)) (by omega)).2]; omega)  hF
                  · have hF := hF.trans (if_neg c10)
                    refine x_iconst (1 : Int32) C dX12_rankWith_80 rfl ?_
                    refine x_goto 85 C dX12_rankWith_81 (by decide) ?_
                    refine x_iadd C dX12_rankWith_85 ?_
                    refine x_istore [(4, .int (x4 + (1 : Int32))), (0, .ref b), (1, .int a1), (2, .int a2), (3, .int a3), (5, .int x5)] C dX12_rankWith_86 (by decide) rfl ?_
                    refine x_iinc (x5 + (1 : Int32)) [(5, .int (x5 + (1 : Int32))), (4, .int (x4 + (1 : Int32))), (0, .ref b), (1, .int a1), (2, .int a2), (3, .int a3)] C dX12_rankWith_88 rfl rfl (by decide) rfl ?_
                    refine x_goto 6 C dX12_rankWith_91 (by decide) ?_
                    refine x_sub [(0, .ref b), (1, .int a1), (2, .int a2), (3, .int a3), (4, .int (x4 + (1 : Int32))), (5, .int (x5 + (1 : Int32)))] [2, 3, 4, 5, 1, 0] rfl ?_
                    exact ih6 (x4 + (1 : Int32)) (x5 + (1 : Int32)) (natS (ixa hnx5 (ixl (x := (1 : Int32)) 1 rfl)) (by omega)).1 (by rw [(natS (ixa hnx5 (ixl (x := (1 : Int32)) 1 rfl)) (by omega)).2]; omega) (by rw [(natS (ixa hnx5 (ixl (x := (1 : Int32)) 1 rfl)) (by omega)).2]; omega)  hF
            · have hF := hF.trans (if_neg c7)
              refine x_goto 88 C dX12_rankWith_47 (by decide) ?_
              refine x_iinc (x5 + (1 : Int32)) [(5, .int (x5 + (1 : Int32))), (0, .ref b), (1, .int a1), (2, .int a2), (3, .int a3), (4, .int x4)] C dX12_rankWith_88 rfl rfl (by decide) rfl ?_
              refine x_goto 6 C dX12_rankWith_91 (by decide) ?_
              refine x_sub [(0, .ref b), (1, .int a1), (2, .int a2), (3, .int a3), (4, .int x4), (5, .int (x5 + (1 : Int32)))] [1, 2, 3, 4, 5, 0] rfl ?_
              exact ih6 x4 (x5 + (1 : Int32)) (natS (ixa hnx5 (ixl (x := (1 : Int32)) 1 rfl)) (by omega)).1 (by rw [(natS (ixa hnx5 (ixl (x := (1 : Int32)) 1 rfl)) (by omega)).2]; omega) (by rw [(natS (ixa hnx5 (ixl (x := (1 : Int32)) 1 rfl)) (by omega)).2]; omega)  hF
  refine x_iconst (1 : Int32) C dX12_rankWith_0 rfl ?_
  refine x_istore [(4, .int (1 : Int32)), (0, .ref b), (1, .int a1), (2, .int a2), (3, .int a3)] C dX12_rankWith_1 (by decide) rfl ?_
  refine x_iconst (0 : Int32) C dX12_rankWith_3 rfl ?_
  refine x_istore [(5, .int (0 : Int32)), (4, .int (1 : Int32)), (0, .ref b), (1, .int a1), (2, .int a2), (3, .int a3)] C dX12_rankWith_4 (by decide) rfl ?_
  refine x_sub [(0, .ref b), (1, .int a1), (2, .int a2), (3, .int a3), (4, .int (1 : Int32)), (5, .int (0 : Int32))] [2, 3, 4, 5, 1, 0] rfl ?_
  exact hL6 42 (1 : Int32) (0 : Int32) (natS (ixl (x := (0 : Int32)) 0 rfl) (by omega)).1 (by rw [(natS (ixl (x := (0 : Int32)) 0 rfl) (by omega)).2]; omega) (by rw [(natS (ixl (x := (0 : Int32)) 0 rfl) (by omega)).2]; omega)  hF
def f_X12_rankOf (μ : Mm) (a1 : Int32) : Int32 := (if (f_X12_ofCall μ a1 (4 : Int32)) = (1 : Int32) then (0 : Int32) else f_X12_rankWith μ (f_X12_ofCall μ a1 (0 : Int32)) (f_X12_ofCall μ a1 (1 : Int32)) a1)
set_option maxRecDepth 20000 in
set_option maxHeartbeats 4000000 in
theorem c_X12_rankOf (l : Launch) (D : va_G) (cA : Nat → ClassId) (s0 : State) (b : Nat) (μ : Mm) (hok : OkR (μ.1 1)) (a1 : Int32) (hv_a1 : vp_in a1 41) : Met l yX12_rankOf (wsG yX12_rankOf cX12_rankOf 2 (some (FieldType.int))) { frames := 3, cells := 0, slots := 0, locals := 69 } (xP D cA s0 [.ref b, .int a1] (RM D cA b μ)) (xQr (some (.int (f_X12_rankOf μ a1)))) 0 0 xN := by
  refine x_start (own := RX12) [(0, .ref b), (1, .int a1)] rfl rfl (by decide) (nb rfl) ?_
  intro p e s m args below meth c C hw
  obtain ⟨F, hF⟩ : ∃ z, z = (f_X12_rankOf μ a1) := ⟨_, rfl⟩
  rw [← hF]
  obtain ⟨hn_a1, hl_a1⟩ := vpn hv_a1 (by decide)
  refine x_aload_n C dX12_rankOf_0 rfl ?_
  refine x_iload_n C dX12_rankOf_1 rfl ?_
  refine x_iconst (4 : Int32) C dX12_rankOf_2 rfl ?_
  refine x_goR (fun ls h => x_runV (As := [.int a1, .int (4 : Int32)]) [] h C ml_X12_248 (c_X12_ofCall l D cA s0 b μ a1 (4 : Int32) (ixin hn_a1 (by omega) (by decide)) (ixin (ixl (x := (4 : Int32)) 4 rfl) (by omega) (by decide))) ⟨rfl, rfl, nb rfl, nb rfl⟩ rfl (M_obj hw) rfl hw (nb rfl) ⟨Nat.zero_le _, Nat.zero_le _⟩ dX12_rankOf_3) ?_
  refine x_iconst (1 : Int32) C dX12_rankOf_6 rfl ?_
  refine x_icmp_ne 14 C dX12_rankOf_7 (by decide) (fun c1 => ?_) (fun c1 => ?_)
  · have hF := hF.trans (if_neg c1)
    refine x_aload_n C dX12_rankOf_14 rfl ?_
    refine x_aload_n C dX12_rankOf_15 rfl ?_
    refine x_iload_n C dX12_rankOf_16 rfl ?_
    refine x_iconst (0 : Int32) C dX12_rankOf_17 rfl ?_
    refine x_goR (fun ls h => x_runV (As := [.int a1, .int (0 : Int32)]) [.ref b] h C ml_X12_248 (c_X12_ofCall l D cA s0 b μ a1 (0 : Int32) (ixin hn_a1 (by omega) (by decide)) (ixin (ixl (x := (0 : Int32)) 0 rfl) (by omega) (by decide))) ⟨rfl, rfl, nb rfl, nb rfl⟩ rfl (M_obj hw) rfl hw (nb rfl) ⟨Nat.zero_le _, Nat.zero_le _⟩ dX12_rankOf_18) ?_
    obtain ⟨hn2, hl3⟩ := vpn (f_ofCall_ship hok (ixin hn_a1 (by omega) (by decide))) (by decide)
    refine x_aload_n C dX12_rankOf_21 rfl ?_
    refine x_iload_n C dX12_rankOf_22 rfl ?_
    refine x_iconst (1 : Int32) C dX12_rankOf_23 rfl ?_
    refine x_goR (fun ls h => x_runV (As := [.int a1, .int (1 : Int32)]) [.int (f_X12_ofCall μ a1 (0 : Int32)), .ref b] h C ml_X12_248 (c_X12_ofCall l D cA s0 b μ a1 (1 : Int32) (ixin hn_a1 (by omega) (by decide)) (ixin (ixl (x := (1 : Int32)) 1 rfl) (by omega) (by decide))) ⟨rfl, rfl, nb rfl, nb rfl⟩ rfl (M_obj hw) rfl hw (nb rfl) ⟨Nat.zero_le _, Nat.zero_le _⟩ dX12_rankOf_24) ?_
    refine x_iload_n C dX12_rankOf_27 rfl ?_
    refine x_goR (fun ls h => x_runV (As := [.int (f_X12_ofCall μ a1 (0 : Int32)), .int (f_X12_ofCall μ a1 (1 : Int32)), .int a1]) [] h C ml_X12_295 (c_X12_rankWith l D cA s0 b μ hok (f_X12_ofCall μ a1 (0 : Int32)) (f_X12_ofCall μ a1 (1 : Int32)) a1 ) ⟨rfl, rfl, nb rfl, nb rfl⟩ rfl (M_obj hw) rfl hw (nb rfl) ⟨Nat.zero_le _, Nat.zero_le _⟩ dX12_rankOf_28) ?_
    exact x_iretR C rfl dX12_rankOf_31 (e_i hF)
  · have hF := hF.trans (if_pos c1)
    refine x_iconst (0 : Int32) C dX12_rankOf_10 rfl ?_
    refine x_goto 31 C dX12_rankOf_11 (by decide) ?_
    exact x_iretR C rfl dX12_rankOf_31 (e_i hF)
def f_X12_bandWith_L10 (μ : Mm) (a1 : Int32) : Nat → Int32 → Int32
  | 0, _ => 0
  | n + 1, x2 => (if x2 ≤ 0 then x2 else (if (μ.1 1 (12 + (cl (x2 + 1) - 1))) ≤ a1 then x2 else (f_X12_bandWith_L10 μ a1 n (x2 + (-1 : Int32)))))
def f_X12_bandWith (μ : Mm) (a1 : Int32) : Int32 := (f_X12_bandWith_L10 μ a1 7 ((μ.1 1 6) - (1 : Int32)))
set_option maxRecDepth 20000 in
set_option maxHeartbeats 4000000 in
theorem c_X12_bandWith (l : Launch) (D : va_G) (cA : Nat → ClassId) (s0 : State) (b : Nat) (μ : Mm) (hok : OkR (μ.1 1)) (a1 : Int32) : Met l yX12_bandWith (wsG yX12_bandWith cX12_bandWith 3 (some (FieldType.int))) { frames := 0, cells := 0, slots := 0, locals := 0 } (xP D cA s0 [.ref b, .int a1] (RM D cA b μ)) (xQr (some (.int (f_X12_bandWith μ a1)))) 0 0 xN := by
  refine x_start (own := RX12) [(0, .ref b), (1, .int a1)] rfl rfl (by decide) (nb rfl) ?_
  intro p e s m args below meth c C hw
  obtain ⟨F, hF⟩ : ∃ z, z = (f_X12_bandWith μ a1) := ⟨_, rfl⟩
  rw [← hF]
  have hL10 : ∀ (n : Nat) (x2 : Int32) (hnx2 : x2 + 1 = nI (cl (x2 + 1))) (hbx2 : cl (x2 + 1) ≤ 6) (hmx2 : cl (x2 + 1) < n), F = f_X12_bandWith_L10 μ a1 n x2 → xW p l e { frames := 0, cells := 0, slots := 0, locals := 0 } s m args below meth c 3 (MQ below (xQr (some (.int F))) args s 0 0 xN) s.heap [] 0 0 10 [(0, .ref b), (1, .int a1), (2, .int x2)] [] := by
    intro n
    induction n with
    | zero =>
      intro x2 hnx2 hbx2 hmx2 hF
      exact False.elim (by omega)
    | succ n ih =>
      intro x2 hnx2 hbx2 hmx2 hF
      have ih10 := ih
      refine x_iload_n C dX12_bandWith_10 rfl ?_
      refine x_if_le 33 C dX12_bandWith_11 (by decide) (fun c3 => ?_) (fun c3 => ?_)
      · have hF := hF.trans (if_pos c3)
        refine x_iload_n C dX12_bandWith_33 rfl ?_
        exact x_iretR C rfl dX12_bandWith_34 (e_i hF)
      · have hF := hF.trans (if_neg c3)
        obtain ⟨hn4, hl5⟩ := dnS hnx2 (by omega) (Int32.le_of_lt (Int32.not_le.mp c3))
        refine x_aload_n C dX12_bandWith_14 rfl ?_
        refine x_get (.ref (b + 1)) C fl_X12_17 (M_obj hw) rfl dX12_bandWith_15 ?_
        refine x_bipush (12 : Int32) C dX12_bandWith_18 rfl ?_
        refine x_iload_n C dX12_bandWith_20 rfl ?_
        refine x_iadd C dX12_bandWith_21 ?_
        refine x_ialdN C (M_a1 hw) (ixa (ixl (x := (12 : Int32)) 12 rfl) hn4) (by omega) (by decide) dX12_bandWith_22 ?_
        refine x_iload_n C dX12_bandWith_23 rfl ?_
        refine x_icmp_le 33 C dX12_bandWith_24 (by decide) (fun c6 => ?_) (fun c6 => ?_)
        · have hF := hF.trans (if_pos c6)
          refine x_iload_n C dX12_bandWith_33 rfl ?_
          exact x_iretR C rfl dX12_bandWith_34 (e_i hF)
        · have hF := hF.trans (if_neg c6)
          refine x_iinc (x2 + (-1 : Int32)) [(2, .int (x2 + (-1 : Int32))), (0, .ref b), (1, .int a1)] C dX12_bandWith_27 rfl rfl (by decide) rfl ?_
          refine x_goto 10 C dX12_bandWith_30 (by decide) ?_
          refine x_sub [(0, .ref b), (1, .int a1), (2, .int (x2 + (-1 : Int32)))] [1, 2, 0] rfl ?_
          exact ih10 (x2 + (-1 : Int32)) (dnP hn4 (by omega)).1 (by rw [(dnP hn4 (by omega)).2]; omega) (by rw [(dnP hn4 (by omega)).2]; omega)  hF
  refine x_aload_n C dX12_bandWith_0 rfl ?_
  refine x_get (.ref (b + 1)) C fl_X12_17 (M_obj hw) rfl dX12_bandWith_1 ?_
  refine x_bipush (6 : Int32) C dX12_bandWith_4 rfl ?_
  refine x_ialdN C (M_a1 hw) (ixl (x := (6 : Int32)) 6 rfl) (by omega) (by decide) dX12_bandWith_6 ?_
  obtain ⟨hn1, hl2⟩ := vpn (OkR_6 hok) (by decide)
  refine x_iconst (1 : Int32) C dX12_bandWith_7 rfl ?_
  refine x_isub C dX12_bandWith_8 ?_
  refine x_istore_n [(2, .int ((μ.1 1 6) - (1 : Int32))), (0, .ref b), (1, .int a1)] C dX12_bandWith_9 rfl (by decide) rfl ?_
  refine x_sub [(0, .ref b), (1, .int a1), (2, .int ((μ.1 1 6) - (1 : Int32)))] [1, 2, 0] rfl ?_
  exact hL10 7 ((μ.1 1 6) - (1 : Int32)) (dnI hn1 (by omega)).1 (by rw [(dnI hn1 (by omega)).2]; omega) (by rw [(dnI hn1 (by omega)).2]; omega)  hF
