def f_X12_in (a1 : Int64) (a2 : Int64) (a3 : Int64) : Bool := (if a1 < a2 then false else (if a3 < a1 then false else true))
set_option maxRecDepth 20000 in
set_option maxHeartbeats 4000000 in
theorem c_X12_in (l : Launch) (D : va_G) (cA : Nat → ClassId) (s0 : State) (a1 : Int64) (a2 : Int64) (a3 : Int64) : Met l yX12_in (wsG yX12_in cX12_in 6 (some (FieldType.boolean))) { frames := 0, cells := 0, slots := 0, locals := 0 } (xP D cA s0 [.long a1, .long a2, .long a3] (fun _ => True)) (xQr (some (.int (bI (f_X12_in a1 a2 a3))))) 0 0 xN := by
  refine x_start (own := RX12) [(0, .long a1), (2, .long a2), (4, .long a3)] rfl rfl (by decide) (nb rfl) ?_
  intro p e s m args below meth c C hw
  obtain ⟨F, hF⟩ : ∃ z, z = (f_X12_in a1 a2 a3) := ⟨_, rfl⟩
  rw [← hF]
  refine x_lload_n C dX12_in_0 rfl ?_
  refine x_lload_n C dX12_in_1 rfl ?_
  refine x_lcmp_lt 17 C dX12_in_2 dX12_in_3 (by decide) (fun c1 => ?_) (fun c1 => ?_)
  · have hF := hF.trans (if_pos c1)
    refine x_iconst (0 : Int32) C dX12_in_17 rfl ?_
    exact x_zretR C rfl dX12_in_18 rfl (e_b0 hF)
  · have hF := hF.trans (if_neg c1)
    refine x_lload_n C dX12_in_6 rfl ?_
    refine x_lload C dX12_in_7 rfl ?_
    refine x_lcmp_gt 17 C dX12_in_9 dX12_in_10 (by decide) (fun c2 => ?_) (fun c2 => ?_)
    · have hF := hF.trans (if_pos c2)
      refine x_iconst (0 : Int32) C dX12_in_17 rfl ?_
      exact x_zretR C rfl dX12_in_18 rfl (e_b0 hF)
    · have hF := hF.trans (if_neg c2)
      refine x_iconst (1 : Int32) C dX12_in_13 rfl ?_
      refine x_goto 18 C dX12_in_14 (by decide) ?_
      exact x_zretR C rfl dX12_in_18 rfl (e_b1 hF)
def f_X12_has (a1 : Int32) (a2 : Int32) : Bool := (if ((a1 >>> (a2 &&& 31)) &&& (1 : Int32)) = (1 : Int32) then true else false)
set_option maxRecDepth 20000 in
set_option maxHeartbeats 4000000 in
theorem c_X12_has (l : Launch) (D : va_G) (cA : Nat → ClassId) (s0 : State) (a1 : Int32) (a2 : Int32) : Met l yX12_has (wsG yX12_has cX12_has 2 (some (FieldType.boolean))) { frames := 0, cells := 0, slots := 0, locals := 0 } (xP D cA s0 [.int a1, .int a2] (fun _ => True)) (xQr (some (.int (bI (f_X12_has a1 a2))))) 0 0 xN := by
  refine x_start (own := RX12) [(0, .int a1), (1, .int a2)] rfl rfl (by decide) (nb rfl) ?_
  intro p e s m args below meth c C hw
  obtain ⟨F, hF⟩ : ∃ z, z = (f_X12_has a1 a2) := ⟨_, rfl⟩
  rw [← hF]
  refine x_iload_n C dX12_has_0 rfl ?_
  refine x_iload_n C dX12_has_1 rfl ?_
  refine x_ishr C dX12_has_2 ?_
  refine x_iconst (1 : Int32) C dX12_has_3 rfl ?_
  refine x_iand C dX12_has_4 ?_
  refine x_iconst (1 : Int32) C dX12_has_5 rfl ?_
  refine x_icmp_ne 13 C dX12_has_6 (by decide) (fun c1 => ?_) (fun c1 => ?_)
  · have hF := hF.trans (if_neg c1)
    refine x_iconst (0 : Int32) C dX12_has_13 rfl ?_
    exact x_zretR C rfl dX12_has_14 rfl (e_b0 hF)
  · have hF := hF.trans (if_pos c1)
    refine x_iconst (1 : Int32) C dX12_has_9 rfl ?_
    refine x_goto 14 C dX12_has_10 (by decide) ?_
    exact x_zretR C rfl dX12_has_14 rfl (e_b1 hF)
def f_X12_passes3 (μ : Mm) (a1 : Bool) (a2 : Bool) (a3 : Bool) : Bool × Mm := (if a1 then (if a2 then (if a3 then (if ((uI μ 0 0 (0 : Int32)).1 0 0) = 0 then (true, uI μ 0 0 (0 : Int32)) else (false, uI μ 0 0 (0 : Int32))) else (if ((uI μ 0 0 (3 : Int32)).1 0 0) = 0 then (true, uI μ 0 0 (3 : Int32)) else (false, uI μ 0 0 (3 : Int32)))) else (if ((uI μ 0 0 (2 : Int32)).1 0 0) = 0 then (true, uI μ 0 0 (2 : Int32)) else (false, uI μ 0 0 (2 : Int32)))) else (if ((uI μ 0 0 (1 : Int32)).1 0 0) = 0 then (true, uI μ 0 0 (1 : Int32)) else (false, uI μ 0 0 (1 : Int32))))
set_option maxRecDepth 20000 in
set_option maxHeartbeats 4000000 in
theorem c_X12_passes3 (l : Launch) (D : va_G) (cA : Nat → ClassId) (s0 : State) (b : Nat) (μ : Mm) (sz : Nat) (a1 : Bool) (a2 : Bool) (a3 : Bool) : Met l yX12_passes3 (wsG yX12_passes3 cX12_passes3 4 (some (FieldType.boolean))) { frames := 0, cells := 0, slots := 0, locals := 0 } (xP D cA s0 [.ref b, .int (bI a1), .int (bI a2), .int (bI a3)] (fun H => H.size = sz ∧ RM D cA b μ H)) (xQm (some (.int (bI (f_X12_passes3 μ a1 a2 a3).1))) (fun H => RM D cA b (f_X12_passes3 μ a1 a2 a3).2 H) (xA b 8 sz)) 0 0 (xA b 8 sz) := by
  refine x_start (own := RX12) [(0, .ref b), (1, .int (bI a1)), (2, .int (bI a2)), (3, .int (bI a3))] rfl rfl (by decide) (nb rfl) ?_
  intro p e s m args below meth c C hw
  obtain ⟨F, hF⟩ : ∃ z, z = (f_X12_passes3 μ a1 a2 a3) := ⟨_, rfl⟩
  rw [← hF]
  obtain ⟨hsz, hw⟩ := hw
  subst hsz
  have hS : va_S (xA b 8 s.heap.size) s.heap s.heap [] := va_S.rf
  refine x_aload_n C dX12_passes3_0 rfl ?_
  refine x_iload_n C dX12_passes3_1 rfl ?_
  refine x_ifB_ne 9 C dX12_passes3_2 (by decide) (fun c1 => ?_) (fun c1 => ?_)
  · have hF := hF.trans (if_pos c1)
    refine x_iload_n C dX12_passes3_9 rfl ?_
    refine x_ifB_ne 17 C dX12_passes3_10 (by decide) (fun c2 => ?_) (fun c2 => ?_)
    · have hF := hF.trans (if_pos c2)
      refine x_iload_n C dX12_passes3_17 rfl ?_
      refine x_ifB_ne 25 C dX12_passes3_18 (by decide) (fun c3 => ?_) (fun c3 => ?_)
      · have hF := hF.trans (if_pos c3)
        refine x_iconst (0 : Int32) C dX12_passes3_25 rfl ?_
        refine x_putI (kk0 := 0) 0 C fl_X12_3 hw (by decide) rfl rfl rfl rfl (nb rfl) dX12_passes3_26 hS (xA_in (by decide)) (fun H locs hw ho hz hS => ?_)
        refine x_aload_n C dX12_passes3_29 rfl ?_
        refine x_get (.int ((uI μ 0 0 (0 : Int32)).1 0 0)) C fl_X12_3 (M_obj hw) rfl dX12_passes3_30 ?_
        refine x_if_ne 40 C dX12_passes3_33 (by decide) (fun c4 => ?_) (fun c4 => ?_)
        · have hF := hF.trans (if_neg c4)
          refine x_iconst (0 : Int32) C dX12_passes3_40 rfl ?_
          exact x_zretM C rfl dX12_passes3_41 rfl (e_b0 (congrArg Prod.fst hF)) (by rw [hF]; exact hw) hS
        · have hF := hF.trans (if_pos c4)
          refine x_iconst (1 : Int32) C dX12_passes3_36 rfl ?_
          refine x_goto 41 C dX12_passes3_37 (by decide) ?_
          exact x_zretM C rfl dX12_passes3_41 rfl (e_b1 (congrArg Prod.fst hF)) (by rw [hF]; exact hw) hS
      · have hF := hF.trans (if_neg (nbt c3))
        refine x_iconst (3 : Int32) C dX12_passes3_21 rfl ?_
        refine x_goto 26 C dX12_passes3_22 (by decide) ?_
        refine x_putI (kk0 := 0) 0 C fl_X12_3 hw (by decide) rfl rfl rfl rfl (nb rfl) dX12_passes3_26 hS (xA_in (by decide)) (fun H locs hw ho hz hS => ?_)
        refine x_aload_n C dX12_passes3_29 rfl ?_
        refine x_get (.int ((uI μ 0 0 (3 : Int32)).1 0 0)) C fl_X12_3 (M_obj hw) rfl dX12_passes3_30 ?_
        refine x_if_ne 40 C dX12_passes3_33 (by decide) (fun c5 => ?_) (fun c5 => ?_)
        · have hF := hF.trans (if_neg c5)
          refine x_iconst (0 : Int32) C dX12_passes3_40 rfl ?_
          exact x_zretM C rfl dX12_passes3_41 rfl (e_b0 (congrArg Prod.fst hF)) (by rw [hF]; exact hw) hS
        · have hF := hF.trans (if_pos c5)
          refine x_iconst (1 : Int32) C dX12_passes3_36 rfl ?_
          refine x_goto 41 C dX12_passes3_37 (by decide) ?_
          exact x_zretM C rfl dX12_passes3_41 rfl (e_b1 (congrArg Prod.fst hF)) (by rw [hF]; exact hw) hS
    · have hF := hF.trans (if_neg (nbt c2))
      refine x_iconst (2 : Int32) C dX12_passes3_13 rfl ?_
      refine x_goto 26 C dX12_passes3_14 (by decide) ?_
      refine x_putI (kk0 := 0) 0 C fl_X12_3 hw (by decide) rfl rfl rfl rfl (nb rfl) dX12_passes3_26 hS (xA_in (by decide)) (fun H locs hw ho hz hS => ?_)
      refine x_aload_n C dX12_passes3_29 rfl ?_
      refine x_get (.int ((uI μ 0 0 (2 : Int32)).1 0 0)) C fl_X12_3 (M_obj hw) rfl dX12_passes3_30 ?_
      refine x_if_ne 40 C dX12_passes3_33 (by decide) (fun c6 => ?_) (fun c6 => ?_)
      · have hF := hF.trans (if_neg c6)
        refine x_iconst (0 : Int32) C dX12_passes3_40 rfl ?_
        exact x_zretM C rfl dX12_passes3_41 rfl (e_b0 (congrArg Prod.fst hF)) (by rw [hF]; exact hw) hS
      · have hF := hF.trans (if_pos c6)
        refine x_iconst (1 : Int32) C dX12_passes3_36 rfl ?_
        refine x_goto 41 C dX12_passes3_37 (by decide) ?_
        exact x_zretM C rfl dX12_passes3_41 rfl (e_b1 (congrArg Prod.fst hF)) (by rw [hF]; exact hw) hS
  · have hF := hF.trans (if_neg (nbt c1))
    refine x_iconst (1 : Int32) C dX12_passes3_5 rfl ?_
    refine x_goto 26 C dX12_passes3_6 (by decide) ?_
    refine x_putI (kk0 := 0) 0 C fl_X12_3 hw (by decide) rfl rfl rfl rfl (nb rfl) dX12_passes3_26 hS (xA_in (by decide)) (fun H locs hw ho hz hS => ?_)
    refine x_aload_n C dX12_passes3_29 rfl ?_
    refine x_get (.int ((uI μ 0 0 (1 : Int32)).1 0 0)) C fl_X12_3 (M_obj hw) rfl dX12_passes3_30 ?_
    refine x_if_ne 40 C dX12_passes3_33 (by decide) (fun c7 => ?_) (fun c7 => ?_)
    · have hF := hF.trans (if_neg c7)
      refine x_iconst (0 : Int32) C dX12_passes3_40 rfl ?_
      exact x_zretM C rfl dX12_passes3_41 rfl (e_b0 (congrArg Prod.fst hF)) (by rw [hF]; exact hw) hS
    · have hF := hF.trans (if_pos c7)
      refine x_iconst (1 : Int32) C dX12_passes3_36 rfl ?_
      refine x_goto 41 C dX12_passes3_37 (by decide) ?_
      exact x_zretM C rfl dX12_passes3_41 rfl (e_b1 (congrArg Prod.fst hF)) (by rw [hF]; exact hw) hS
def f_X12_passes2 (μ : Mm) (a1 : Bool) (a2 : Bool) : Bool × Mm := ((f_X12_passes3 μ a1 a2 true).1, (f_X12_passes3 μ a1 a2 true).2)
set_option maxRecDepth 20000 in
set_option maxHeartbeats 4000000 in
theorem c_X12_passes2 (l : Launch) (D : va_G) (cA : Nat → ClassId) (s0 : State) (b : Nat) (μ : Mm) (sz : Nat) (a1 : Bool) (a2 : Bool) : Met l yX12_passes2 (wsG yX12_passes2 cX12_passes2 3 (some (FieldType.boolean))) { frames := 1, cells := 0, slots := 0, locals := 23 } (xP D cA s0 [.ref b, .int (bI a1), .int (bI a2)] (fun H => H.size = sz ∧ RM D cA b μ H)) (xQm (some (.int (bI (f_X12_passes2 μ a1 a2).1))) (fun H => RM D cA b (f_X12_passes2 μ a1 a2).2 H) (xA b 8 sz)) 0 0 (xA b 8 sz) := by
  refine x_start (own := RX12) [(0, .ref b), (1, .int (bI a1)), (2, .int (bI a2))] rfl rfl (by decide) (nb rfl) ?_
  intro p e s m args below meth c C hw
  obtain ⟨F, hF⟩ : ∃ z, z = (f_X12_passes2 μ a1 a2) := ⟨_, rfl⟩
  rw [← hF]
  obtain ⟨hsz, hw⟩ := hw
  subst hsz
  have hS : va_S (xA b 8 s.heap.size) s.heap s.heap [] := va_S.rf
  refine x_aload_n C dX12_passes2_0 rfl ?_
  refine x_iload_n C dX12_passes2_1 rfl ?_
  refine x_iload_n C dX12_passes2_2 rfl ?_
  refine x_iconst (1 : Int32) C dX12_passes2_3 rfl ?_
  refine x_goM (fun ls h => x_runV (As := [.int (bI a1), .int (bI a2), .int (bI true)]) [] h C ml_X12_7 (c_X12_passes3 l D cA s0 b μ _ a1 a2 true ) ⟨rfl, rfl, nb rfl, nb rfl⟩ rfl (M_obj hw) rfl ⟨rfl, hw⟩ (nb rfl) ⟨Nat.zero_le _, Nat.zero_le _⟩ dX12_passes2_4) hS (xA_le hS) (fun H locs hw hz hk hS => ?_)
  have hw : RM D cA b ((f_X12_passes3 μ a1 a2 true).2) H := hw
  exact x_zretM C rfl dX12_passes2_7 (bI_nar _) (e_b (congrArg Prod.fst hF)) (by rw [hF]; exact hw) hS
def f_X12_passes (μ : Mm) (a1 : Bool) : Bool × Mm := ((f_X12_passes3 μ a1 true true).1, (f_X12_passes3 μ a1 true true).2)
set_option maxRecDepth 20000 in
set_option maxHeartbeats 4000000 in
theorem c_X12_passes (l : Launch) (D : va_G) (cA : Nat → ClassId) (s0 : State) (b : Nat) (μ : Mm) (sz : Nat) (a1 : Bool) : Met l yX12_passes (wsG yX12_passes cX12_passes 2 (some (FieldType.boolean))) { frames := 1, cells := 0, slots := 0, locals := 23 } (xP D cA s0 [.ref b, .int (bI a1)] (fun H => H.size = sz ∧ RM D cA b μ H)) (xQm (some (.int (bI (f_X12_passes μ a1).1))) (fun H => RM D cA b (f_X12_passes μ a1).2 H) (xA b 8 sz)) 0 0 (xA b 8 sz) := by
  refine x_start (own := RX12) [(0, .ref b), (1, .int (bI a1))] rfl rfl (by decide) (nb rfl) ?_
  intro p e s m args below meth c C hw
  obtain ⟨F, hF⟩ : ∃ z, z = (f_X12_passes μ a1) := ⟨_, rfl⟩
  rw [← hF]
  obtain ⟨hsz, hw⟩ := hw
  subst hsz
  have hS : va_S (xA b 8 s.heap.size) s.heap s.heap [] := va_S.rf
  refine x_aload_n C dX12_passes_0 rfl ?_
  refine x_iload_n C dX12_passes_1 rfl ?_
  refine x_iconst (1 : Int32) C dX12_passes_2 rfl ?_
  refine x_iconst (1 : Int32) C dX12_passes_3 rfl ?_
  refine x_goM (fun ls h => x_runV (As := [.int (bI a1), .int (bI true), .int (bI true)]) [] h C ml_X12_7 (c_X12_passes3 l D cA s0 b μ _ a1 true true ) ⟨rfl, rfl, nb rfl, nb rfl⟩ rfl (M_obj hw) rfl ⟨rfl, hw⟩ (nb rfl) ⟨Nat.zero_le _, Nat.zero_le _⟩ dX12_passes_4) hS (xA_le hS) (fun H locs hw hz hk hS => ?_)
  have hw : RM D cA b ((f_X12_passes3 μ a1 true true).2) H := hw
  exact x_zretM C rfl dX12_passes_7 (bI_nar _) (e_b (congrArg Prod.fst hF)) (by rw [hF]; exact hw) hS
def f_X12_ofShip (μ : Mm) (a1 : Int32) (a2 : Int32) : Int32 := μ.1 1 (274 + (7) * (cl a1) + cl a2)
set_option maxRecDepth 20000 in
set_option maxHeartbeats 4000000 in
theorem c_X12_ofShip (l : Launch) (D : va_G) (cA : Nat → ClassId) (s0 : State) (b : Nat) (μ : Mm) (a1 : Int32) (a2 : Int32) (hv_a1 : vp_in a1 8) (hv_a2 : vp_in a2 7) : Met l yX12_ofShip (wsG yX12_ofShip cX12_ofShip 3 (some (FieldType.int))) { frames := 0, cells := 0, slots := 0, locals := 0 } (xP D cA s0 [.ref b, .int a1, .int a2] (RM D cA b μ)) (xQr (some (.int (f_X12_ofShip μ a1 a2)))) 0 0 xN := by
  refine x_start (own := RX12) [(0, .ref b), (1, .int a1), (2, .int a2)] rfl rfl (by decide) (nb rfl) ?_
  intro p e s m args below meth c C hw
  obtain ⟨F, hF⟩ : ∃ z, z = (f_X12_ofShip μ a1 a2) := ⟨_, rfl⟩
  rw [← hF]
  obtain ⟨hn_a1, hl_a1⟩ := vpn hv_a1 (by decide)
  obtain ⟨hn_a2, hl_a2⟩ := vpn hv_a2 (by decide)
  refine x_aload_n C dX12_ofShip_0 rfl ?_
  refine x_get (.ref (b + 1)) C fl_X12_17 (M_obj hw) rfl dX12_ofShip_1 ?_
  refine x_sipush (274 : Int32) C dX12_ofShip_4 rfl ?_
  refine x_bipush (7 : Int32) C dX12_ofShip_7 rfl ?_
  refine x_iload_n C dX12_ofShip_9 rfl ?_
  refine x_imul C dX12_ofShip_10 ?_
  refine x_iadd C dX12_ofShip_11 ?_
  refine x_iload_n C dX12_ofShip_12 rfl ?_
  refine x_iadd C dX12_ofShip_13 ?_
  refine x_ialdN C (M_a1 hw) (ixa (ixa (ixl (x := (274 : Int32)) 274 rfl) (ixm (ixl (x := (7 : Int32)) 7 rfl) hn_a1)) hn_a2) (by omega) (by decide) dX12_ofShip_14 ?_
  exact x_iretR C rfl dX12_ofShip_15 (e_i hF)
def f_X12_ofCall (μ : Mm) (a1 : Int32) (a2 : Int32) : Int32 := μ.1 1 (330 + (7) * (cl a1) + cl a2)
set_option maxRecDepth 20000 in
set_option maxHeartbeats 4000000 in
theorem c_X12_ofCall (l : Launch) (D : va_G) (cA : Nat → ClassId) (s0 : State) (b : Nat) (μ : Mm) (a1 : Int32) (a2 : Int32) (hv_a1 : vp_in a1 41) (hv_a2 : vp_in a2 7) : Met l yX12_ofCall (wsG yX12_ofCall cX12_ofCall 3 (some (FieldType.int))) { frames := 0, cells := 0, slots := 0, locals := 0 } (xP D cA s0 [.ref b, .int a1, .int a2] (RM D cA b μ)) (xQr (some (.int (f_X12_ofCall μ a1 a2)))) 0 0 xN := by
  refine x_start (own := RX12) [(0, .ref b), (1, .int a1), (2, .int a2)] rfl rfl (by decide) (nb rfl) ?_
  intro p e s m args below meth c C hw
  obtain ⟨F, hF⟩ : ∃ z, z = (f_X12_ofCall μ a1 a2) := ⟨_, rfl⟩
  rw [← hF]
  obtain ⟨hn_a1, hl_a1⟩ := vpn hv_a1 (by decide)
  obtain ⟨hn_a2, hl_a2⟩ := vpn hv_a2 (by decide)
  refine x_aload_n C dX12_ofCall_0 rfl ?_
  refine x_get (.ref (b + 1)) C fl_X12_17 (M_obj hw) rfl dX12_ofCall_1 ?_
  refine x_sipush (330 : Int32) C dX12_ofCall_4 rfl ?_
  refine x_bipush (7 : Int32) C dX12_ofCall_7 rfl ?_
  refine x_iload_n C dX12_ofCall_9 rfl ?_
  refine x_imul C dX12_ofCall_10 ?_
  refine x_iadd C dX12_ofCall_11 ?_
  refine x_iload_n C dX12_ofCall_12 rfl ?_
  refine x_iadd C dX12_ofCall_13 ?_
  refine x_ialdN C (M_a1 hw) (ixa (ixa (ixl (x := (330 : Int32)) 330 rfl) (ixm (ixl (x := (7 : Int32)) 7 rfl) hn_a1)) hn_a2) (by omega) (by decide) dX12_ofCall_14 ?_
  exact x_iretR C rfl dX12_ofCall_15 (e_i hF)
def f_X12_ofInvoice (μ : Mm) (a1 : Int32) (a2 : Int32) : Int32 := μ.1 1 (617 + (10) * (cl a1) + cl a2)
set_option maxRecDepth 20000 in
set_option maxHeartbeats 4000000 in
theorem c_X12_ofInvoice (l : Launch) (D : va_G) (cA : Nat → ClassId) (s0 : State) (b : Nat) (μ : Mm) (a1 : Int32) (a2 : Int32) (hv_a1 : vp_in a1 60) (hv_a2 : vp_in a2 10) : Met l yX12_ofInvoice (wsG yX12_ofInvoice cX12_ofInvoice 3 (some (FieldType.int))) { frames := 0, cells := 0, slots := 0, locals := 0 } (xP D cA s0 [.ref b, .int a1, .int a2] (RM D cA b μ)) (xQr (some (.int (f_X12_ofInvoice μ a1 a2)))) 0 0 xN := by
  refine x_start (own := RX12) [(0, .ref b), (1, .int a1), (2, .int a2)] rfl rfl (by decide) (nb rfl) ?_
  intro p e s m args below meth c C hw
  obtain ⟨F, hF⟩ : ∃ z, z = (f_X12_ofInvoice μ a1 a2) := ⟨_, rfl⟩
  rw [← hF]
  obtain ⟨hn_a1, hl_a1⟩ := vpn hv_a1 (by decide)
  obtain ⟨hn_a2, hl_a2⟩ := vpn hv_a2 (by decide)
  refine x_aload_n C dX12_ofInvoice_0 rfl ?_
  refine x_get (.ref (b + 1)) C fl_X12_17 (M_obj hw) rfl dX12_ofInvoice_1 ?_
  refine x_sipush (617 : Int32) C dX12_ofInvoice_4 rfl ?_
  refine x_bipush (10 : Int32) C dX12_ofInvoice_7 rfl ?_
  refine x_iload_n C dX12_ofInvoice_9 rfl ?_
  refine x_imul C dX12_ofInvoice_10 ?_
  refine x_iadd C dX12_ofInvoice_11 ?_
  refine x_iload_n C dX12_ofInvoice_12 rfl ?_
  refine x_iadd C dX12_ofInvoice_13 ?_
  refine x_ialdN C (M_a1 hw) (ixa (ixa (ixl (x := (617 : Int32)) 617 rfl) (ixm (ixl (x := (10 : Int32)) 10 rfl) hn_a1)) hn_a2) (by omega) (by decide) dX12_ofInvoice_14 ?_
  exact x_iretR C rfl dX12_ofInvoice_15 (e_i hF)
def f_X12_ofVersion (μ : Mm) (a1 : Int32) (a2 : Int32) : Int32 := μ.1 1 (22 + (12) * (cl a1) + cl a2)
set_option maxRecDepth 20000 in
set_option maxHeartbeats 4000000 in
theorem c_X12_ofVersion (l : Launch) (D : va_G) (cA : Nat → ClassId) (s0 : State) (b : Nat) (μ : Mm) (a1 : Int32) (a2 : Int32) (hv_a1 : vp_in a1 21) (hv_a2 : vp_in a2 12) : Met l yX12_ofVersion (wsG yX12_ofVersion cX12_ofVersion 3 (some (FieldType.int))) { frames := 0, cells := 0, slots := 0, locals := 0 } (xP D cA s0 [.ref b, .int a1, .int a2] (RM D cA b μ)) (xQr (some (.int (f_X12_ofVersion μ a1 a2)))) 0 0 xN := by
  refine x_start (own := RX12) [(0, .ref b), (1, .int a1), (2, .int a2)] rfl rfl (by decide) (nb rfl) ?_
  intro p e s m args below meth c C hw
  obtain ⟨F, hF⟩ : ∃ z, z = (f_X12_ofVersion μ a1 a2) := ⟨_, rfl⟩
  rw [← hF]
  obtain ⟨hn_a1, hl_a1⟩ := vpn hv_a1 (by decide)
  obtain ⟨hn_a2, hl_a2⟩ := vpn hv_a2 (by decide)
  refine x_aload_n C dX12_ofVersion_0 rfl ?_
  refine x_get (.ref (b + 1)) C fl_X12_17 (M_obj hw) rfl dX12_ofVersion_1 ?_
  refine x_bipush (22 : Int32) C dX12_ofVersion_4 rfl ?_
  refine x_bipush (12 : Int32) C dX12_ofVersion_6 rfl ?_
  refine x_iload_n C dX12_ofVersion_8 rfl ?_
  refine x_imul C dX12_ofVersion_9 ?_
  refine x_iadd C dX12_ofVersion_10 ?_
  refine x_iload_n C dX12_ofVersion_11 rfl ?_
  refine x_iadd C dX12_ofVersion_12 ?_
  refine x_ialdN C (M_a1 hw) (ixa (ixa (ixl (x := (22 : Int32)) 22 rfl) (ixm (ixl (x := (12 : Int32)) 12 rfl) hn_a1)) hn_a2) (by omega) (by decide) dX12_ofVersion_13 ?_
  exact x_iretR C rfl dX12_ofVersion_14 (e_i hF)
def f_X12_version (μ : Mm) : Int32 := μ.1 1 4
set_option maxRecDepth 20000 in
set_option maxHeartbeats 4000000 in
theorem c_X12_version (l : Launch) (D : va_G) (cA : Nat → ClassId) (s0 : State) (b : Nat) (μ : Mm) : Met l yX12_version (wsG yX12_version cX12_version 1 (some (FieldType.int))) { frames := 0, cells := 0, slots := 0, locals := 0 } (xP D cA s0 [.ref b] (RM D cA b μ)) (xQr (some (.int (f_X12_version μ)))) 0 0 xN := by
  refine x_start (own := RX12) [(0, .ref b)] rfl rfl (by decide) (nb rfl) ?_
  intro p e s m args below meth c C hw
  obtain ⟨F, hF⟩ : ∃ z, z = (f_X12_version μ) := ⟨_, rfl⟩
  rw [← hF]
  refine x_aload_n C dX12_version_0 rfl ?_
  refine x_get (.ref (b + 1)) C fl_X12_17 (M_obj hw) rfl dX12_version_1 ?_
  refine x_iconst (4 : Int32) C dX12_version_4 rfl ?_
  refine x_ialdN C (M_a1 hw) (ixl (x := (4 : Int32)) 4 rfl) (by omega) (by decide) dX12_version_5 ?_
  exact x_iretR C rfl dX12_version_6 (e_i hF)
def f_X12_isShip (μ : Mm) (a1 : Int32) : Bool := f_X12_in a1.toInt64 (0 : Int64) (((μ.1 1 0) - (1 : Int32)).toInt64)
set_option maxRecDepth 20000 in
set_option maxHeartbeats 4000000 in
theorem c_X12_isShip (l : Launch) (D : va_G) (cA : Nat → ClassId) (s0 : State) (b : Nat) (μ : Mm) (a1 : Int32) : Met l yX12_isShip (wsG yX12_isShip cX12_isShip 2 (some (FieldType.boolean))) { frames := 1, cells := 0, slots := 0, locals := 25 } (xP D cA s0 [.ref b, .int a1] (RM D cA b μ)) (xQr (some (.int (bI (f_X12_isShip μ a1))))) 0 0 xN := by
  refine x_start (own := RX12) [(0, .ref b), (1, .int a1)] rfl rfl (by decide) (nb rfl) ?_
  intro p e s m args below meth c C hw
  obtain ⟨F, hF⟩ : ∃ z, z = (f_X12_isShip μ a1) := ⟨_, rfl⟩
  rw [← hF]
  refine x_iload_n C dX12_isShip_0 rfl ?_
  refine x_i2l C dX12_isShip_1 ?_
  refine x_lconst (0 : Int64) C dX12_isShip_2 rfl ?_
  refine x_aload_n C dX12_isShip_3 rfl ?_
  refine x_get (.ref (b + 1)) C fl_X12_17 (M_obj hw) rfl dX12_isShip_4 ?_
  refine x_iconst (0 : Int32) C dX12_isShip_7 rfl ?_
  refine x_ialdN C (M_a1 hw) (ixl (x := (0 : Int32)) 0 rfl) (by omega) (by decide) dX12_isShip_8 ?_
  refine x_iconst (1 : Int32) C dX12_isShip_9 rfl ?_
  refine x_isub C dX12_isShip_10 ?_
  refine x_i2l C dX12_isShip_11 ?_
  refine x_goR (fun ls h => x_runS (As := [.long a1.toInt64, .long (0 : Int64), .long (((μ.1 1 0) - (1 : Int32)).toInt64)]) [] h C ml_X12_47 (c_X12_in l D cA s0 a1.toInt64 (0 : Int64) (((μ.1 1 0) - (1 : Int32)).toInt64) ) ⟨rfl, rfl, nb rfl, nb rfl⟩ rfl trivial (nb rfl) ⟨Nat.zero_le _, Nat.zero_le _⟩ dX12_isShip_12) ?_
  exact x_zretR C rfl dX12_isShip_15 (bI_nar _) (e_b hF)
def f_X12_isCall (μ : Mm) (a1 : Int32) : Bool := f_X12_in a1.toInt64 (0 : Int64) (((μ.1 1 1) - (1 : Int32)).toInt64)
set_option maxRecDepth 20000 in
set_option maxHeartbeats 4000000 in
theorem c_X12_isCall (l : Launch) (D : va_G) (cA : Nat → ClassId) (s0 : State) (b : Nat) (μ : Mm) (a1 : Int32) : Met l yX12_isCall (wsG yX12_isCall cX12_isCall 2 (some (FieldType.boolean))) { frames := 1, cells := 0, slots := 0, locals := 25 } (xP D cA s0 [.ref b, .int a1] (RM D cA b μ)) (xQr (some (.int (bI (f_X12_isCall μ a1))))) 0 0 xN := by
  refine x_start (own := RX12) [(0, .ref b), (1, .int a1)] rfl rfl (by decide) (nb rfl) ?_
  intro p e s m args below meth c C hw
  obtain ⟨F, hF⟩ : ∃ z, z = (f_X12_isCall μ a1) := ⟨_, rfl⟩
  rw [← hF]
  refine x_iload_n C dX12_isCall_0 rfl ?_
  refine x_i2l C dX12_isCall_1 ?_
  refine x_lconst (0 : Int64) C dX12_isCall_2 rfl ?_
  refine x_aload_n C dX12_isCall_3 rfl ?_
  refine x_get (.ref (b + 1)) C fl_X12_17 (M_obj hw) rfl dX12_isCall_4 ?_
  refine x_iconst (1 : Int32) C dX12_isCall_7 rfl ?_
  refine x_ialdN C (M_a1 hw) (ixl (x := (1 : Int32)) 1 rfl) (by omega) (by decide) dX12_isCall_8 ?_
  refine x_iconst (1 : Int32) C dX12_isCall_9 rfl ?_
  refine x_isub C dX12_isCall_10 ?_
  refine x_i2l C dX12_isCall_11 ?_
  refine x_goR (fun ls h => x_runS (As := [.long a1.toInt64, .long (0 : Int64), .long (((μ.1 1 1) - (1 : Int32)).toInt64)]) [] h C ml_X12_47 (c_X12_in l D cA s0 a1.toInt64 (0 : Int64) (((μ.1 1 1) - (1 : Int32)).toInt64) ) ⟨rfl, rfl, nb rfl, nb rfl⟩ rfl trivial (nb rfl) ⟨Nat.zero_le _, Nat.zero_le _⟩ dX12_isCall_12) ?_
  exact x_zretR C rfl dX12_isCall_15 (bI_nar _) (e_b hF)
def f_X12_isInvoice (μ : Mm) (a1 : Int32) : Bool := f_X12_in a1.toInt64 (0 : Int64) (((μ.1 1 2) - (1 : Int32)).toInt64)
set_option maxRecDepth 20000 in
set_option maxHeartbeats 4000000 in
theorem c_X12_isInvoice (l : Launch) (D : va_G) (cA : Nat → ClassId) (s0 : State) (b : Nat) (μ : Mm) (a1 : Int32) : Met l yX12_isInvoice (wsG yX12_isInvoice cX12_isInvoice 2 (some (FieldType.boolean))) { frames := 1, cells := 0, slots := 0, locals := 25 } (xP D cA s0 [.ref b, .int a1] (RM D cA b μ)) (xQr (some (.int (bI (f_X12_isInvoice μ a1))))) 0 0 xN := by
  refine x_start (own := RX12) [(0, .ref b), (1, .int a1)] rfl rfl (by decide) (nb rfl) ?_
  intro p e s m args below meth c C hw
  obtain ⟨F, hF⟩ : ∃ z, z = (f_X12_isInvoice μ a1) := ⟨_, rfl⟩
  rw [← hF]
  refine x_iload_n C dX12_isInvoice_0 rfl ?_
  refine x_i2l C dX12_isInvoice_1 ?_
  refine x_lconst (0 : Int64) C dX12_isInvoice_2 rfl ?_
  refine x_aload_n C dX12_isInvoice_3 rfl ?_
  refine x_get (.ref (b + 1)) C fl_X12_17 (M_obj hw) rfl dX12_isInvoice_4 ?_
  refine x_iconst (2 : Int32) C dX12_isInvoice_7 rfl ?_
  refine x_ialdN C (M_a1 hw) (ixl (x := (2 : Int32)) 2 rfl) (by omega) (by decide) dX12_isInvoice_8 ?_
  refine x_iconst (1 : Int32) C dX12_isInvoice_9 rfl ?_
  refine x_isub C dX12_isInvoice_10 ?_
  refine x_i2l C dX12_isInvoice_11 ?_
  refine x_goR (fun ls h => x_runS (As := [.long a1.toInt64, .long (0 : Int64), .long (((μ.1 1 2) - (1 : Int32)).toInt64)]) [] h C ml_X12_47 (c_X12_in l D cA s0 a1.toInt64 (0 : Int64) (((μ.1 1 2) - (1 : Int32)).toInt64) ) ⟨rfl, rfl, nb rfl, nb rfl⟩ rfl trivial (nb rfl) ⟨Nat.zero_le _, Nat.zero_le _⟩ dX12_isInvoice_12) ?_
  exact x_zretR C rfl dX12_isInvoice_15 (bI_nar _) (e_b hF)
def f_X12_isBand (μ : Mm) (a1 : Int32) : Bool := f_X12_in a1.toInt64 (0 : Int64) (((μ.1 1 6) - (1 : Int32)).toInt64)
set_option maxRecDepth 20000 in
set_option maxHeartbeats 4000000 in
theorem c_X12_isBand (l : Launch) (D : va_G) (cA : Nat → ClassId) (s0 : State) (b : Nat) (μ : Mm) (a1 : Int32) : Met l yX12_isBand (wsG yX12_isBand cX12_isBand 2 (some (FieldType.boolean))) { frames := 1, cells := 0, slots := 0, locals := 25 } (xP D cA s0 [.ref b, .int a1] (RM D cA b μ)) (xQr (some (.int (bI (f_X12_isBand μ a1))))) 0 0 xN := by
  refine x_start (own := RX12) [(0, .ref b), (1, .int a1)] rfl rfl (by decide) (nb rfl) ?_
  intro p e s m args below meth c C hw
  obtain ⟨F, hF⟩ : ∃ z, z = (f_X12_isBand μ a1) := ⟨_, rfl⟩
  rw [← hF]
  refine x_iload_n C dX12_isBand_0 rfl ?_
  refine x_i2l C dX12_isBand_1 ?_
  refine x_lconst (0 : Int64) C dX12_isBand_2 rfl ?_
  refine x_aload_n C dX12_isBand_3 rfl ?_
  refine x_get (.ref (b + 1)) C fl_X12_17 (M_obj hw) rfl dX12_isBand_4 ?_
  refine x_bipush (6 : Int32) C dX12_isBand_7 rfl ?_
  refine x_ialdN C (M_a1 hw) (ixl (x := (6 : Int32)) 6 rfl) (by omega) (by decide) dX12_isBand_9 ?_
  refine x_iconst (1 : Int32) C dX12_isBand_10 rfl ?_
  refine x_isub C dX12_isBand_11 ?_
  refine x_i2l C dX12_isBand_12 ?_
  refine x_goR (fun ls h => x_runS (As := [.long a1.toInt64, .long (0 : Int64), .long (((μ.1 1 6) - (1 : Int32)).toInt64)]) [] h C ml_X12_47 (c_X12_in l D cA s0 a1.toInt64 (0 : Int64) (((μ.1 1 6) - (1 : Int32)).toInt64) ) ⟨rfl, rfl, nb rfl, nb rfl⟩ rfl trivial (nb rfl) ⟨Nat.zero_le _, Nat.zero_le _⟩ dX12_isBand_13) ?_
  exact x_zretR C rfl dX12_isBand_16 (bI_nar _) (e_b hF)
def f_X12_isRebate (μ : Mm) (a1 : Int32) : Bool := f_X12_in a1.toInt64 (0 : Int64) (((μ.1 1 7) - (1 : Int32)).toInt64)
set_option maxRecDepth 20000 in
set_option maxHeartbeats 4000000 in
theorem c_X12_isRebate (l : Launch) (D : va_G) (cA : Nat → ClassId) (s0 : State) (b : Nat) (μ : Mm) (a1 : Int32) : Met l yX12_isRebate (wsG yX12_isRebate cX12_isRebate 2 (some (FieldType.boolean))) { frames := 1, cells := 0, slots := 0, locals := 25 } (xP D cA s0 [.ref b, .int a1] (RM D cA b μ)) (xQr (some (.int (bI (f_X12_isRebate μ a1))))) 0 0 xN := by
  refine x_start (own := RX12) [(0, .ref b), (1, .int a1)] rfl rfl (by decide) (nb rfl) ?_
  intro p e s m args below meth c C hw
  obtain ⟨F, hF⟩ : ∃ z, z = (f_X12_isRebate μ a1) := ⟨_, rfl⟩
  rw [← hF]
  refine x_iload_n C dX12_isRebate_0 rfl ?_
  refine x_i2l C dX12_isRebate_1 ?_
  refine x_lconst (0 : Int64) C dX12_isRebate_2 rfl ?_
  refine x_aload_n C dX12_isRebate_3 rfl ?_
  refine x_get (.ref (b + 1)) C fl_X12_17 (M_obj hw) rfl dX12_isRebate_4 ?_
  refine x_bipush (7 : Int32) C dX12_isRebate_7 rfl ?_
  refine x_ialdN C (M_a1 hw) (ixl (x := (7 : Int32)) 7 rfl) (by omega) (by decide) dX12_isRebate_9 ?_
  refine x_iconst (1 : Int32) C dX12_isRebate_10 rfl ?_
  refine x_isub C dX12_isRebate_11 ?_
  refine x_i2l C dX12_isRebate_12 ?_
  refine x_goR (fun ls h => x_runS (As := [.long a1.toInt64, .long (0 : Int64), .long (((μ.1 1 7) - (1 : Int32)).toInt64)]) [] h C ml_X12_47 (c_X12_in l D cA s0 a1.toInt64 (0 : Int64) (((μ.1 1 7) - (1 : Int32)).toInt64) ) ⟨rfl, rfl, nb rfl, nb rfl⟩ rfl trivial (nb rfl) ⟨Nat.zero_le _, Nat.zero_le _⟩ dX12_isRebate_13) ?_
  exact x_zretR C rfl dX12_isRebate_16 (bI_nar _) (e_b hF)
def f_X12_isTons (a1 : Int32) : Bool := f_X12_in a1.toInt64 (0 : Int64) (9999 : Int64)
set_option maxRecDepth 20000 in
set_option maxHeartbeats 4000000 in
theorem c_X12_isTons (l : Launch) (D : va_G) (cA : Nat → ClassId) (s0 : State) (a1 : Int32) : Met l yX12_isTons (wsG yX12_isTons cX12_isTons 1 (some (FieldType.boolean))) { frames := 1, cells := 0, slots := 0, locals := 25 } (xP D cA s0 [.int a1] (fun _ => True)) (xQr (some (.int (bI (f_X12_isTons a1))))) 0 0 xN := by
  refine x_start (own := RX12) [(0, .int a1)] rfl rfl (by decide) (nb rfl) ?_
  intro p e s m args below meth c C hw
  obtain ⟨F, hF⟩ : ∃ z, z = (f_X12_isTons a1) := ⟨_, rfl⟩
  rw [← hF]
  refine x_iload_n C dX12_isTons_0 rfl ?_
  refine x_i2l C dX12_isTons_1 ?_
  refine x_lconst (0 : Int64) C dX12_isTons_2 rfl ?_
  refine x_ldc2 (9999 : Int64) C cl_X12_51 dX12_isTons_3 ?_
  refine x_goR (fun ls h => x_runS (As := [.long a1.toInt64, .long (0 : Int64), .long (9999 : Int64)]) [] h C ml_X12_47 (c_X12_in l D cA s0 a1.toInt64 (0 : Int64) (9999 : Int64) ) ⟨rfl, rfl, nb rfl, nb rfl⟩ rfl trivial (nb rfl) ⟨Nat.zero_le _, Nat.zero_le _⟩ dX12_isTons_6) ?_
  exact x_zretR C rfl dX12_isTons_9 (bI_nar _) (e_b hF)
def f_X12_isWaste (a1 : Int32) : Bool := f_X12_in a1.toInt64 (0 : Int64) (999 : Int64)
set_option maxRecDepth 20000 in
set_option maxHeartbeats 4000000 in
theorem c_X12_isWaste (l : Launch) (D : va_G) (cA : Nat → ClassId) (s0 : State) (a1 : Int32) : Met l yX12_isWaste (wsG yX12_isWaste cX12_isWaste 1 (some (FieldType.boolean))) { frames := 1, cells := 0, slots := 0, locals := 25 } (xP D cA s0 [.int a1] (fun _ => True)) (xQr (some (.int (bI (f_X12_isWaste a1))))) 0 0 xN := by
  refine x_start (own := RX12) [(0, .int a1)] rfl rfl (by decide) (nb rfl) ?_
  intro p e s m args below meth c C hw
  obtain ⟨F, hF⟩ : ∃ z, z = (f_X12_isWaste a1) := ⟨_, rfl⟩
  rw [← hF]
  refine x_iload_n C dX12_isWaste_0 rfl ?_
  refine x_i2l C dX12_isWaste_1 ?_
  refine x_lconst (0 : Int64) C dX12_isWaste_2 rfl ?_
  refine x_ldc2 (999 : Int64) C cl_X12_53 dX12_isWaste_3 ?_
  refine x_goR (fun ls h => x_runS (As := [.long a1.toInt64, .long (0 : Int64), .long (999 : Int64)]) [] h C ml_X12_47 (c_X12_in l D cA s0 a1.toInt64 (0 : Int64) (999 : Int64) ) ⟨rfl, rfl, nb rfl, nb rfl⟩ rfl trivial (nb rfl) ⟨Nat.zero_le _, Nat.zero_le _⟩ dX12_isWaste_6) ?_
  exact x_zretR C rfl dX12_isWaste_9 (bI_nar _) (e_b hF)
def f_X12_isYear (a1 : Int32) : Bool := f_X12_in a1.toInt64 (0 : Int64) (9 : Int64)
set_option maxRecDepth 20000 in
set_option maxHeartbeats 4000000 in
theorem c_X12_isYear (l : Launch) (D : va_G) (cA : Nat → ClassId) (s0 : State) (a1 : Int32) : Met l yX12_isYear (wsG yX12_isYear cX12_isYear 1 (some (FieldType.boolean))) { frames := 1, cells := 0, slots := 0, locals := 25 } (xP D cA s0 [.int a1] (fun _ => True)) (xQr (some (.int (bI (f_X12_isYear a1))))) 0 0 xN := by
  refine x_start (own := RX12) [(0, .int a1)] rfl rfl (by decide) (nb rfl) ?_
  intro p e s m args below meth c C hw
  obtain ⟨F, hF⟩ : ∃ z, z = (f_X12_isYear a1) := ⟨_, rfl⟩
  rw [← hF]
  refine x_iload_n C dX12_isYear_0 rfl ?_
  refine x_i2l C dX12_isYear_1 ?_
  refine x_lconst (0 : Int64) C dX12_isYear_2 rfl ?_
  refine x_ldc2 (9 : Int64) C cl_X12_55 dX12_isYear_3 ?_
  refine x_goR (fun ls h => x_runS (As := [.long a1.toInt64, .long (0 : Int64), .long (9 : Int64)]) [] h C ml_X12_47 (c_X12_in l D cA s0 a1.toInt64 (0 : Int64) (9 : Int64) ) ⟨rfl, rfl, nb rfl, nb rfl⟩ rfl trivial (nb rfl) ⟨Nat.zero_le _, Nat.zero_le _⟩ dX12_isYear_6) ?_
  exact x_zretR C rfl dX12_isYear_9 (bI_nar _) (e_b hF)
def f_X12_isLine (a1 : Int32) : Bool := f_X12_in a1.toInt64 (0 : Int64) (3 : Int64)
set_option maxRecDepth 20000 in
set_option maxHeartbeats 4000000 in
theorem c_X12_isLine (l : Launch) (D : va_G) (cA : Nat → ClassId) (s0 : State) (a1 : Int32) : Met l yX12_isLine (wsG yX12_isLine cX12_isLine 1 (some (FieldType.boolean))) { frames := 1, cells := 0, slots := 0, locals := 25 } (xP D cA s0 [.int a1] (fun _ => True)) (xQr (some (.int (bI (f_X12_isLine a1))))) 0 0 xN := by
  refine x_start (own := RX12) [(0, .int a1)] rfl rfl (by decide) (nb rfl) ?_
  intro p e s m args below meth c C hw
  obtain ⟨F, hF⟩ : ∃ z, z = (f_X12_isLine a1) := ⟨_, rfl⟩
  rw [← hF]
  refine x_iload_n C dX12_isLine_0 rfl ?_
  refine x_i2l C dX12_isLine_1 ?_
  refine x_lconst (0 : Int64) C dX12_isLine_2 rfl ?_
  refine x_ldc2 (3 : Int64) C cl_X12_57 dX12_isLine_3 ?_
  refine x_goR (fun ls h => x_runS (As := [.long a1.toInt64, .long (0 : Int64), .long (3 : Int64)]) [] h C ml_X12_47 (c_X12_in l D cA s0 a1.toInt64 (0 : Int64) (3 : Int64) ) ⟨rfl, rfl, nb rfl, nb rfl⟩ rfl trivial (nb rfl) ⟨Nat.zero_le _, Nat.zero_le _⟩ dX12_isLine_6) ?_
  exact x_zretR C rfl dX12_isLine_9 (bI_nar _) (e_b hF)
def f_X12_good (μ : Mm) : Bool := (if (μ.1 0 12) = 0 then true else false)
set_option maxRecDepth 20000 in
set_option maxHeartbeats 4000000 in
theorem c_X12_good (l : Launch) (D : va_G) (cA : Nat → ClassId) (s0 : State) (b : Nat) (μ : Mm) : Met l yX12_good (wsG yX12_good cX12_good 1 (some (FieldType.boolean))) { frames := 0, cells := 0, slots := 0, locals := 0 } (xP D cA s0 [.ref b] (RM D cA b μ)) (xQr (some (.int (bI (f_X12_good μ))))) 0 0 xN := by
  refine x_start (own := RX12) [(0, .ref b)] rfl rfl (by decide) (nb rfl) ?_
  intro p e s m args below meth c C hw
  obtain ⟨F, hF⟩ : ∃ z, z = (f_X12_good μ) := ⟨_, rfl⟩
  rw [← hF]
  refine x_aload_n C dX12_good_0 rfl ?_
  refine x_get (.int (μ.1 0 12)) C fl_X12_70 (M_obj hw) rfl dX12_good_1 ?_
  refine x_if_ne 11 C dX12_good_4 (by decide) (fun c1 => ?_) (fun c1 => ?_)
  · have hF := hF.trans (if_neg c1)
    refine x_iconst (0 : Int32) C dX12_good_11 rfl ?_
    exact x_zretR C rfl dX12_good_12 rfl (e_b0 hF)
  · have hF := hF.trans (if_pos c1)
    refine x_iconst (1 : Int32) C dX12_good_7 rfl ?_
    refine x_goto 12 C dX12_good_8 (by decide) ?_
    exact x_zretR C rfl dX12_good_12 rfl (e_b1 hF)
