def f_X12_inBand (μ : Mm) (a1 : Int32) (a2 : Int32) : Int32 := (if (μ.1 1 6) ≤ (a2 + (1 : Int32)) then imax (0 : Int32) (a1 - (μ.1 1 (12 + cl a2))) else imax (0 : Int32) ((imin a1 (μ.1 1 (12 + cl a2 + 1))) - (μ.1 1 (12 + cl a2))))
set_option maxRecDepth 20000 in
set_option maxHeartbeats 4000000 in
theorem c_X12_inBand (l : Launch) (D : va_G) (cA : Nat → ClassId) (s0 : State) (b : Nat) (μ : Mm) (hok : OkR (μ.1 1)) (a1 : Int32) (a2 : Int32) (hv_a2 : vp_in a2 6) : Met l yX12_inBand (wsG yX12_inBand cX12_inBand 4 (some (FieldType.int))) { frames := 1, cells := 0, slots := 0, locals := 21 } (xP D cA s0 [.ref b, .int a1, .int a2] (RM D cA b μ)) (xQr (some (.int (f_X12_inBand μ a1 a2)))) 0 0 xN := by
  refine x_start (own := RX12) [(0, .ref b), (1, .int a1), (2, .int a2)] rfl rfl (by decide) (nb rfl) ?_
  intro p e s m args below meth c C hw
  obtain ⟨F, hF⟩ : ∃ z, z = (f_X12_inBand μ a1 a2) := ⟨_, rfl⟩
  rw [← hF]
  obtain ⟨hn_a2, hl_a2⟩ := vpn hv_a2 (by decide)
  refine x_iload_n C dX12_inBand_0 rfl ?_
  refine x_iconst (1 : Int32) C dX12_inBand_1 rfl ?_
  refine x_iadd C dX12_inBand_2 ?_
  refine x_aload_n C dX12_inBand_3 rfl ?_
  refine x_get (.ref (b + 1)) C fl_X12_17 (M_obj hw) rfl dX12_inBand_4 ?_
  refine x_bipush (6 : Int32) C dX12_inBand_7 rfl ?_
  refine x_ialdN C (M_a1 hw) (ixl (x := (6 : Int32)) 6 rfl) (by omega) (by decide) dX12_inBand_9 ?_
  obtain ⟨hn1, hl2⟩ := vpn (OkR_6 hok) (by decide)
  refine x_icmp_ge 31 C dX12_inBand_10 (by decide) (fun c3 => ?_) (fun c3 => ?_)
  · have hF := hF.trans (if_pos c3)
    have q4 := (nleI hn1 (ixa hn_a2 (ixl (x := (1 : Int32)) 1 rfl)) (by omega) (by omega)).mp c3
    refine x_iload_n C dX12_inBand_31 rfl ?_
    refine x_istore_n [(3, .int a1), (0, .ref b), (1, .int a1), (2, .int a2)] C dX12_inBand_32 rfl (by decide) rfl ?_
    refine x_iconst (0 : Int32) C dX12_inBand_33 rfl ?_
    refine x_iload_n C dX12_inBand_34 rfl ?_
    refine x_aload_n C dX12_inBand_35 rfl ?_
    refine x_get (.ref (b + 1)) C fl_X12_17 (M_obj hw) rfl dX12_inBand_36 ?_
    refine x_bipush (12 : Int32) C dX12_inBand_39 rfl ?_
    refine x_iload_n C dX12_inBand_41 rfl ?_
    refine x_iadd C dX12_inBand_42 ?_
    refine x_ialdN C (M_a1 hw) (ixa (ixl (x := (12 : Int32)) 12 rfl) hn_a2) (by omega) (by decide) dX12_inBand_43 ?_
    refine x_isub C dX12_inBand_44 ?_
    refine x_mmax C ml_X12_234 (nb rfl) (nb rfl) ⟨Nat.zero_le _, Nat.zero_le _⟩ dX12_inBand_45 ?_
    exact x_iretR C rfl dX12_inBand_48 (e_i hF)
  · have hF := hF.trans (if_neg c3)
    have q4 := mt (nleI hn1 (ixa hn_a2 (ixl (x := (1 : Int32)) 1 rfl)) (by omega) (by omega)).mpr c3
    refine x_iload_n C dX12_inBand_13 rfl ?_
    refine x_aload_n C dX12_inBand_14 rfl ?_
    refine x_get (.ref (b + 1)) C fl_X12_17 (M_obj hw) rfl dX12_inBand_15 ?_
    refine x_bipush (12 : Int32) C dX12_inBand_18 rfl ?_
    refine x_iload_n C dX12_inBand_20 rfl ?_
    refine x_iadd C dX12_inBand_21 ?_
    refine x_iconst (1 : Int32) C dX12_inBand_22 rfl ?_
    refine x_iadd C dX12_inBand_23 ?_
    refine x_ialdN C (M_a1 hw) (ixa (ixa (ixl (x := (12 : Int32)) 12 rfl) hn_a2) (ixl (x := (1 : Int32)) 1 rfl)) (by omega) (by decide) dX12_inBand_24 ?_
    refine x_mmin C ml_X12_105 (nb rfl) (nb rfl) ⟨Nat.zero_le _, Nat.zero_le _⟩ dX12_inBand_25 ?_
    refine x_goto 32 C dX12_inBand_28 (by decide) ?_
    refine x_istore_n [(3, .int (imin a1 (μ.1 1 (12 + cl a2 + 1)))), (0, .ref b), (1, .int a1), (2, .int a2)] C dX12_inBand_32 rfl (by decide) rfl ?_
    refine x_iconst (0 : Int32) C dX12_inBand_33 rfl ?_
    refine x_iload_n C dX12_inBand_34 rfl ?_
    refine x_aload_n C dX12_inBand_35 rfl ?_
    refine x_get (.ref (b + 1)) C fl_X12_17 (M_obj hw) rfl dX12_inBand_36 ?_
    refine x_bipush (12 : Int32) C dX12_inBand_39 rfl ?_
    refine x_iload_n C dX12_inBand_41 rfl ?_
    refine x_iadd C dX12_inBand_42 ?_
    refine x_ialdN C (M_a1 hw) (ixa (ixl (x := (12 : Int32)) 12 rfl) hn_a2) (by omega) (by decide) dX12_inBand_43 ?_
    refine x_isub C dX12_inBand_44 ?_
    refine x_mmax C ml_X12_234 (nb rfl) (nb rfl) ⟨Nat.zero_le _, Nat.zero_le _⟩ dX12_inBand_45 ?_
    exact x_iretR C rfl dX12_inBand_48 (e_i hF)
def f_X12_duesOf_L43 (μ : Mm) (a1 : Int32) (a2 : Int32) : Nat → Int32 → Int32 → Int32
  | 0, _, _ => 0
  | n + 1, x3, x4 => (if (μ.1 1 6) ≤ x4 then x3 else (f_X12_duesOf_L43 μ a1 a2 n (x3 + ((f_X12_inBand μ a1 x4) * (f_X12_ofVersion μ a2 ((0 : Int32) + x4)))) (x4 + (1 : Int32))))
def f_X12_duesOf (μ : Mm) (a1 : Int32) (a2 : Int32) : Int32 := (if (μ.1 1 6) = 0 then (0 : Int32) else (if (μ.1 1 8) = (1 : Int32) then a1 * (f_X12_ofVersion μ a2 ((0 : Int32) + (f_X12_bandWith μ a1))) else (f_X12_duesOf_L43 μ a1 a2 7 (0 : Int32) (0 : Int32))))
set_option maxRecDepth 20000 in
set_option maxHeartbeats 4000000 in
theorem c_X12_duesOf (l : Launch) (D : va_G) (cA : Nat → ClassId) (s0 : State) (b : Nat) (μ : Mm) (hok : OkR (μ.1 1)) (a1 : Int32) (a2 : Int32) (hv_a2 : vp_in a2 21) : Met l yX12_duesOf (wsG yX12_duesOf cX12_duesOf 5 (some (FieldType.int))) { frames := 2, cells := 0, slots := 0, locals := 44 } (xP D cA s0 [.ref b, .int a1, .int a2] (RM D cA b μ)) (xQr (some (.int (f_X12_duesOf μ a1 a2)))) 0 0 xN := by
  refine x_start (own := RX12) [(0, .ref b), (1, .int a1), (2, .int a2)] rfl rfl (by decide) (nb rfl) ?_
  intro p e s m args below meth c C hw
  obtain ⟨F, hF⟩ : ∃ z, z = (f_X12_duesOf μ a1 a2) := ⟨_, rfl⟩
  rw [← hF]
  obtain ⟨hn_a2, hl_a2⟩ := vpn hv_a2 (by decide)
  have hL43 : ∀ (n : Nat) (x3 : Int32) (x4 : Int32) (hnx4 : x4 = nI (cl x4)) (hbx4 : cl x4 ≤ 6) (hmx4 : 6 < cl x4 + n), F = f_X12_duesOf_L43 μ a1 a2 n x3 x4 → xW p l e { frames := 2, cells := 0, slots := 0, locals := 44 } s m args below meth c 5 (MQ below (xQr (some (.int F))) args s 0 0 xN) s.heap [] 0 0 43 [(0, .ref b), (1, .int a1), (2, .int a2), (3, .int x3), (4, .int x4)] [] := by
    intro n
    induction n with
    | zero =>
      intro x3 x4 hnx4 hbx4 hmx4 hF
      exact False.elim (by omega)
    | succ n ih =>
      intro x3 x4 hnx4 hbx4 hmx4 hF
      have ih43 := ih
      refine x_iload C dX12_duesOf_43 rfl ?_
      refine x_aload_n C dX12_duesOf_45 rfl ?_
      refine x_get (.ref (b + 1)) C fl_X12_17 (M_obj hw) rfl dX12_duesOf_46 ?_
      refine x_bipush (6 : Int32) C dX12_duesOf_49 rfl ?_
      refine x_ialdN C (M_a1 hw) (ixl (x := (6 : Int32)) 6 rfl) (by omega) (by decide) dX12_duesOf_51 ?_
      obtain ⟨hn6, hl7⟩ := vpn (OkR_6 hok) (by decide)
      refine x_icmp_ge 81 C dX12_duesOf_52 (by decide) (fun c8 => ?_) (fun c8 => ?_)
      · have hF := hF.trans (if_pos c8)
        have q9 := (nleI hn6 hnx4 (by omega) (by omega)).mp c8
        refine x_iload_n C dX12_duesOf_81 rfl ?_
        exact x_iretR C rfl dX12_duesOf_82 (e_i hF)
      · have hF := hF.trans (if_neg c8)
        have q9 := mt (nleI hn6 hnx4 (by omega) (by omega)).mpr c8
        refine x_iload_n C dX12_duesOf_55 rfl ?_
        refine x_aload_n C dX12_duesOf_56 rfl ?_
        refine x_iload_n C dX12_duesOf_57 rfl ?_
        refine x_iload C dX12_duesOf_58 rfl ?_
        refine x_goR (fun ls h => x_runV (As := [.int a1, .int x4]) [.int x3] h C ml_X12_243 (c_X12_inBand l D cA s0 b μ hok a1 x4 (ixin hnx4 (by omega) (by decide))) ⟨rfl, rfl, nb rfl, nb rfl⟩ rfl (M_obj hw) rfl hw (nb rfl) ⟨Nat.zero_le _, Nat.zero_le _⟩ dX12_duesOf_60) ?_
        refine x_aload_n C dX12_duesOf_63 rfl ?_
        refine x_iload_n C dX12_duesOf_64 rfl ?_
        refine x_iconst (0 : Int32) C dX12_duesOf_65 rfl ?_
        refine x_iload C dX12_duesOf_66 rfl ?_
        refine x_iadd C dX12_duesOf_68 ?_
        refine x_goR (fun ls h => x_runV (As := [.int a2, .int ((0 : Int32) + x4)]) [.int (f_X12_inBand μ a1 x4), .int x3] h C ml_X12_240 (c_X12_ofVersion l D cA s0 b μ a2 ((0 : Int32) + x4) (ixin hn_a2 (by omega) (by decide)) (ixin (ixa (ixl (x := (0 : Int32)) 0 rfl) hnx4) (by omega) (by decide))) ⟨rfl, rfl, nb rfl, nb rfl⟩ rfl (M_obj hw) rfl hw (nb rfl) ⟨Nat.zero_le _, Nat.zero_le _⟩ dX12_duesOf_69) ?_
        refine x_imul C dX12_duesOf_72 ?_
        refine x_iadd C dX12_duesOf_73 ?_
        refine x_istore_n [(3, .int (x3 + ((f_X12_inBand μ a1 x4) * (f_X12_ofVersion μ a2 ((0 : Int32) + x4))))), (0, .ref b), (1, .int a1), (2, .int a2), (4, .int x4)] C dX12_duesOf_74 rfl (by decide) rfl ?_
        refine x_iinc (x4 + (1 : Int32)) [(4, .int (x4 + (1 : Int32))), (3, .int (x3 + ((f_X12_inBand μ a1 x4) * (f_X12_ofVersion μ a2 ((0 : Int32) + x4))))), (0, .ref b), (1, .int a1), (2, .int a2)] C dX12_duesOf_75 rfl rfl (by decide) rfl ?_
        refine x_goto 43 C dX12_duesOf_78 (by decide) ?_
        refine x_sub [(0, .ref b), (1, .int a1), (2, .int a2), (3, .int (x3 + ((f_X12_inBand μ a1 x4) * (f_X12_ofVersion μ a2 ((0 : Int32) + x4))))), (4, .int (x4 + (1 : Int32)))] [2, 3, 4, 1, 0] rfl ?_
        exact ih43 (x3 + ((f_X12_inBand μ a1 x4) * (f_X12_ofVersion μ a2 ((0 : Int32) + x4)))) (x4 + (1 : Int32)) (natS (ixa hnx4 (ixl (x := (1 : Int32)) 1 rfl)) (by omega)).1 (by rw [(natS (ixa hnx4 (ixl (x := (1 : Int32)) 1 rfl)) (by omega)).2]; omega) (by rw [(natS (ixa hnx4 (ixl (x := (1 : Int32)) 1 rfl)) (by omega)).2]; omega)  hF
  refine x_aload_n C dX12_duesOf_0 rfl ?_
  refine x_get (.ref (b + 1)) C fl_X12_17 (M_obj hw) rfl dX12_duesOf_1 ?_
  refine x_bipush (6 : Int32) C dX12_duesOf_4 rfl ?_
  refine x_ialdN C (M_a1 hw) (ixl (x := (6 : Int32)) 6 rfl) (by omega) (by decide) dX12_duesOf_6 ?_
  obtain ⟨hn1, hl2⟩ := vpn (OkR_6 hok) (by decide)
  refine x_if_ne 12 C dX12_duesOf_7 (by decide) (fun c3 => ?_) (fun c3 => ?_)
  · have hF := hF.trans (if_neg c3)
    have q4 := mt (neqI hn1 nI_0.symm (by omega) (by omega)).mpr c3
    refine x_aload_n C dX12_duesOf_12 rfl ?_
    refine x_get (.ref (b + 1)) C fl_X12_17 (M_obj hw) rfl dX12_duesOf_13 ?_
    refine x_bipush (8 : Int32) C dX12_duesOf_16 rfl ?_
    refine x_ialdN C (M_a1 hw) (ixl (x := (8 : Int32)) 8 rfl) (by omega) (by decide) dX12_duesOf_18 ?_
    refine x_iconst (1 : Int32) C dX12_duesOf_19 rfl ?_
    refine x_icmp_ne 38 C dX12_duesOf_20 (by decide) (fun c5 => ?_) (fun c5 => ?_)
    · have hF := hF.trans (if_neg c5)
      refine x_iconst (0 : Int32) C dX12_duesOf_38 rfl ?_
      refine x_istore_n [(3, .int (0 : Int32)), (0, .ref b), (1, .int a1), (2, .int a2)] C dX12_duesOf_39 rfl (by decide) rfl ?_
      refine x_iconst (0 : Int32) C dX12_duesOf_40 rfl ?_
      refine x_istore [(4, .int (0 : Int32)), (3, .int (0 : Int32)), (0, .ref b), (1, .int a1), (2, .int a2)] C dX12_duesOf_41 (by decide) rfl ?_
      refine x_sub [(0, .ref b), (1, .int a1), (2, .int a2), (3, .int (0 : Int32)), (4, .int (0 : Int32))] [2, 3, 4, 1, 0] rfl ?_
      exact hL43 7 (0 : Int32) (0 : Int32) (natS (ixl (x := (0 : Int32)) 0 rfl) (by omega)).1 (by rw [(natS (ixl (x := (0 : Int32)) 0 rfl) (by omega)).2]; omega) (by rw [(natS (ixl (x := (0 : Int32)) 0 rfl) (by omega)).2]; omega)  hF
    · have hF := hF.trans (if_pos c5)
      refine x_iload_n C dX12_duesOf_23 rfl ?_
      refine x_aload_n C dX12_duesOf_24 rfl ?_
      refine x_iload_n C dX12_duesOf_25 rfl ?_
      refine x_iconst (0 : Int32) C dX12_duesOf_26 rfl ?_
      refine x_aload_n C dX12_duesOf_27 rfl ?_
      refine x_iload_n C dX12_duesOf_28 rfl ?_
      refine x_goR (fun ls h => x_runV (As := [.int a1]) [.int (0 : Int32), .int a2, .ref b, .int a1] h C ml_X12_237 (c_X12_bandWith l D cA s0 b μ hok a1 ) ⟨rfl, rfl, nb rfl, nb rfl⟩ rfl (M_obj hw) rfl hw (nb rfl) ⟨Nat.zero_le _, Nat.zero_le _⟩ dX12_duesOf_29) ?_
      obtain ⟨hn10, hl11⟩ := vpn (f_bandWith_in hok (by omega)) (by decide)
      refine x_iadd C dX12_duesOf_32 ?_
      refine x_goR (fun ls h => x_runV (As := [.int a2, .int ((0 : Int32) + (f_X12_bandWith μ a1))]) [.int a1] h C ml_X12_240 (c_X12_ofVersion l D cA s0 b μ a2 ((0 : Int32) + (f_X12_bandWith μ a1)) (ixin hn_a2 (by omega) (by decide)) (ixin (ixa (ixl (x := (0 : Int32)) 0 rfl) hn10) (by omega) (by decide))) ⟨rfl, rfl, nb rfl, nb rfl⟩ rfl (M_obj hw) rfl hw (nb rfl) ⟨Nat.zero_le _, Nat.zero_le _⟩ dX12_duesOf_33) ?_
      refine x_imul C dX12_duesOf_36 ?_
      exact x_iretR C rfl dX12_duesOf_37 (e_i hF)
  · have hF := hF.trans (if_pos c3)
    have q4 := (neqI hn1 nI_0.symm (by omega) (by omega)).mp c3
    refine x_iconst (0 : Int32) C dX12_duesOf_10 rfl ?_
    exact x_iretR C rfl dX12_duesOf_11 (e_i hF)
def f_X12_feeOf (μ : Mm) (a1 : Int32) : Int32 := (μ.1 1 9) + ((μ.1 1 11) * (imax (0 : Int32) (a1 - (μ.1 1 10))))
set_option maxRecDepth 20000 in
set_option maxHeartbeats 4000000 in
theorem c_X12_feeOf (l : Launch) (D : va_G) (cA : Nat → ClassId) (s0 : State) (b : Nat) (μ : Mm) (a1 : Int32) : Met l yX12_feeOf (wsG yX12_feeOf cX12_feeOf 2 (some (FieldType.int))) { frames := 1, cells := 0, slots := 0, locals := 21 } (xP D cA s0 [.ref b, .int a1] (RM D cA b μ)) (xQr (some (.int (f_X12_feeOf μ a1)))) 0 0 xN := by
  refine x_start (own := RX12) [(0, .ref b), (1, .int a1)] rfl rfl (by decide) (nb rfl) ?_
  intro p e s m args below meth c C hw
  obtain ⟨F, hF⟩ : ∃ z, z = (f_X12_feeOf μ a1) := ⟨_, rfl⟩
  rw [← hF]
  refine x_aload_n C dX12_feeOf_0 rfl ?_
  refine x_get (.ref (b + 1)) C fl_X12_17 (M_obj hw) rfl dX12_feeOf_1 ?_
  refine x_bipush (9 : Int32) C dX12_feeOf_4 rfl ?_
  refine x_ialdN C (M_a1 hw) (ixl (x := (9 : Int32)) 9 rfl) (by omega) (by decide) dX12_feeOf_6 ?_
  refine x_aload_n C dX12_feeOf_7 rfl ?_
  refine x_get (.ref (b + 1)) C fl_X12_17 (M_obj hw) rfl dX12_feeOf_8 ?_
  refine x_bipush (11 : Int32) C dX12_feeOf_11 rfl ?_
  refine x_ialdN C (M_a1 hw) (ixl (x := (11 : Int32)) 11 rfl) (by omega) (by decide) dX12_feeOf_13 ?_
  refine x_iconst (0 : Int32) C dX12_feeOf_14 rfl ?_
  refine x_iload_n C dX12_feeOf_15 rfl ?_
  refine x_aload_n C dX12_feeOf_16 rfl ?_
  refine x_get (.ref (b + 1)) C fl_X12_17 (M_obj hw) rfl dX12_feeOf_17 ?_
  refine x_bipush (10 : Int32) C dX12_feeOf_20 rfl ?_
  refine x_ialdN C (M_a1 hw) (ixl (x := (10 : Int32)) 10 rfl) (by omega) (by decide) dX12_feeOf_22 ?_
  refine x_isub C dX12_feeOf_23 ?_
  refine x_mmax C ml_X12_234 (nb rfl) (nb rfl) ⟨Nat.zero_le _, Nat.zero_le _⟩ dX12_feeOf_24 ?_
  refine x_imul C dX12_feeOf_27 ?_
  refine x_iadd C dX12_feeOf_28 ?_
  exact x_iretR C rfl dX12_feeOf_29 (e_i hF)
def f_X12_bits_L4 (a1 : Int32) : Nat → Int32 → Int32 → Int32
  | 0, _, _ => 0
  | n + 1, x1, x2 => (if x2 = 0 then x1 else (f_X12_bits_L4 a1 n (x1 + (1 : Int32)) (x2 &&& (x2 - (1 : Int32)))))
def f_X12_bits (a1 : Int32) : Int32 := (f_X12_bits_L4 a1 33 (0 : Int32) a1)
set_option maxRecDepth 20000 in
set_option maxHeartbeats 4000000 in
theorem c_X12_bits (l : Launch) (D : va_G) (cA : Nat → ClassId) (s0 : State) (a1 : Int32) : Met l yX12_bits (wsG yX12_bits cX12_bits 3 (some (FieldType.int))) { frames := 0, cells := 0, slots := 0, locals := 0 } (xP D cA s0 [.int a1] (fun _ => True)) (xQr (some (.int (f_X12_bits a1)))) 0 0 xN := by
  refine x_start (own := RX12) [(0, .int a1)] rfl rfl (by decide) (nb rfl) ?_
  intro p e s m args below meth c C hw
  obtain ⟨F, hF⟩ : ∃ z, z = (f_X12_bits a1) := ⟨_, rfl⟩
  rw [← hF]
  have hL4 : ∀ (n : Nat) (x1 : Int32) (x2 : Int32) (hj : ∃ j, j ≤ 32 ∧ 2 ^ j ∣ x2.toBitVec.toNat ∧ 32 < j + n), F = f_X12_bits_L4 a1 n x1 x2 → xW p l e { frames := 0, cells := 0, slots := 0, locals := 0 } s m args below meth c 3 (MQ below (xQr (some (.int F))) args s 0 0 xN) s.heap [] 0 0 4 [(1, .int x1), (2, .int x2)] [] := by
    intro n
    induction n with
    | zero =>
      intro x1 x2 hj hF
      obtain ⟨j, h1, -, h3⟩ := hj; omega
    | succ n ih =>
      intro x1 x2 hj hF
      have ih4 := ih
      refine x_iload_n C dX12_bits_4 rfl ?_
      refine x_if_eq 20 C dX12_bits_5 (by decide) (fun c1 => ?_) (fun c1 => ?_)
      · have hF := hF.trans (if_pos c1)
        refine x_iload_n C dX12_bits_20 rfl ?_
        exact x_iretR C rfl dX12_bits_21 (e_i hF)
      · have hF := hF.trans (if_neg c1)
        refine x_iinc (x1 + (1 : Int32)) [(1, .int (x1 + (1 : Int32))), (2, .int x2)] C dX12_bits_8 rfl rfl (by decide) rfl ?_
        refine x_iload_n C dX12_bits_11 rfl ?_
        refine x_iload_n C dX12_bits_12 rfl ?_
        refine x_iconst (1 : Int32) C dX12_bits_13 rfl ?_
        refine x_isub C dX12_bits_14 ?_
        refine x_iand C dX12_bits_15 ?_
        refine x_istore_n [(2, .int (x2 &&& (x2 - (1 : Int32)))), (1, .int (x1 + (1 : Int32)))] C dX12_bits_16 rfl (by decide) rfl ?_
        refine x_goto 4 C dX12_bits_17 (by decide) ?_
        refine x_sub [(1, .int (x1 + (1 : Int32))), (2, .int (x2 &&& (x2 - (1 : Int32))))] [1, 0] rfl ?_
        exact ih4 (x1 + (1 : Int32)) (x2 &&& (x2 - (1 : Int32))) (bits_step hj c1)  hF
  refine x_iconst (0 : Int32) C dX12_bits_0 rfl ?_
  refine x_istore_n [(1, .int (0 : Int32)), (0, .int a1)] C dX12_bits_1 rfl (by decide) rfl ?_
  refine x_iload_n C dX12_bits_2 rfl ?_
  refine x_istore_n [(2, .int a1), (1, .int (0 : Int32)), (0, .int a1)] C dX12_bits_3 rfl (by decide) rfl ?_
  refine x_sub [(1, .int (0 : Int32)), (2, .int a1)] [1, 0] rfl ?_
  exact hL4 33 (0 : Int32) a1 ⟨0, by decide, ⟨_, (Nat.one_mul _).symm⟩, by decide⟩  hF
def f_X12_daysFrom_L4 (a1 : Int32) (a2 : Int32) : Nat → Int32 → Int32 → Int32
  | 0, _, _ => 0
  | n + 1, x2, x3 => (if a2 ≤ x3 then x2 else (f_X12_daysFrom_L4 a1 a2 n (x2 ||| ((1 : Int32) <<< (x3 &&& 31))) (x3 + (1 : Int32))))
def f_X12_daysFrom (a1 : Int32) (a2 : Int32) : Int32 := (f_X12_daysFrom_L4 a1 a2 32 (0 : Int32) a1)
set_option maxRecDepth 20000 in
set_option maxHeartbeats 4000000 in
theorem c_X12_daysFrom (l : Launch) (D : va_G) (cA : Nat → ClassId) (s0 : State) (a1 : Int32) (a2 : Int32) (hv_a1 : vp_in a1 31) (hv_a2 : vp_in a2 31) : Met l yX12_daysFrom (wsG yX12_daysFrom cX12_daysFrom 4 (some (FieldType.int))) { frames := 0, cells := 0, slots := 0, locals := 0 } (xP D cA s0 [.int a1, .int a2] (fun _ => True)) (xQr (some (.int (f_X12_daysFrom a1 a2)))) 0 0 xN := by
  refine x_start (own := RX12) [(0, .int a1), (1, .int a2)] rfl rfl (by decide) (nb rfl) ?_
  intro p e s m args below meth c C hw
  obtain ⟨F, hF⟩ : ∃ z, z = (f_X12_daysFrom a1 a2) := ⟨_, rfl⟩
  rw [← hF]
  obtain ⟨hn_a1, hl_a1⟩ := vpn hv_a1 (by decide)
  obtain ⟨hn_a2, hl_a2⟩ := vpn hv_a2 (by decide)
  have hL4 : ∀ (n : Nat) (x2 : Int32) (x3 : Int32) (hnx3 : x3 = nI (cl x3)) (hbx3 : cl x3 ≤ 31) (hmx3 : 31 < cl x3 + n), F = f_X12_daysFrom_L4 a1 a2 n x2 x3 → xW p l e { frames := 0, cells := 0, slots := 0, locals := 0 } s m args below meth c 4 (MQ below (xQr (some (.int F))) args s 0 0 xN) s.heap [] 0 0 4 [(1, .int a2), (2, .int x2), (3, .int x3)] [] := by
    intro n
    induction n with
    | zero =>
      intro x2 x3 hnx3 hbx3 hmx3 hF
      exact False.elim (by omega)
    | succ n ih =>
      intro x2 x3 hnx3 hbx3 hmx3 hF
      have ih4 := ih
      refine x_iload_n C dX12_daysFrom_4 rfl ?_
      refine x_iload_n C dX12_daysFrom_5 rfl ?_
      refine x_icmp_ge 21 C dX12_daysFrom_6 (by decide) (fun c1 => ?_) (fun c1 => ?_)
      · have hF := hF.trans (if_pos c1)
        have q2 := (nleI hn_a2 hnx3 (by omega) (by omega)).mp c1
        refine x_iload_n C dX12_daysFrom_21 rfl ?_
        exact x_iretR C rfl dX12_daysFrom_22 (e_i hF)
      · have hF := hF.trans (if_neg c1)
        have q2 := mt (nleI hn_a2 hnx3 (by omega) (by omega)).mpr c1
        refine x_iload_n C dX12_daysFrom_9 rfl ?_
        refine x_iconst (1 : Int32) C dX12_daysFrom_10 rfl ?_
        refine x_iload_n C dX12_daysFrom_11 rfl ?_
        refine x_ishl C dX12_daysFrom_12 ?_
        refine x_ior C dX12_daysFrom_13 ?_
        refine x_istore_n [(2, .int (x2 ||| ((1 : Int32) <<< (x3 &&& 31)))), (1, .int a2), (3, .int x3)] C dX12_daysFrom_14 rfl (by decide) rfl ?_
        refine x_iinc (x3 + (1 : Int32)) [(3, .int (x3 + (1 : Int32))), (2, .int (x2 ||| ((1 : Int32) <<< (x3 &&& 31)))), (1, .int a2)] C dX12_daysFrom_15 rfl rfl (by decide) rfl ?_
        refine x_goto 4 C dX12_daysFrom_18 (by decide) ?_
        refine x_sub [(1, .int a2), (2, .int (x2 ||| ((1 : Int32) <<< (x3 &&& 31)))), (3, .int (x3 + (1 : Int32)))] [2, 1, 0] rfl ?_
        exact ih4 (x2 ||| ((1 : Int32) <<< (x3 &&& 31))) (x3 + (1 : Int32)) (natS (ixa hnx3 (ixl (x := (1 : Int32)) 1 rfl)) (by omega)).1 (by rw [(natS (ixa hnx3 (ixl (x := (1 : Int32)) 1 rfl)) (by omega)).2]; omega) (by rw [(natS (ixa hnx3 (ixl (x := (1 : Int32)) 1 rfl)) (by omega)).2]; omega)  hF
  refine x_iconst (0 : Int32) C dX12_daysFrom_0 rfl ?_
  refine x_istore_n [(2, .int (0 : Int32)), (0, .int a1), (1, .int a2)] C dX12_daysFrom_1 rfl (by decide) rfl ?_
  refine x_iload_n C dX12_daysFrom_2 rfl ?_
  refine x_istore_n [(3, .int a1), (2, .int (0 : Int32)), (0, .int a1), (1, .int a2)] C dX12_daysFrom_3 rfl (by decide) rfl ?_
  refine x_sub [(1, .int a2), (2, .int (0 : Int32)), (3, .int a1)] [3, 1, 0] rfl ?_
  exact hL4 32 (0 : Int32) a1 (natS hn_a1 (by omega)).1 (by rw [(natS hn_a1 (by omega)).2]; omega) (by rw [(natS hn_a1 (by omega)).2]; omega)  hF
def f_X12_daysOf (μ : Mm) (a1 : Int32) : Int32 := ((f_X12_ofCall μ a1 (2 : Int32)) - (f_X12_ofCall μ a1 (1 : Int32))) + (1 : Int32)
set_option maxRecDepth 20000 in
set_option maxHeartbeats 4000000 in
theorem c_X12_daysOf (l : Launch) (D : va_G) (cA : Nat → ClassId) (s0 : State) (b : Nat) (μ : Mm) (a1 : Int32) (hv_a1 : vp_in a1 41) : Met l yX12_daysOf (wsG yX12_daysOf cX12_daysOf 2 (some (FieldType.int))) { frames := 1, cells := 0, slots := 0, locals := 22 } (xP D cA s0 [.ref b, .int a1] (RM D cA b μ)) (xQr (some (.int (f_X12_daysOf μ a1)))) 0 0 xN := by
  refine x_start (own := RX12) [(0, .ref b), (1, .int a1)] rfl rfl (by decide) (nb rfl) ?_
  intro p e s m args below meth c C hw
  obtain ⟨F, hF⟩ : ∃ z, z = (f_X12_daysOf μ a1) := ⟨_, rfl⟩
  rw [← hF]
  obtain ⟨hn_a1, hl_a1⟩ := vpn hv_a1 (by decide)
  refine x_aload_n C dX12_daysOf_0 rfl ?_
  refine x_iload_n C dX12_daysOf_1 rfl ?_
  refine x_iconst (2 : Int32) C dX12_daysOf_2 rfl ?_
  refine x_goR (fun ls h => x_runV (As := [.int a1, .int (2 : Int32)]) [] h C ml_X12_248 (c_X12_ofCall l D cA s0 b μ a1 (2 : Int32) (ixin hn_a1 (by omega) (by decide)) (ixin (ixl (x := (2 : Int32)) 2 rfl) (by omega) (by decide))) ⟨rfl, rfl, nb rfl, nb rfl⟩ rfl (M_obj hw) rfl hw (nb rfl) ⟨Nat.zero_le _, Nat.zero_le _⟩ dX12_daysOf_3) ?_
  refine x_aload_n C dX12_daysOf_6 rfl ?_
  refine x_iload_n C dX12_daysOf_7 rfl ?_
  refine x_iconst (1 : Int32) C dX12_daysOf_8 rfl ?_
  refine x_goR (fun ls h => x_runV (As := [.int a1, .int (1 : Int32)]) [.int (f_X12_ofCall μ a1 (2 : Int32))] h C ml_X12_248 (c_X12_ofCall l D cA s0 b μ a1 (1 : Int32) (ixin hn_a1 (by omega) (by decide)) (ixin (ixl (x := (1 : Int32)) 1 rfl) (by omega) (by decide))) ⟨rfl, rfl, nb rfl, nb rfl⟩ rfl (M_obj hw) rfl hw (nb rfl) ⟨Nat.zero_le _, Nat.zero_le _⟩ dX12_daysOf_9) ?_
  refine x_isub C dX12_daysOf_12 ?_
  refine x_iconst (1 : Int32) C dX12_daysOf_13 rfl ?_
  refine x_iadd C dX12_daysOf_14 ?_
  exact x_iretR C rfl dX12_daysOf_15 (e_i hF)
def f_X12_contestedSet (μ : Mm) (a1 : Int32) : Int32 := (f_X12_ofCall μ a1 (5 : Int32)) ||| (f_X12_ofCall μ a1 (6 : Int32))
set_option maxRecDepth 20000 in
set_option maxHeartbeats 4000000 in
theorem c_X12_contestedSet (l : Launch) (D : va_G) (cA : Nat → ClassId) (s0 : State) (b : Nat) (μ : Mm) (a1 : Int32) (hv_a1 : vp_in a1 41) : Met l yX12_contestedSet (wsG yX12_contestedSet cX12_contestedSet 2 (some (FieldType.int))) { frames := 1, cells := 0, slots := 0, locals := 22 } (xP D cA s0 [.ref b, .int a1] (RM D cA b μ)) (xQr (some (.int (f_X12_contestedSet μ a1)))) 0 0 xN := by
  refine x_start (own := RX12) [(0, .ref b), (1, .int a1)] rfl rfl (by decide) (nb rfl) ?_
  intro p e s m args below meth c C hw
  obtain ⟨F, hF⟩ : ∃ z, z = (f_X12_contestedSet μ a1) := ⟨_, rfl⟩
  rw [← hF]
  obtain ⟨hn_a1, hl_a1⟩ := vpn hv_a1 (by decide)
  refine x_aload_n C dX12_contestedSet_0 rfl ?_
  refine x_iload_n C dX12_contestedSet_1 rfl ?_
  refine x_iconst (5 : Int32) C dX12_contestedSet_2 rfl ?_
  refine x_goR (fun ls h => x_runV (As := [.int a1, .int (5 : Int32)]) [] h C ml_X12_248 (c_X12_ofCall l D cA s0 b μ a1 (5 : Int32) (ixin hn_a1 (by omega) (by decide)) (ixin (ixl (x := (5 : Int32)) 5 rfl) (by omega) (by decide))) ⟨rfl, rfl, nb rfl, nb rfl⟩ rfl (M_obj hw) rfl hw (nb rfl) ⟨Nat.zero_le _, Nat.zero_le _⟩ dX12_contestedSet_3) ?_
  refine x_aload_n C dX12_contestedSet_6 rfl ?_
  refine x_iload_n C dX12_contestedSet_7 rfl ?_
  refine x_bipush (6 : Int32) C dX12_contestedSet_8 rfl ?_
  refine x_goR (fun ls h => x_runV (As := [.int a1, .int (6 : Int32)]) [.int (f_X12_ofCall μ a1 (5 : Int32))] h C ml_X12_248 (c_X12_ofCall l D cA s0 b μ a1 (6 : Int32) (ixin hn_a1 (by omega) (by decide)) (ixin (ixl (x := (6 : Int32)) 6 rfl) (by omega) (by decide))) ⟨rfl, rfl, nb rfl, nb rfl⟩ rfl (M_obj hw) rfl hw (nb rfl) ⟨Nat.zero_le _, Nat.zero_le _⟩ dX12_contestedSet_10) ?_
  refine x_ior C dX12_contestedSet_13 ?_
  exact x_iretR C rfl dX12_contestedSet_14 (e_i hF)
