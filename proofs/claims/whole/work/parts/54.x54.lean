noncomputable def g_X12_settle_J33 (ν : Mm) (a1 : Int32) (a2 : Int32) (a3 : Bool) (μ0 : Mm) (y0 : Bool) (y1 : Bool) : Option (Int32 × Mm) := bnd (some (f_X12_passes2 μ0 y1 y0)) (fun q8 => (if q8.1 = true then bnd (g_X12_remember q8.2) (fun q12 => asr (vp_in a1 41) (bnd (some (f_X12_ofCall q12 a1 (5 : Int32))) (fun q15 => bnd (g_X12_setCall q12 a1 (5 : Int32) (q15 &&& (((1 : Int32) <<< (a2 &&& 31)) ^^^ (-1 : Int32)))) (fun q18 => (if a3 = true then bnd (some (f_X12_ofCall q18 a1 (6 : Int32))) (fun q27 => bnd (g_X12_setCall q18 a1 (6 : Int32) (q27 ||| ((1 : Int32) <<< (a2 &&& 31)))) (fun q30 => bnd (some (f_X12_ofCall q30 a1 (5 : Int32))) (fun q32 => bnd (some (f_X12_bits q32)) (fun q35 => some (q35, q30))))) else bnd (some (f_X12_ofCall q18 a1 (5 : Int32))) (fun q21 => bnd (some (f_X12_bits q21)) (fun q24 => some (q24, q18)))))))) else some ((0 : Int32), q8.2)))
noncomputable def g_X12_settle_J28 (ν : Mm) (a1 : Int32) (a2 : Int32) (a3 : Bool) (μ0 : Mm) (y0 : Bool) : Option (Int32 × Mm) := (g_X12_settle_J33 ν a1 a2 a3 μ0 true y0)
noncomputable def g_X12_settle (ν : Mm) (a1 : Int32) (a2 : Int32) (a3 : Bool) : Option (Int32 × Mm) := bnd (some (f_X12_isCall ν a1)) (fun q1 => bnd (some (f_X12_isCall ν a1)) (fun q4 => (if q4 = true then asr (vp_in a1 41) (bnd (some (f_X12_ofCall ν a1 (5 : Int32))) (fun q39 => bnd (some (f_X12_isDayIn ν q39 a2)) (fun q42 => (if q42 = true then (g_X12_settle_J28 ν a1 a2 a3 ν q1) else (g_X12_settle_J33 ν a1 a2 a3 ν false q1))))) else (g_X12_settle_J28 ν a1 a2 a3 ν q1))))
set_option maxRecDepth 20000 in
set_option maxHeartbeats 4000000 in
theorem k_X12_settle (l : Launch) (D : va_G) (cA : Nat → ClassId) (s0 : State) (z : Nat) (b : Nat) (ν : Mm) (sz : Nat) (hG : xG l D cA s0) (a1 : Int32) (a2 : Int32) (a3 : Bool) (r : Int32 × Mm) (hF : g_X12_settle ν a1 a2 a3 = some r) : Met l yX12_settle (wsG yX12_settle cX12_settle 4 (some (FieldType.int))) { frames := 2, cells := 0, slots := 0, locals := 47 } (xP D cA s0 [.ref b, .int a1, .int a2, .int (bI a3)] (fun H => H.size = sz ∧ RX D cA s0 z b ν H)) (xQm (some (.int r.1)) (fun H => RX D cA s0 z b r.2 H) (xA b 8 sz)) 0 0 (xA b 8 sz) := by
  refine x_start (own := RX12) [(0, .ref b), (1, .int a1), (2, .int a2), (3, .int (bI a3))] rfl rfl (by decide) (nb rfl) ?_
  intro p e s m args below meth c C hw
  obtain ⟨hsz, hw⟩ := hw
  subst hsz
  have hS : va_S (xA b 8 s.heap.size) s.heap s.heap [] := va_S.rf
  have h_J33 : ∀ (μ0 : Mm) (y0 : Bool) (y1 : Bool) (H : Heap) (locs : List Loc) (hw : RX D cA s0 z b μ0 H) (hS : va_S (xA b 8 s.heap.size) s.heap H locs), g_X12_settle_J33 ν a1 a2 a3 μ0 y0 y1 = some r → xW p l e { frames := 2, cells := 0, slots := 0, locals := 47 } s m args below meth c 4 (MQ below (xQm (some (.int r.1)) (fun H => RX D cA s0 z b r.2 H) (xA b 8 s.heap.size)) args s 0 0 (xA b 8 s.heap.size)) H locs 0 0 33 [(0, .ref b), (1, .int a1), (2, .int a2), (3, .int (bI a3))] [.int (bI y0), .int (bI y1), .ref b] := by
    intro μ0 y0 y1 H locs hw hS hF
    obtain ⟨q8, hq9, hF⟩ := bnd_e hF
    have hq9 := Option.some.inj hq9
    have K10 := c_X12_passes2 l D cA s0 b μ0 H.size y1 y0 
    rw [hq9] at K10
    have hwo := hw
    refine x_goM (fun ls h => x_runV (As := [.int (bI y1), .int (bI y0)]) [] h C ml_X12_263 K10 ⟨rfl, rfl, nb rfl, nb rfl⟩ rfl (M_obj hw.2.2.2.2) rfl ⟨rfl, hw.2.2.2.2⟩ (nb rfl) ⟨Nat.zero_le _, Nat.zero_le _⟩ dX12_settle_33) hS (xA_le hS) (fun H locs hw hz hk hS => ?_)
    have hw : RX D cA s0 z b q8.2 H := RX.of hwo hw hz hk
    refine x_ifB_ne 41 C dX12_settle_36 (by decide) (fun c11 => ?_) (fun c11 => ?_)
    · have hF := ite_t hF c11
      refine x_aload_n C dX12_settle_41 rfl ?_
      obtain ⟨q12, hq13, hF⟩ := bnd_e hF
      refine x_goM (fun ls h => x_runV (As := []) [] h C ml_X12_231 (k_X12_remember l D cA s0 z b q8.2 _ hG q12 hq13) ⟨rfl, rfl, nb rfl, nb rfl⟩ rfl (M_obj hw.2.2.2.2) rfl ⟨rfl, hw⟩ (nb rfl) ⟨Nat.zero_le _, Nat.zero_le _⟩ dX12_settle_42) hS (xA_le hS) (fun H locs hw hz hk hS => ?_)
      have hw : RX D cA s0 z b q12 H := hw
      refine x_aload_n C dX12_settle_45 rfl ?_
      refine x_iload_n C dX12_settle_46 rfl ?_
      refine x_iconst (5 : Int32) C dX12_settle_47 rfl ?_
      refine x_aload_n C dX12_settle_48 rfl ?_
      refine x_iload_n C dX12_settle_49 rfl ?_
      refine x_iconst (5 : Int32) C dX12_settle_50 rfl ?_
      obtain ⟨h14, hF⟩ := asr_e hF
      obtain ⟨q15, hq16, hF⟩ := bnd_e hF
      have hq16 := Option.some.inj hq16
      have K17 := c_X12_ofCall l D cA s0 b q12 a1 (5 : Int32) h14 (ixin (ixl (x := (5 : Int32)) 5 rfl) (by decide) (by decide))
      rw [hq16] at K17
      refine x_goR (fun ls h => x_runV (As := [.int a1, .int (5 : Int32)]) [.int (5 : Int32), .int a1, .ref b] h C ml_X12_248 K17 ⟨rfl, rfl, nb rfl, nb rfl⟩ rfl (M_obj hw.2.2.2.2) rfl hw.2.2.2.2 (nb rfl) ⟨Nat.zero_le _, Nat.zero_le _⟩ dX12_settle_51) ?_
      refine x_iconst (1 : Int32) C dX12_settle_54 rfl ?_
      refine x_iload_n C dX12_settle_55 rfl ?_
      refine x_ishl C dX12_settle_56 ?_
      refine x_iconst (-1 : Int32) C dX12_settle_57 rfl ?_
      refine x_ixor C dX12_settle_58 ?_
      refine x_iand C dX12_settle_59 ?_
      obtain ⟨q18, hq19, hF⟩ := bnd_e hF
      refine x_goM (fun ls h => x_runV (As := [.int a1, .int (5 : Int32), .int (q15 &&& (((1 : Int32) <<< (a2 &&& 31)) ^^^ (-1 : Int32)))]) [] h C ml_X12_401 (k_X12_setCall l D cA s0 z b q12 _ hG a1 (5 : Int32) (q15 &&& (((1 : Int32) <<< (a2 &&& 31)) ^^^ (-1 : Int32))) q18 hq19) ⟨rfl, rfl, nb rfl, nb rfl⟩ rfl (M_obj hw.2.2.2.2) rfl ⟨rfl, hw⟩ (nb rfl) ⟨Nat.zero_le _, Nat.zero_le _⟩ dX12_settle_60) hS (xA_le hS) (fun H locs hw hz hk hS => ?_)
      have hw : RX D cA s0 z b q18 H := hw
      refine x_iload_n C dX12_settle_63 rfl ?_
      refine x_ifB_eq 85 C dX12_settle_64 (by decide) (fun c20 => ?_) (fun c20 => ?_)
      · have hF := ite_f hF (nbt c20)
        refine x_aload_n C dX12_settle_85 rfl ?_
        refine x_iload_n C dX12_settle_86 rfl ?_
        refine x_iconst (5 : Int32) C dX12_settle_87 rfl ?_
        obtain ⟨q21, hq22, hF⟩ := bnd_e hF
        have hq22 := Option.some.inj hq22
        have K23 := c_X12_ofCall l D cA s0 b q18 a1 (5 : Int32) h14 (ixin (ixl (x := (5 : Int32)) 5 rfl) (by decide) (by decide))
        rw [hq22] at K23
        refine x_goR (fun ls h => x_runV (As := [.int a1, .int (5 : Int32)]) [] h C ml_X12_248 K23 ⟨rfl, rfl, nb rfl, nb rfl⟩ rfl (M_obj hw.2.2.2.2) rfl hw.2.2.2.2 (nb rfl) ⟨Nat.zero_le _, Nat.zero_le _⟩ dX12_settle_88) ?_
        obtain ⟨q24, hq25, hF⟩ := bnd_e hF
        have hq25 := Option.some.inj hq25
        have K26 := c_X12_bits l D cA s0 q21 
        rw [hq25] at K26
        refine x_goR (fun ls h => x_runS (As := [.int q21]) [] h C ml_X12_251 K26 ⟨rfl, rfl, nb rfl, nb rfl⟩ rfl trivial (nb rfl) ⟨Nat.zero_le _, Nat.zero_le _⟩ dX12_settle_91) ?_
        exact x_iretM2 C rfl dX12_settle_94  (rm_i hF) (rm_m (W := fun m => RX D cA s0 z b m _) hF hw) hS (nb rfl) (nb rfl)
      · have hF := ite_t hF c20
        refine x_aload_n C dX12_settle_67 rfl ?_
        refine x_iload_n C dX12_settle_68 rfl ?_
        refine x_bipush (6 : Int32) C dX12_settle_69 rfl ?_
        refine x_aload_n C dX12_settle_71 rfl ?_
        refine x_iload_n C dX12_settle_72 rfl ?_
        refine x_bipush (6 : Int32) C dX12_settle_73 rfl ?_
        obtain ⟨q27, hq28, hF⟩ := bnd_e hF
        have hq28 := Option.some.inj hq28
        have K29 := c_X12_ofCall l D cA s0 b q18 a1 (6 : Int32) h14 (ixin (ixl (x := (6 : Int32)) 6 rfl) (by decide) (by decide))
        rw [hq28] at K29
        refine x_goR (fun ls h => x_runV (As := [.int a1, .int (6 : Int32)]) [.int (6 : Int32), .int a1, .ref b] h C ml_X12_248 K29 ⟨rfl, rfl, nb rfl, nb rfl⟩ rfl (M_obj hw.2.2.2.2) rfl hw.2.2.2.2 (nb rfl) ⟨Nat.zero_le _, Nat.zero_le _⟩ dX12_settle_75) ?_
        refine x_iconst (1 : Int32) C dX12_settle_78 rfl ?_
        refine x_iload_n C dX12_settle_79 rfl ?_
        refine x_ishl C dX12_settle_80 ?_
        refine x_ior C dX12_settle_81 ?_
        obtain ⟨q30, hq31, hF⟩ := bnd_e hF
        refine x_goM (fun ls h => x_runV (As := [.int a1, .int (6 : Int32), .int (q27 ||| ((1 : Int32) <<< (a2 &&& 31)))]) [] h C ml_X12_401 (k_X12_setCall l D cA s0 z b q18 _ hG a1 (6 : Int32) (q27 ||| ((1 : Int32) <<< (a2 &&& 31))) q30 hq31) ⟨rfl, rfl, nb rfl, nb rfl⟩ rfl (M_obj hw.2.2.2.2) rfl ⟨rfl, hw⟩ (nb rfl) ⟨Nat.zero_le _, Nat.zero_le _⟩ dX12_settle_82) hS (xA_le hS) (fun H locs hw hz hk hS => ?_)
        have hw : RX D cA s0 z b q30 H := hw
        refine x_aload_n C dX12_settle_85 rfl ?_
        refine x_iload_n C dX12_settle_86 rfl ?_
        refine x_iconst (5 : Int32) C dX12_settle_87 rfl ?_
        obtain ⟨q32, hq33, hF⟩ := bnd_e hF
        have hq33 := Option.some.inj hq33
        have K34 := c_X12_ofCall l D cA s0 b q30 a1 (5 : Int32) h14 (ixin (ixl (x := (5 : Int32)) 5 rfl) (by decide) (by decide))
        rw [hq33] at K34
        refine x_goR (fun ls h => x_runV (As := [.int a1, .int (5 : Int32)]) [] h C ml_X12_248 K34 ⟨rfl, rfl, nb rfl, nb rfl⟩ rfl (M_obj hw.2.2.2.2) rfl hw.2.2.2.2 (nb rfl) ⟨Nat.zero_le _, Nat.zero_le _⟩ dX12_settle_88) ?_
        obtain ⟨q35, hq36, hF⟩ := bnd_e hF
        have hq36 := Option.some.inj hq36
        have K37 := c_X12_bits l D cA s0 q32 
        rw [hq36] at K37
        refine x_goR (fun ls h => x_runS (As := [.int q32]) [] h C ml_X12_251 K37 ⟨rfl, rfl, nb rfl, nb rfl⟩ rfl trivial (nb rfl) ⟨Nat.zero_le _, Nat.zero_le _⟩ dX12_settle_91) ?_
        exact x_iretM2 C rfl dX12_settle_94  (rm_i hF) (rm_m (W := fun m => RX D cA s0 z b m _) hF hw) hS (nb rfl) (nb rfl)
    · have hF := ite_f hF (nbt c11)
      refine x_iconst (0 : Int32) C dX12_settle_39 rfl ?_
      exact x_iretM2 C rfl dX12_settle_40  (rm_i hF) (rm_m (W := fun m => RX D cA s0 z b m _) hF hw) hS (nb rfl) (nb rfl)
  have h_J28 : ∀ (μ0 : Mm) (y0 : Bool) (H : Heap) (locs : List Loc) (hw : RX D cA s0 z b μ0 H) (hS : va_S (xA b 8 s.heap.size) s.heap H locs), g_X12_settle_J28 ν a1 a2 a3 μ0 y0 = some r → xW p l e { frames := 2, cells := 0, slots := 0, locals := 47 } s m args below meth c 4 (MQ below (xQm (some (.int r.1)) (fun H => RX D cA s0 z b r.2 H) (xA b 8 s.heap.size)) args s 0 0 (xA b 8 s.heap.size)) H locs 0 0 28 [(0, .ref b), (1, .int a1), (2, .int a2), (3, .int (bI a3))] [.int (bI y0), .ref b] := by
    intro μ0 y0 H locs hw hS hF
    refine x_iconst (1 : Int32) C dX12_settle_28 rfl ?_
    refine x_goto 33 C dX12_settle_29 (by decide) ?_
    exact h_J33 μ0 true y0 _ _ hw hS hF
  refine x_aload_n C dX12_settle_0 rfl ?_
  refine x_aload_n C dX12_settle_1 rfl ?_
  refine x_iload_n C dX12_settle_2 rfl ?_
  obtain ⟨q1, hq2, hF⟩ := bnd_e hF
  have hq2 := Option.some.inj hq2
  have K3 := c_X12_isCall l D cA s0 b ν a1 
  rw [hq2] at K3
  refine x_goR (fun ls h => x_runV (As := [.int a1]) [.ref b] h C ml_X12_345 K3 ⟨rfl, rfl, nb rfl, nb rfl⟩ rfl (M_obj hw.2.2.2.2) rfl hw.2.2.2.2 (nb rfl) ⟨Nat.zero_le _, Nat.zero_le _⟩ dX12_settle_3) ?_
  refine x_aload_n C dX12_settle_6 rfl ?_
  refine x_iload_n C dX12_settle_7 rfl ?_
  obtain ⟨q4, hq5, hF⟩ := bnd_e hF
  have hq5 := Option.some.inj hq5
  have K6 := c_X12_isCall l D cA s0 b ν a1 
  rw [hq5] at K6
  refine x_goR (fun ls h => x_runV (As := [.int a1]) [.int (bI q1), .ref b] h C ml_X12_345 K6 ⟨rfl, rfl, nb rfl, nb rfl⟩ rfl (M_obj hw.2.2.2.2) rfl hw.2.2.2.2 (nb rfl) ⟨Nat.zero_le _, Nat.zero_le _⟩ dX12_settle_8) ?_
  refine x_ifB_eq 28 C dX12_settle_11 (by decide) (fun c7 => ?_) (fun c7 => ?_)
  · have hF := ite_f hF (nbt c7)
    exact h_J28 ν q1 _ _ hw hS hF
  · have hF := ite_t hF c7
    refine x_aload_n C dX12_settle_14 rfl ?_
    refine x_aload_n C dX12_settle_15 rfl ?_
    refine x_iload_n C dX12_settle_16 rfl ?_
    refine x_iconst (5 : Int32) C dX12_settle_17 rfl ?_
    obtain ⟨h38, hF⟩ := asr_e hF
    obtain ⟨q39, hq40, hF⟩ := bnd_e hF
    have hq40 := Option.some.inj hq40
    have K41 := c_X12_ofCall l D cA s0 b ν a1 (5 : Int32) h38 (ixin (ixl (x := (5 : Int32)) 5 rfl) (by decide) (by decide))
    rw [hq40] at K41
    refine x_goR (fun ls h => x_runV (As := [.int a1, .int (5 : Int32)]) [.ref b, .int (bI q1), .ref b] h C ml_X12_248 K41 ⟨rfl, rfl, nb rfl, nb rfl⟩ rfl (M_obj hw.2.2.2.2) rfl hw.2.2.2.2 (nb rfl) ⟨Nat.zero_le _, Nat.zero_le _⟩ dX12_settle_18) ?_
    refine x_iload_n C dX12_settle_21 rfl ?_
    obtain ⟨q42, hq43, hF⟩ := bnd_e hF
    have hq43 := Option.some.inj hq43
    have K44 := c_X12_isDayIn l D cA s0 b ν q39 a2 
    rw [hq43] at K44
    refine x_goR (fun ls h => x_runV (As := [.int q39, .int a2]) [.int (bI q1), .ref b] h C ml_X12_427 K44 ⟨rfl, rfl, nb rfl, nb rfl⟩ rfl (M_obj hw.2.2.2.2) rfl hw.2.2.2.2 (nb rfl) ⟨Nat.zero_le _, Nat.zero_le _⟩ dX12_settle_22) ?_
    refine x_ifB_eq 32 C dX12_settle_25 (by decide) (fun c45 => ?_) (fun c45 => ?_)
    · have hF := ite_f hF (nbt c45)
      refine x_iconst (0 : Int32) C dX12_settle_32 rfl ?_
      exact h_J33 ν false q1 _ _ hw hS hF
    · have hF := ite_t hF c45
      exact h_J28 ν q1 _ _ hw hS hF
noncomputable def g_X12_pay (ν : Mm) (a1 : Int32) (a2 : Int32) : Option (Int64 × Mm) := bnd (some (f_X12_isShip ν a1)) (fun q1 => bnd (some (f_X12_in a2.toInt64 (1 : Int64) (1000000000 : Int64))) (fun q4 => bnd (some (f_X12_passes2 ν q1 q4)) (fun q7 => (if q7.1 = true then bnd (g_X12_remember q7.2) (fun q11 => asr (vp_in a1 8) (bnd (some (uP q11 3 (cl a1) ((q11.2.1 3 (cl a1)) + a2.toInt64))) (fun μ16 => some (μ16.2.1 3 (cl a1), μ16)))) else some ((0 : Int64), q7.2)))))
set_option maxRecDepth 20000 in
set_option maxHeartbeats 4000000 in
theorem k_X12_pay (l : Launch) (D : va_G) (cA : Nat → ClassId) (s0 : State) (z : Nat) (b : Nat) (ν : Mm) (sz : Nat) (hG : xG l D cA s0) (a1 : Int32) (a2 : Int32) (r : Int64 × Mm) (hF : g_X12_pay ν a1 a2 = some r) : Met l yX12_pay (wsG yX12_pay cX12_pay 3 (some (FieldType.long))) { frames := 2, cells := 0, slots := 0, locals := 46 } (xP D cA s0 [.ref b, .int a1, .int a2] (fun H => H.size = sz ∧ RX D cA s0 z b ν H)) (xQm (some (.long r.1)) (fun H => RX D cA s0 z b r.2 H) (xA b 8 sz)) 0 0 (xA b 8 sz) := by
  refine x_start (own := RX12) [(0, .ref b), (1, .int a1), (2, .int a2)] rfl rfl (by decide) (nb rfl) ?_
  intro p e s m args below meth c C hw
  obtain ⟨hsz, hw⟩ := hw
  subst hsz
  have hS : va_S (xA b 8 s.heap.size) s.heap s.heap [] := va_S.rf
  refine x_aload_n C dX12_pay_0 rfl ?_
  refine x_aload_n C dX12_pay_1 rfl ?_
  refine x_iload_n C dX12_pay_2 rfl ?_
  obtain ⟨q1, hq2, hF⟩ := bnd_e hF
  have hq2 := Option.some.inj hq2
  have K3 := c_X12_isShip l D cA s0 b ν a1 
  rw [hq2] at K3
  refine x_goR (fun ls h => x_runV (As := [.int a1]) [.ref b] h C ml_X12_282 K3 ⟨rfl, rfl, nb rfl, nb rfl⟩ rfl (M_obj hw.2.2.2.2) rfl hw.2.2.2.2 (nb rfl) ⟨Nat.zero_le _, Nat.zero_le _⟩ dX12_pay_3) ?_
  refine x_iload_n C dX12_pay_6 rfl ?_
  refine x_i2l C dX12_pay_7 ?_
  refine x_lconst (1 : Int64) C dX12_pay_8 rfl ?_
  refine x_ldc2 (1000000000 : Int64) C cl_X12_430 dX12_pay_9 ?_
  obtain ⟨q4, hq5, hF⟩ := bnd_e hF
  have hq5 := Option.some.inj hq5
  have K6 := c_X12_in l D cA s0 a2.toInt64 (1 : Int64) (1000000000 : Int64) 
  rw [hq5] at K6
  refine x_goR (fun ls h => x_runS (As := [.long a2.toInt64, .long (1 : Int64), .long (1000000000 : Int64)]) [.int (bI q1), .ref b] h C ml_X12_47 K6 ⟨rfl, rfl, nb rfl, nb rfl⟩ rfl trivial (nb rfl) ⟨Nat.zero_le _, Nat.zero_le _⟩ dX12_pay_12) ?_
  obtain ⟨q7, hq8, hF⟩ := bnd_e hF
  have hq8 := Option.some.inj hq8
  have K9 := c_X12_passes2 l D cA s0 b ν s.heap.size q1 q4 
  rw [hq8] at K9
  have hwo := hw
  refine x_goM (fun ls h => x_runV (As := [.int (bI q1), .int (bI q4)]) [] h C ml_X12_263 K9 ⟨rfl, rfl, nb rfl, nb rfl⟩ rfl (M_obj hw.2.2.2.2) rfl ⟨rfl, hw.2.2.2.2⟩ (nb rfl) ⟨Nat.zero_le _, Nat.zero_le _⟩ dX12_pay_15) hS (xA_le hS) (fun H locs hw hz hk hS => ?_)
  have hw : RX D cA s0 z b q7.2 H := RX.of hwo hw hz hk
  refine x_ifB_ne 23 C dX12_pay_18 (by decide) (fun c10 => ?_) (fun c10 => ?_)
  · have hF := ite_t hF c10
    refine x_aload_n C dX12_pay_23 rfl ?_
    obtain ⟨q11, hq12, hF⟩ := bnd_e hF
    refine x_goM (fun ls h => x_runV (As := []) [] h C ml_X12_231 (k_X12_remember l D cA s0 z b q7.2 _ hG q11 hq12) ⟨rfl, rfl, nb rfl, nb rfl⟩ rfl (M_obj hw.2.2.2.2) rfl ⟨rfl, hw⟩ (nb rfl) ⟨Nat.zero_le _, Nat.zero_le _⟩ dX12_pay_24) hS (xA_le hS) (fun H locs hw hz hk hS => ?_)
    have hw : RX D cA s0 z b q11 H := hw
    refine x_aload_n C dX12_pay_27 rfl ?_
    refine x_get (.ref (b + 3)) C fl_X12_27 (M_obj hw.2.2.2.2) rfl dX12_pay_28 ?_
    refine x_iload_n C dX12_pay_31 rfl ?_
    refine x_dup2_11 C dX12_pay_32 rfl rfl ?_
    obtain ⟨h13, hF⟩ := asr_e hF
    obtain ⟨hn14, hl15⟩ := vpn h13 (by decide)
    refine x_laldN C (M_a3 hw.2.2.2.2) hn14 hl15 (by decide) dX12_pay_33 ?_
    refine x_iload_n C dX12_pay_34 rfl ?_
    refine x_i2l C dX12_pay_35 ?_
    refine x_ladd C dX12_pay_36 ?_
    refine m_last 3 C hw (by decide) (fun _ => rfl) hn14 hl15 (by decide) dX12_pay_37 hS (fun H locs hw hS => ?_)
    obtain ⟨μ16, hm17, hF⟩ := bnd_e hF
    have hw : RX D cA s0 z b μ16 H := rv_m (W := fun m => RX D cA s0 z b m _) hm17 hw
    refine x_aload_n C dX12_pay_38 rfl ?_
    refine x_get (.ref (b + 3)) C fl_X12_27 (M_obj hw.2.2.2.2) rfl dX12_pay_39 ?_
    refine x_iload_n C dX12_pay_42 rfl ?_
    refine x_laldN C (M_a3 hw.2.2.2.2) hn14 hl15 (by decide) dX12_pay_43 ?_
    exact x_lretM2 C rfl dX12_pay_44  (rm_l hF) (rm_m (W := fun m => RX D cA s0 z b m _) hF hw) hS (nb rfl) (nb rfl)
  · have hF := ite_f hF (nbt c10)
    refine x_lconst (0 : Int64) C dX12_pay_21 rfl ?_
    exact x_lretM2 C rfl dX12_pay_22  (rm_l hF) (rm_m (W := fun m => RX D cA s0 z b m _) hF hw) hS (nb rfl) (nb rfl)
noncomputable def g_X12_advance_J40 (ν : Mm) (a1 : Int32) (μ0 : Mm) (y0 : Bool) (y1 : Bool) : Option (Int32 × Mm) := bnd (some (f_X12_passes2 μ0 y1 y0)) (fun q8 => (if q8.1 = true then bnd (g_X12_remember q8.2) (fun q12 => bnd (some (uI q12 1 5 ((q12.1 1 5) + a1))) (fun μ14 => some (μ14.1 1 5, μ14))) else some ((0 : Int32), q8.2)))
noncomputable def g_X12_advance_J35 (ν : Mm) (a1 : Int32) (μ0 : Mm) (y0 : Bool) : Option (Int32 × Mm) := (g_X12_advance_J40 ν a1 μ0 true y0)
noncomputable def g_X12_advance (ν : Mm) (a1 : Int32) : Option (Int32 × Mm) := bnd (some (f_X12_in a1.toInt64 (1 : Int64) (3600 : Int64))) (fun q1 => bnd (some (f_X12_in a1.toInt64 (1 : Int64) (3600 : Int64))) (fun q4 => (if q4 = true then (if (99999 : Int32) < ((ν.1 1 5) + a1) then (g_X12_advance_J40 ν a1 ν false q1) else (g_X12_advance_J35 ν a1 ν q1)) else (g_X12_advance_J35 ν a1 ν q1))))
set_option maxRecDepth 20000 in
set_option maxHeartbeats 4000000 in
theorem k_X12_advance (l : Launch) (D : va_G) (cA : Nat → ClassId) (s0 : State) (z : Nat) (b : Nat) (ν : Mm) (sz : Nat) (hG : xG l D cA s0) (a1 : Int32) (r : Int32 × Mm) (hF : g_X12_advance ν a1 = some r) : Met l yX12_advance (wsG yX12_advance cX12_advance 2 (some (FieldType.int))) { frames := 2, cells := 0, slots := 0, locals := 45 } (xP D cA s0 [.ref b, .int a1] (fun H => H.size = sz ∧ RX D cA s0 z b ν H)) (xQm (some (.int r.1)) (fun H => RX D cA s0 z b r.2 H) (xA b 8 sz)) 0 0 (xA b 8 sz) := by
  refine x_start (own := RX12) [(0, .ref b), (1, .int a1)] rfl rfl (by decide) (nb rfl) ?_
  intro p e s m args below meth c C hw
  obtain ⟨hsz, hw⟩ := hw
  subst hsz
  have hS : va_S (xA b 8 s.heap.size) s.heap s.heap [] := va_S.rf
  have h_J40 : ∀ (μ0 : Mm) (y0 : Bool) (y1 : Bool) (H : Heap) (locs : List Loc) (hw : RX D cA s0 z b μ0 H) (hS : va_S (xA b 8 s.heap.size) s.heap H locs), g_X12_advance_J40 ν a1 μ0 y0 y1 = some r → xW p l e { frames := 2, cells := 0, slots := 0, locals := 45 } s m args below meth c 2 (MQ below (xQm (some (.int r.1)) (fun H => RX D cA s0 z b r.2 H) (xA b 8 s.heap.size)) args s 0 0 (xA b 8 s.heap.size)) H locs 0 0 40 [(0, .ref b), (1, .int a1)] [.int (bI y0), .int (bI y1), .ref b] := by
    intro μ0 y0 y1 H locs hw hS hF
    obtain ⟨q8, hq9, hF⟩ := bnd_e hF
    have hq9 := Option.some.inj hq9
    have K10 := c_X12_passes2 l D cA s0 b μ0 H.size y1 y0 
    rw [hq9] at K10
    have hwo := hw
    refine x_goM (fun ls h => x_runV (As := [.int (bI y1), .int (bI y0)]) [] h C ml_X12_263 K10 ⟨rfl, rfl, nb rfl, nb rfl⟩ rfl (M_obj hw.2.2.2.2) rfl ⟨rfl, hw.2.2.2.2⟩ (nb rfl) ⟨Nat.zero_le _, Nat.zero_le _⟩ dX12_advance_40) hS (xA_le hS) (fun H locs hw hz hk hS => ?_)
    have hw : RX D cA s0 z b q8.2 H := RX.of hwo hw hz hk
    refine x_ifB_ne 48 C dX12_advance_43 (by decide) (fun c11 => ?_) (fun c11 => ?_)
    · have hF := ite_t hF c11
      refine x_aload_n C dX12_advance_48 rfl ?_
      obtain ⟨q12, hq13, hF⟩ := bnd_e hF
      refine x_goM (fun ls h => x_runV (As := []) [] h C ml_X12_231 (k_X12_remember l D cA s0 z b q8.2 _ hG q12 hq13) ⟨rfl, rfl, nb rfl, nb rfl⟩ rfl (M_obj hw.2.2.2.2) rfl ⟨rfl, hw⟩ (nb rfl) ⟨Nat.zero_le _, Nat.zero_le _⟩ dX12_advance_49) hS (xA_le hS) (fun H locs hw hz hk hS => ?_)
      have hw : RX D cA s0 z b q12 H := hw
      refine x_aload_n C dX12_advance_52 rfl ?_
      refine x_get (.ref (b + 1)) C fl_X12_17 (M_obj hw.2.2.2.2) rfl dX12_advance_53 ?_
      refine x_iconst (5 : Int32) C dX12_advance_56 rfl ?_
      refine x_dup2_11 C dX12_advance_57 rfl rfl ?_
      refine x_ialdN C (M_a1 hw.2.2.2.2) (ixl (x := (5 : Int32)) 5 rfl) (by decide) (by decide) dX12_advance_58 ?_
      refine x_iload_n C dX12_advance_59 rfl ?_
      refine x_iadd C dX12_advance_60 ?_
      refine m_iast 1 C hw (by decide) (fun _ => rfl) (ixl (x := (5 : Int32)) 5 rfl) (by decide) (by decide) dX12_advance_61 hS (fun H locs hw hS => ?_)
      obtain ⟨μ14, hm15, hF⟩ := bnd_e hF
      have hw : RX D cA s0 z b μ14 H := rv_m (W := fun m => RX D cA s0 z b m _) hm15 hw
      refine x_aload_n C dX12_advance_62 rfl ?_
      refine x_get (.ref (b + 1)) C fl_X12_17 (M_obj hw.2.2.2.2) rfl dX12_advance_63 ?_
      refine x_iconst (5 : Int32) C dX12_advance_66 rfl ?_
      refine x_ialdN C (M_a1 hw.2.2.2.2) (ixl (x := (5 : Int32)) 5 rfl) (by decide) (by decide) dX12_advance_67 ?_
      exact x_iretM2 C rfl dX12_advance_68  (rm_i hF) (rm_m (W := fun m => RX D cA s0 z b m _) hF hw) hS (nb rfl) (nb rfl)
    · have hF := ite_f hF (nbt c11)
      refine x_iconst (0 : Int32) C dX12_advance_46 rfl ?_
      exact x_iretM2 C rfl dX12_advance_47  (rm_i hF) (rm_m (W := fun m => RX D cA s0 z b m _) hF hw) hS (nb rfl) (nb rfl)
  have h_J35 : ∀ (μ0 : Mm) (y0 : Bool) (H : Heap) (locs : List Loc) (hw : RX D cA s0 z b μ0 H) (hS : va_S (xA b 8 s.heap.size) s.heap H locs), g_X12_advance_J35 ν a1 μ0 y0 = some r → xW p l e { frames := 2, cells := 0, slots := 0, locals := 45 } s m args below meth c 2 (MQ below (xQm (some (.int r.1)) (fun H => RX D cA s0 z b r.2 H) (xA b 8 s.heap.size)) args s 0 0 (xA b 8 s.heap.size)) H locs 0 0 35 [(0, .ref b), (1, .int a1)] [.int (bI y0), .ref b] := by
    intro μ0 y0 H locs hw hS hF
    refine x_iconst (1 : Int32) C dX12_advance_35 rfl ?_
    refine x_goto 40 C dX12_advance_36 (by decide) ?_
    exact h_J40 μ0 true y0 _ _ hw hS hF
  refine x_aload_n C dX12_advance_0 rfl ?_
  refine x_iload_n C dX12_advance_1 rfl ?_
  refine x_i2l C dX12_advance_2 ?_
  refine x_lconst (1 : Int64) C dX12_advance_3 rfl ?_
  refine x_ldc2 (3600 : Int64) C cl_X12_432 dX12_advance_4 ?_
  obtain ⟨q1, hq2, hF⟩ := bnd_e hF
  have hq2 := Option.some.inj hq2
  have K3 := c_X12_in l D cA s0 a1.toInt64 (1 : Int64) (3600 : Int64) 
  rw [hq2] at K3
  refine x_goR (fun ls h => x_runS (As := [.long a1.toInt64, .long (1 : Int64), .long (3600 : Int64)]) [.ref b] h C ml_X12_47 K3 ⟨rfl, rfl, nb rfl, nb rfl⟩ rfl trivial (nb rfl) ⟨Nat.zero_le _, Nat.zero_le _⟩ dX12_advance_7) ?_
  refine x_iload_n C dX12_advance_10 rfl ?_
  refine x_i2l C dX12_advance_11 ?_
  refine x_lconst (1 : Int64) C dX12_advance_12 rfl ?_
  refine x_ldc2 (3600 : Int64) C cl_X12_432 dX12_advance_13 ?_
  obtain ⟨q4, hq5, hF⟩ := bnd_e hF
  have hq5 := Option.some.inj hq5
  have K6 := c_X12_in l D cA s0 a1.toInt64 (1 : Int64) (3600 : Int64) 
  rw [hq5] at K6
  refine x_goR (fun ls h => x_runS (As := [.long a1.toInt64, .long (1 : Int64), .long (3600 : Int64)]) [.int (bI q1), .ref b] h C ml_X12_47 K6 ⟨rfl, rfl, nb rfl, nb rfl⟩ rfl trivial (nb rfl) ⟨Nat.zero_le _, Nat.zero_le _⟩ dX12_advance_16) ?_
  refine x_ifB_eq 35 C dX12_advance_19 (by decide) (fun c7 => ?_) (fun c7 => ?_)
  · have hF := ite_f hF (nbt c7)
    exact h_J35 ν q1 _ _ hw hS hF
  · have hF := ite_t hF c7
    refine x_aload_n C dX12_advance_22 rfl ?_
    refine x_get (.ref (b + 1)) C fl_X12_17 (M_obj hw.2.2.2.2) rfl dX12_advance_23 ?_
    refine x_iconst (5 : Int32) C dX12_advance_26 rfl ?_
    refine x_ialdN C (M_a1 hw.2.2.2.2) (ixl (x := (5 : Int32)) 5 rfl) (by decide) (by decide) dX12_advance_27 ?_
    refine x_iload_n C dX12_advance_28 rfl ?_
    refine x_iadd C dX12_advance_29 ?_
    refine x_ldc (99999 : Int32) C co_X12_104 dX12_advance_30 ?_
    refine x_icmp_gt 39 C dX12_advance_32 (by decide) (fun c16 => ?_) (fun c16 => ?_)
    · have hF := ite_t hF c16
      refine x_iconst (0 : Int32) C dX12_advance_39 rfl ?_
      exact h_J40 ν false q1 _ _ hw hS hF
    · have hF := ite_f hF c16
      exact h_J35 ν q1 _ _ hw hS hF
noncomputable def g_X12_newVersion_L17 (ν : Mm) : Nat → Mm → Int32 → Int32 → Option (Int32 × Mm)
  | 0, _, _, _ => none
  | n + 1, μ0, x1, x2 => (if (12 : Int32) ≤ x2 then bnd (some (uI μ0 1 4 ((μ0.1 1 4) + (1 : Int32)))) (fun μ7 => some (x1 + (12 : Int32), μ7)) else asr (vp_in (x1 + x2) 1377) (asr (vp_in ((x1 + (12 : Int32)) + x2) 1377) (bnd (some (uI μ0 1 (cl ((x1 + (12 : Int32)) + x2)) (μ0.1 1 (cl (x1 + x2))))) (fun μ15 => (g_X12_newVersion_L17 ν n μ15 x1 (x2 + (1 : Int32)))))))
noncomputable def g_X12_newVersion (ν : Mm) : Option (Int32 × Mm) := bnd (g_X12_remember ν) (fun q1 => bnd (some (f_X12_version q1)) (fun q3 => (g_X12_newVersion_L17 ν 10000 q1 ((22 : Int32) + ((12 : Int32) * q3)) (0 : Int32))))
set_option maxRecDepth 20000 in
set_option maxHeartbeats 4000000 in
theorem k_X12_newVersion (l : Launch) (D : va_G) (cA : Nat → ClassId) (s0 : State) (z : Nat) (b : Nat) (ν : Mm) (sz : Nat) (hG : xG l D cA s0) (r : Int32 × Mm) (hF : g_X12_newVersion ν = some r) : Met l yX12_newVersion (wsG yX12_newVersion cX12_newVersion 3 (some (FieldType.int))) { frames := 1, cells := 0, slots := 0, locals := 21 } (xP D cA s0 [.ref b] (fun H => H.size = sz ∧ RX D cA s0 z b ν H)) (xQm (some (.int r.1)) (fun H => RX D cA s0 z b r.2 H) (xA b 8 sz)) 0 0 (xA b 8 sz) := by
  refine x_start (own := RX12) [(0, .ref b)] rfl rfl (by decide) (nb rfl) ?_
  intro p e s m args below meth c C hw
  obtain ⟨hsz, hw⟩ := hw
  subst hsz
  have hS : va_S (xA b 8 s.heap.size) s.heap s.heap [] := va_S.rf
  have h_L17 : ∀ (n : Nat) (μ0 : Mm) (x1 : Int32) (x2 : Int32) (H : Heap) (locs : List Loc) (hw : RX D cA s0 z b μ0 H) (hS : va_S (xA b 8 s.heap.size) s.heap H locs), g_X12_newVersion_L17 ν n μ0 x1 x2 = some r → xW p l e { frames := 1, cells := 0, slots := 0, locals := 21 } s m args below meth c 3 (MQ below (xQm (some (.int r.1)) (fun H => RX D cA s0 z b r.2 H) (xA b 8 s.heap.size)) args s 0 0 (xA b 8 s.heap.size)) H locs 0 0 17 [(0, .ref b), (1, .int x1), (2, .int x2)] [] := by
    intro n
    induction n with
    | zero =>
      intro μ0 x1 x2 H locs hw hS hF
      exact no_some hF
    | succ n ih =>
      intro μ0 x1 x2 H locs hw hS hF
      have ih17 := ih
      refine x_iload_n C dX12_newVersion_17 rfl ?_
      refine x_bipush (12 : Int32) C dX12_newVersion_18 rfl ?_
      refine x_icmp_ge 48 C dX12_newVersion_20 (by decide) (fun c6 => ?_) (fun c6 => ?_)
      · have hF := ite_t hF c6
        refine x_aload_n C dX12_newVersion_48 rfl ?_
        refine x_get (.ref (b + 1)) C fl_X12_17 (M_obj hw.2.2.2.2) rfl dX12_newVersion_49 ?_
        refine x_iconst (4 : Int32) C dX12_newVersion_52 rfl ?_
        refine x_dup2_11 C dX12_newVersion_53 rfl rfl ?_
        refine x_ialdN C (M_a1 hw.2.2.2.2) (ixl (x := (4 : Int32)) 4 rfl) (by decide) (by decide) dX12_newVersion_54 ?_
        refine x_iconst (1 : Int32) C dX12_newVersion_55 rfl ?_
        refine x_iadd C dX12_newVersion_56 ?_
        refine m_iast 1 C hw (by decide) (fun _ => rfl) (ixl (x := (4 : Int32)) 4 rfl) (by decide) (by decide) dX12_newVersion_57 hS (fun H locs hw hS => ?_)
        obtain ⟨μ7, hm8, hF⟩ := bnd_e hF
        have hw : RX D cA s0 z b μ7 H := rv_m (W := fun m => RX D cA s0 z b m _) hm8 hw
        refine x_iload_n C dX12_newVersion_58 rfl ?_
        refine x_bipush (12 : Int32) C dX12_newVersion_59 rfl ?_
        refine x_iadd C dX12_newVersion_61 ?_
        exact x_iretM2 C rfl dX12_newVersion_62  (rm_i hF) (rm_m (W := fun m => RX D cA s0 z b m _) hF hw) hS (nb rfl) (nb rfl)
      · have hF := ite_f hF c6
        refine x_aload_n C dX12_newVersion_23 rfl ?_
        refine x_get (.ref (b + 1)) C fl_X12_17 (M_obj hw.2.2.2.2) rfl dX12_newVersion_24 ?_
        refine x_iload_n C dX12_newVersion_27 rfl ?_
        refine x_bipush (12 : Int32) C dX12_newVersion_28 rfl ?_
        refine x_iadd C dX12_newVersion_30 ?_
        refine x_iload_n C dX12_newVersion_31 rfl ?_
        refine x_iadd C dX12_newVersion_32 ?_
        refine x_aload_n C dX12_newVersion_33 rfl ?_
        refine x_get (.ref (b + 1)) C fl_X12_17 (M_obj hw.2.2.2.2) rfl dX12_newVersion_34 ?_
        refine x_iload_n C dX12_newVersion_37 rfl ?_
        refine x_iload_n C dX12_newVersion_38 rfl ?_
        refine x_iadd C dX12_newVersion_39 ?_
        obtain ⟨h9, hF⟩ := asr_e hF
        obtain ⟨hn10, hl11⟩ := vpn h9 (by decide)
        refine x_ialdN C (M_a1 hw.2.2.2.2) hn10 hl11 (by decide) dX12_newVersion_40 ?_
        obtain ⟨h12, hF⟩ := asr_e hF
        obtain ⟨hn13, hl14⟩ := vpn h12 (by decide)
        refine m_iast 1 C hw (by decide) (fun _ => rfl) hn13 hl14 (by decide) dX12_newVersion_41 hS (fun H locs hw hS => ?_)
        obtain ⟨μ15, hm16, hF⟩ := bnd_e hF
        have hw : RX D cA s0 z b μ15 H := rv_m (W := fun m => RX D cA s0 z b m _) hm16 hw
        refine x_iinc (x2 + (1 : Int32)) [(2, .int (x2 + (1 : Int32))), (0, .ref b), (1, .int x1)] C dX12_newVersion_42 rfl rfl (by decide) rfl ?_
        refine x_goto 17 C dX12_newVersion_45 (by decide) ?_
        refine x_sub [(0, .ref b), (1, .int x1), (2, .int (x2 + (1 : Int32)))] [1, 2, 0] rfl ?_
        exact ih17 μ15 x1 (x2 + (1 : Int32)) _ _ hw hS hF
  refine x_aload_n C dX12_newVersion_0 rfl ?_
  obtain ⟨q1, hq2, hF⟩ := bnd_e hF
  refine x_goM (fun ls h => x_runV (As := []) [] h C ml_X12_231 (k_X12_remember l D cA s0 z b ν _ hG q1 hq2) ⟨rfl, rfl, nb rfl, nb rfl⟩ rfl (M_obj hw.2.2.2.2) rfl ⟨rfl, hw⟩ (nb rfl) ⟨Nat.zero_le _, Nat.zero_le _⟩ dX12_newVersion_1) hS (xA_le hS) (fun H locs hw hz hk hS => ?_)
  have hw : RX D cA s0 z b q1 H := hw
  refine x_bipush (22 : Int32) C dX12_newVersion_4 rfl ?_
  refine x_bipush (12 : Int32) C dX12_newVersion_6 rfl ?_
  refine x_aload_n C dX12_newVersion_8 rfl ?_
  obtain ⟨q3, hq4, hF⟩ := bnd_e hF
  have hq4 := Option.some.inj hq4
  have K5 := c_X12_version l D cA s0 b q1 
  rw [hq4] at K5
  refine x_goR (fun ls h => x_runV (As := []) [.int (12 : Int32), .int (22 : Int32)] h C ml_X12_256 K5 ⟨rfl, rfl, nb rfl, nb rfl⟩ rfl (M_obj hw.2.2.2.2) rfl hw.2.2.2.2 (nb rfl) ⟨Nat.zero_le _, Nat.zero_le _⟩ dX12_newVersion_9) ?_
  refine x_imul C dX12_newVersion_12 ?_
  refine x_iadd C dX12_newVersion_13 ?_
  refine x_istore_n [(1, .int ((22 : Int32) + ((12 : Int32) * q3))), (0, .ref b)] C dX12_newVersion_14 rfl (by decide) rfl ?_
  refine x_iconst (0 : Int32) C dX12_newVersion_15 rfl ?_
  refine x_istore_n [(2, .int (0 : Int32)), (1, .int ((22 : Int32) + ((12 : Int32) * q3))), (0, .ref b)] C dX12_newVersion_16 rfl (by decide) rfl ?_
  refine x_sub [(0, .ref b), (1, .int ((22 : Int32) + ((12 : Int32) * q3))), (2, .int (0 : Int32))] [2, 1, 0] rfl ?_
  exact h_L17 10000 q1 ((22 : Int32) + ((12 : Int32) * q3)) (0 : Int32) _ _ hw hS hF
noncomputable def g_X12_setRate (ν : Mm) (a1 : Int32) (a2 : Int32) : Option (Int32 × Mm) := bnd (some (f_X12_isBand ν a1)) (fun q1 => bnd (some (f_X12_in a2.toInt64 (0 : Int64) (999 : Int64))) (fun q4 => bnd (some (f_X12_canChange ν)) (fun q7 => bnd (some (f_X12_passes3 ν q1 q4 q7)) (fun q10 => (if q10.1 = true then bnd (g_X12_newVersion q10.2) (fun q14 => asr (vp_in ((q14.1 + (0 : Int32)) + a1) 1377) (bnd (some (uI q14.2 1 (cl ((q14.1 + (0 : Int32)) + a1)) a2)) (fun μ19 => bnd (some (f_X12_version μ19)) (fun q21 => some (q21, μ19))))) else some ((0 : Int32), q10.2))))))
set_option maxRecDepth 20000 in
set_option maxHeartbeats 4000000 in
theorem k_X12_setRate (l : Launch) (D : va_G) (cA : Nat → ClassId) (s0 : State) (z : Nat) (b : Nat) (ν : Mm) (sz : Nat) (hG : xG l D cA s0) (a1 : Int32) (a2 : Int32) (r : Int32 × Mm) (hF : g_X12_setRate ν a1 a2 = some r) : Met l yX12_setRate (wsG yX12_setRate cX12_setRate 4 (some (FieldType.int))) { frames := 2, cells := 0, slots := 0, locals := 46 } (xP D cA s0 [.ref b, .int a1, .int a2] (fun H => H.size = sz ∧ RX D cA s0 z b ν H)) (xQm (some (.int r.1)) (fun H => RX D cA s0 z b r.2 H) (xA b 8 sz)) 0 0 (xA b 8 sz) := by
  refine x_start (own := RX12) [(0, .ref b), (1, .int a1), (2, .int a2)] rfl rfl (by decide) (nb rfl) ?_
  intro p e s m args below meth c C hw
  obtain ⟨hsz, hw⟩ := hw
  subst hsz
  have hS : va_S (xA b 8 s.heap.size) s.heap s.heap [] := va_S.rf
  refine x_aload_n C dX12_setRate_0 rfl ?_
  refine x_aload_n C dX12_setRate_1 rfl ?_
  refine x_iload_n C dX12_setRate_2 rfl ?_
  obtain ⟨q1, hq2, hF⟩ := bnd_e hF
  have hq2 := Option.some.inj hq2
  have K3 := c_X12_isBand l D cA s0 b ν a1 
  rw [hq2] at K3
  refine x_goR (fun ls h => x_runV (As := [.int a1]) [.ref b] h C ml_X12_259 K3 ⟨rfl, rfl, nb rfl, nb rfl⟩ rfl (M_obj hw.2.2.2.2) rfl hw.2.2.2.2 (nb rfl) ⟨Nat.zero_le _, Nat.zero_le _⟩ dX12_setRate_3) ?_
  refine x_iload_n C dX12_setRate_6 rfl ?_
  refine x_i2l C dX12_setRate_7 ?_
  refine x_lconst (0 : Int64) C dX12_setRate_8 rfl ?_
  refine x_ldc2 (999 : Int64) C cl_X12_53 dX12_setRate_9 ?_
  obtain ⟨q4, hq5, hF⟩ := bnd_e hF
  have hq5 := Option.some.inj hq5
  have K6 := c_X12_in l D cA s0 a2.toInt64 (0 : Int64) (999 : Int64) 
  rw [hq5] at K6
  refine x_goR (fun ls h => x_runS (As := [.long a2.toInt64, .long (0 : Int64), .long (999 : Int64)]) [.int (bI q1), .ref b] h C ml_X12_47 K6 ⟨rfl, rfl, nb rfl, nb rfl⟩ rfl trivial (nb rfl) ⟨Nat.zero_le _, Nat.zero_le _⟩ dX12_setRate_12) ?_
  refine x_aload_n C dX12_setRate_15 rfl ?_
  obtain ⟨q7, hq8, hF⟩ := bnd_e hF
  have hq8 := Option.some.inj hq8
  have K9 := c_X12_canChange l D cA s0 b ν 
  rw [hq8] at K9
  refine x_goR (fun ls h => x_runV (As := []) [.int (bI q4), .int (bI q1), .ref b] h C ml_X12_434 K9 ⟨rfl, rfl, nb rfl, nb rfl⟩ rfl (M_obj hw.2.2.2.2) rfl hw.2.2.2.2 (nb rfl) ⟨Nat.zero_le _, Nat.zero_le _⟩ dX12_setRate_16) ?_
  obtain ⟨q10, hq11, hF⟩ := bnd_e hF
  have hq11 := Option.some.inj hq11
  have K12 := c_X12_passes3 l D cA s0 b ν s.heap.size q1 q4 q7 
  rw [hq11] at K12
  have hwo := hw
  refine x_goM (fun ls h => x_runV (As := [.int (bI q1), .int (bI q4), .int (bI q7)]) [] h C ml_X12_7 K12 ⟨rfl, rfl, nb rfl, nb rfl⟩ rfl (M_obj hw.2.2.2.2) rfl ⟨rfl, hw.2.2.2.2⟩ (nb rfl) ⟨Nat.zero_le _, Nat.zero_le _⟩ dX12_setRate_19) hS (xA_le hS) (fun H locs hw hz hk hS => ?_)
  have hw : RX D cA s0 z b q10.2 H := RX.of hwo hw hz hk
  refine x_ifB_ne 27 C dX12_setRate_22 (by decide) (fun c13 => ?_) (fun c13 => ?_)
  · have hF := ite_t hF c13
    refine x_aload_n C dX12_setRate_27 rfl ?_
    obtain ⟨q14, hq15, hF⟩ := bnd_e hF
    refine x_goM (fun ls h => x_runV (As := []) [] h C ml_X12_437 (k_X12_newVersion l D cA s0 z b q10.2 _ hG q14 hq15) ⟨rfl, rfl, nb rfl, nb rfl⟩ rfl (M_obj hw.2.2.2.2) rfl ⟨rfl, hw⟩ (nb rfl) ⟨Nat.zero_le _, Nat.zero_le _⟩ dX12_setRate_28) hS (xA_le hS) (fun H locs hw hz hk hS => ?_)
    have hw : RX D cA s0 z b q14.2 H := hw
    refine x_istore_n [(3, .int q14.1), (0, .ref b), (1, .int a1), (2, .int a2)] C dX12_setRate_31 rfl (by decide) rfl ?_
    refine x_aload_n C dX12_setRate_32 rfl ?_
    refine x_get (.ref (b + 1)) C fl_X12_17 (M_obj hw.2.2.2.2) rfl dX12_setRate_33 ?_
    refine x_iload_n C dX12_setRate_36 rfl ?_
    refine x_iconst (0 : Int32) C dX12_setRate_37 rfl ?_
    refine x_iadd C dX12_setRate_38 ?_
    refine x_iload_n C dX12_setRate_39 rfl ?_
    refine x_iadd C dX12_setRate_40 ?_
    refine x_iload_n C dX12_setRate_41 rfl ?_
    obtain ⟨h16, hF⟩ := asr_e hF
    obtain ⟨hn17, hl18⟩ := vpn h16 (by decide)
    refine m_iast 1 C hw (by decide) (fun _ => rfl) hn17 hl18 (by decide) dX12_setRate_42 hS (fun H locs hw hS => ?_)
    obtain ⟨μ19, hm20, hF⟩ := bnd_e hF
    have hw : RX D cA s0 z b μ19 H := rv_m (W := fun m => RX D cA s0 z b m _) hm20 hw
    refine x_aload_n C dX12_setRate_43 rfl ?_
    obtain ⟨q21, hq22, hF⟩ := bnd_e hF
    have hq22 := Option.some.inj hq22
    have K23 := c_X12_version l D cA s0 b μ19 
    rw [hq22] at K23
    refine x_goR (fun ls h => x_runV (As := []) [] h C ml_X12_256 K23 ⟨rfl, rfl, nb rfl, nb rfl⟩ rfl (M_obj hw.2.2.2.2) rfl hw.2.2.2.2 (nb rfl) ⟨Nat.zero_le _, Nat.zero_le _⟩ dX12_setRate_44) ?_
    exact x_iretM2 C rfl dX12_setRate_47  (rm_i hF) (rm_m (W := fun m => RX D cA s0 z b m _) hF hw) hS (nb rfl) (nb rfl)
  · have hF := ite_f hF (nbt c13)
    refine x_iconst (0 : Int32) C dX12_setRate_25 rfl ?_
    exact x_iretM2 C rfl dX12_setRate_26  (rm_i hF) (rm_m (W := fun m => RX D cA s0 z b m _) hF hw) hS (nb rfl) (nb rfl)
noncomputable def g_X12_setPercent (ν : Mm) (a1 : Int32) (a2 : Int32) : Option (Int32 × Mm) := bnd (some (f_X12_isRebate ν a1)) (fun q1 => bnd (some (f_X12_in a2.toInt64 (0 : Int64) (100 : Int64))) (fun q4 => bnd (some (f_X12_canChange ν)) (fun q7 => bnd (some (f_X12_passes3 ν q1 q4 q7)) (fun q10 => (if q10.1 = true then bnd (g_X12_newVersion q10.2) (fun q14 => asr (vp_in ((q14.1 + (6 : Int32)) + a1) 1377) (bnd (some (uI q14.2 1 (cl ((q14.1 + (6 : Int32)) + a1)) a2)) (fun μ19 => bnd (some (f_X12_version μ19)) (fun q21 => some (q21, μ19))))) else some ((0 : Int32), q10.2))))))
set_option maxRecDepth 20000 in
set_option maxHeartbeats 4000000 in
theorem k_X12_setPercent (l : Launch) (D : va_G) (cA : Nat → ClassId) (s0 : State) (z : Nat) (b : Nat) (ν : Mm) (sz : Nat) (hG : xG l D cA s0) (a1 : Int32) (a2 : Int32) (r : Int32 × Mm) (hF : g_X12_setPercent ν a1 a2 = some r) : Met l yX12_setPercent (wsG yX12_setPercent cX12_setPercent 4 (some (FieldType.int))) { frames := 2, cells := 0, slots := 0, locals := 46 } (xP D cA s0 [.ref b, .int a1, .int a2] (fun H => H.size = sz ∧ RX D cA s0 z b ν H)) (xQm (some (.int r.1)) (fun H => RX D cA s0 z b r.2 H) (xA b 8 sz)) 0 0 (xA b 8 sz) := by
  refine x_start (own := RX12) [(0, .ref b), (1, .int a1), (2, .int a2)] rfl rfl (by decide) (nb rfl) ?_
  intro p e s m args below meth c C hw
  obtain ⟨hsz, hw⟩ := hw
  subst hsz
  have hS : va_S (xA b 8 s.heap.size) s.heap s.heap [] := va_S.rf
  refine x_aload_n C dX12_setPercent_0 rfl ?_
  refine x_aload_n C dX12_setPercent_1 rfl ?_
  refine x_iload_n C dX12_setPercent_2 rfl ?_
  obtain ⟨q1, hq2, hF⟩ := bnd_e hF
  have hq2 := Option.some.inj hq2
  have K3 := c_X12_isRebate l D cA s0 b ν a1 
  rw [hq2] at K3
  refine x_goR (fun ls h => x_runV (As := [.int a1]) [.ref b] h C ml_X12_267 K3 ⟨rfl, rfl, nb rfl, nb rfl⟩ rfl (M_obj hw.2.2.2.2) rfl hw.2.2.2.2 (nb rfl) ⟨Nat.zero_le _, Nat.zero_le _⟩ dX12_setPercent_3) ?_
  refine x_iload_n C dX12_setPercent_6 rfl ?_
  refine x_i2l C dX12_setPercent_7 ?_
  refine x_lconst (0 : Int64) C dX12_setPercent_8 rfl ?_
  refine x_ldc2 (100 : Int64) C cl_X12_440 dX12_setPercent_9 ?_
  obtain ⟨q4, hq5, hF⟩ := bnd_e hF
  have hq5 := Option.some.inj hq5
  have K6 := c_X12_in l D cA s0 a2.toInt64 (0 : Int64) (100 : Int64) 
  rw [hq5] at K6
  refine x_goR (fun ls h => x_runS (As := [.long a2.toInt64, .long (0 : Int64), .long (100 : Int64)]) [.int (bI q1), .ref b] h C ml_X12_47 K6 ⟨rfl, rfl, nb rfl, nb rfl⟩ rfl trivial (nb rfl) ⟨Nat.zero_le _, Nat.zero_le _⟩ dX12_setPercent_12) ?_
  refine x_aload_n C dX12_setPercent_15 rfl ?_
  obtain ⟨q7, hq8, hF⟩ := bnd_e hF
  have hq8 := Option.some.inj hq8
  have K9 := c_X12_canChange l D cA s0 b ν 
  rw [hq8] at K9
  refine x_goR (fun ls h => x_runV (As := []) [.int (bI q4), .int (bI q1), .ref b] h C ml_X12_434 K9 ⟨rfl, rfl, nb rfl, nb rfl⟩ rfl (M_obj hw.2.2.2.2) rfl hw.2.2.2.2 (nb rfl) ⟨Nat.zero_le _, Nat.zero_le _⟩ dX12_setPercent_16) ?_
  obtain ⟨q10, hq11, hF⟩ := bnd_e hF
  have hq11 := Option.some.inj hq11
  have K12 := c_X12_passes3 l D cA s0 b ν s.heap.size q1 q4 q7 
  rw [hq11] at K12
  have hwo := hw
  refine x_goM (fun ls h => x_runV (As := [.int (bI q1), .int (bI q4), .int (bI q7)]) [] h C ml_X12_7 K12 ⟨rfl, rfl, nb rfl, nb rfl⟩ rfl (M_obj hw.2.2.2.2) rfl ⟨rfl, hw.2.2.2.2⟩ (nb rfl) ⟨Nat.zero_le _, Nat.zero_le _⟩ dX12_setPercent_19) hS (xA_le hS) (fun H locs hw hz hk hS => ?_)
  have hw : RX D cA s0 z b q10.2 H := RX.of hwo hw hz hk
  refine x_ifB_ne 27 C dX12_setPercent_22 (by decide) (fun c13 => ?_) (fun c13 => ?_)
  · have hF := ite_t hF c13
    refine x_aload_n C dX12_setPercent_27 rfl ?_
    obtain ⟨q14, hq15, hF⟩ := bnd_e hF
    refine x_goM (fun ls h => x_runV (As := []) [] h C ml_X12_437 (k_X12_newVersion l D cA s0 z b q10.2 _ hG q14 hq15) ⟨rfl, rfl, nb rfl, nb rfl⟩ rfl (M_obj hw.2.2.2.2) rfl ⟨rfl, hw⟩ (nb rfl) ⟨Nat.zero_le _, Nat.zero_le _⟩ dX12_setPercent_28) hS (xA_le hS) (fun H locs hw hz hk hS => ?_)
    have hw : RX D cA s0 z b q14.2 H := hw
    refine x_istore_n [(3, .int q14.1), (0, .ref b), (1, .int a1), (2, .int a2)] C dX12_setPercent_31 rfl (by decide) rfl ?_
    refine x_aload_n C dX12_setPercent_32 rfl ?_
    refine x_get (.ref (b + 1)) C fl_X12_17 (M_obj hw.2.2.2.2) rfl dX12_setPercent_33 ?_
    refine x_iload_n C dX12_setPercent_36 rfl ?_
    refine x_bipush (6 : Int32) C dX12_setPercent_37 rfl ?_
    refine x_iadd C dX12_setPercent_39 ?_
    refine x_iload_n C dX12_setPercent_40 rfl ?_
    refine x_iadd C dX12_setPercent_41 ?_
    refine x_iload_n C dX12_setPercent_42 rfl ?_
    obtain ⟨h16, hF⟩ := asr_e hF
    obtain ⟨hn17, hl18⟩ := vpn h16 (by decide)
    refine m_iast 1 C hw (by decide) (fun _ => rfl) hn17 hl18 (by decide) dX12_setPercent_43 hS (fun H locs hw hS => ?_)
    obtain ⟨μ19, hm20, hF⟩ := bnd_e hF
    have hw : RX D cA s0 z b μ19 H := rv_m (W := fun m => RX D cA s0 z b m _) hm20 hw
    refine x_aload_n C dX12_setPercent_44 rfl ?_
    obtain ⟨q21, hq22, hF⟩ := bnd_e hF
    have hq22 := Option.some.inj hq22
    have K23 := c_X12_version l D cA s0 b μ19 
    rw [hq22] at K23
    refine x_goR (fun ls h => x_runV (As := []) [] h C ml_X12_256 K23 ⟨rfl, rfl, nb rfl, nb rfl⟩ rfl (M_obj hw.2.2.2.2) rfl hw.2.2.2.2 (nb rfl) ⟨Nat.zero_le _, Nat.zero_le _⟩ dX12_setPercent_45) ?_
    exact x_iretM2 C rfl dX12_setPercent_48  (rm_i hF) (rm_m (W := fun m => RX D cA s0 z b m _) hF hw) hS (nb rfl) (nb rfl)
  · have hF := ite_f hF (nbt c13)
    refine x_iconst (0 : Int32) C dX12_setPercent_25 rfl ?_
    exact x_iretM2 C rfl dX12_setPercent_26  (rm_i hF) (rm_m (W := fun m => RX D cA s0 z b m _) hF hw) hS (nb rfl) (nb rfl)
noncomputable def g_X12_setLay_J30 (ν : Mm) (a1 : Int32) (a2 : Int32) (μ0 : Mm) (y0 : Bool) : Option (Int32 × Mm) := bnd (some (f_X12_canChange μ0)) (fun q5 => bnd (some (f_X12_passes2 μ0 y0 q5)) (fun q8 => (if q8.1 = true then bnd (g_X12_newVersion q8.2) (fun q12 => asr (vp_in (q12.1 + (10 : Int32)) 1377) (bnd (some (uI q12.2 1 (cl (q12.1 + (10 : Int32))) a1)) (fun μ17 => asr (vp_in (q12.1 + (11 : Int32)) 1377) (bnd (some (uI μ17 1 (cl (q12.1 + (11 : Int32))) a2)) (fun μ22 => bnd (some (f_X12_version μ22)) (fun q24 => some (q24, μ22))))))) else some ((0 : Int32), q8.2))))
noncomputable def g_X12_setLay_J29 (ν : Mm) (a1 : Int32) (a2 : Int32) (μ0 : Mm) : Option (Int32 × Mm) := (g_X12_setLay_J30 ν a1 a2 μ0 false)
noncomputable def g_X12_setLay (ν : Mm) (a1 : Int32) (a2 : Int32) : Option (Int32 × Mm) := bnd (some (f_X12_in a1.toInt64 (0 : Int64) (30 : Int64))) (fun q1 => (if q1 = true then bnd (some (f_X12_in a2.toInt64 (0 : Int64) (9999 : Int64))) (fun q27 => (if q27 = true then (g_X12_setLay_J30 ν a1 a2 ν true) else (g_X12_setLay_J29 ν a1 a2 ν))) else (g_X12_setLay_J29 ν a1 a2 ν)))
set_option maxRecDepth 20000 in
set_option maxHeartbeats 4000000 in
theorem k_X12_setLay (l : Launch) (D : va_G) (cA : Nat → ClassId) (s0 : State) (z : Nat) (b : Nat) (ν : Mm) (sz : Nat) (hG : xG l D cA s0) (a1 : Int32) (a2 : Int32) (r : Int32 × Mm) (hF : g_X12_setLay ν a1 a2 = some r) : Met l yX12_setLay (wsG yX12_setLay cX12_setLay 4 (some (FieldType.int))) { frames := 2, cells := 0, slots := 0, locals := 45 } (xP D cA s0 [.ref b, .int a1, .int a2] (fun H => H.size = sz ∧ RX D cA s0 z b ν H)) (xQm (some (.int r.1)) (fun H => RX D cA s0 z b r.2 H) (xA b 8 sz)) 0 0 (xA b 8 sz) := by
  refine x_start (own := RX12) [(0, .ref b), (1, .int a1), (2, .int a2)] rfl rfl (by decide) (nb rfl) ?_
  intro p e s m args below meth c C hw
  obtain ⟨hsz, hw⟩ := hw
  subst hsz
  have hS : va_S (xA b 8 s.heap.size) s.heap s.heap [] := va_S.rf
  have h_J30 : ∀ (μ0 : Mm) (y0 : Bool) (H : Heap) (locs : List Loc) (hw : RX D cA s0 z b μ0 H) (hS : va_S (xA b 8 s.heap.size) s.heap H locs), g_X12_setLay_J30 ν a1 a2 μ0 y0 = some r → xW p l e { frames := 2, cells := 0, slots := 0, locals := 45 } s m args below meth c 4 (MQ below (xQm (some (.int r.1)) (fun H => RX D cA s0 z b r.2 H) (xA b 8 s.heap.size)) args s 0 0 (xA b 8 s.heap.size)) H locs 0 0 30 [(0, .ref b), (1, .int a1), (2, .int a2)] [.int (bI y0), .ref b] := by
    intro μ0 y0 H locs hw hS hF
    refine x_aload_n C dX12_setLay_30 rfl ?_
    obtain ⟨q5, hq6, hF⟩ := bnd_e hF
    have hq6 := Option.some.inj hq6
    have K7 := c_X12_canChange l D cA s0 b μ0 
    rw [hq6] at K7
    refine x_goR (fun ls h => x_runV (As := []) [.int (bI y0), .ref b] h C ml_X12_434 K7 ⟨rfl, rfl, nb rfl, nb rfl⟩ rfl (M_obj hw.2.2.2.2) rfl hw.2.2.2.2 (nb rfl) ⟨Nat.zero_le _, Nat.zero_le _⟩ dX12_setLay_31) ?_
    obtain ⟨q8, hq9, hF⟩ := bnd_e hF
    have hq9 := Option.some.inj hq9
    have K10 := c_X12_passes2 l D cA s0 b μ0 H.size y0 q5 
    rw [hq9] at K10
    have hwo := hw
    refine x_goM (fun ls h => x_runV (As := [.int (bI y0), .int (bI q5)]) [] h C ml_X12_263 K10 ⟨rfl, rfl, nb rfl, nb rfl⟩ rfl (M_obj hw.2.2.2.2) rfl ⟨rfl, hw.2.2.2.2⟩ (nb rfl) ⟨Nat.zero_le _, Nat.zero_le _⟩ dX12_setLay_34) hS (xA_le hS) (fun H locs hw hz hk hS => ?_)
    have hw : RX D cA s0 z b q8.2 H := RX.of hwo hw hz hk
    refine x_ifB_ne 42 C dX12_setLay_37 (by decide) (fun c11 => ?_) (fun c11 => ?_)
    · have hF := ite_t hF c11
      refine x_aload_n C dX12_setLay_42 rfl ?_
      obtain ⟨q12, hq13, hF⟩ := bnd_e hF
      refine x_goM (fun ls h => x_runV (As := []) [] h C ml_X12_437 (k_X12_newVersion l D cA s0 z b q8.2 _ hG q12 hq13) ⟨rfl, rfl, nb rfl, nb rfl⟩ rfl (M_obj hw.2.2.2.2) rfl ⟨rfl, hw⟩ (nb rfl) ⟨Nat.zero_le _, Nat.zero_le _⟩ dX12_setLay_43) hS (xA_le hS) (fun H locs hw hz hk hS => ?_)
      have hw : RX D cA s0 z b q12.2 H := hw
      refine x_istore_n [(3, .int q12.1), (0, .ref b), (1, .int a1), (2, .int a2)] C dX12_setLay_46 rfl (by decide) rfl ?_
      refine x_aload_n C dX12_setLay_47 rfl ?_
      refine x_get (.ref (b + 1)) C fl_X12_17 (M_obj hw.2.2.2.2) rfl dX12_setLay_48 ?_
      refine x_iload_n C dX12_setLay_51 rfl ?_
      refine x_bipush (10 : Int32) C dX12_setLay_52 rfl ?_
      refine x_iadd C dX12_setLay_54 ?_
      refine x_iload_n C dX12_setLay_55 rfl ?_
      obtain ⟨h14, hF⟩ := asr_e hF
      obtain ⟨hn15, hl16⟩ := vpn h14 (by decide)
      refine m_iast 1 C hw (by decide) (fun _ => rfl) hn15 hl16 (by decide) dX12_setLay_56 hS (fun H locs hw hS => ?_)
      obtain ⟨μ17, hm18, hF⟩ := bnd_e hF
      have hw : RX D cA s0 z b μ17 H := rv_m (W := fun m => RX D cA s0 z b m _) hm18 hw
      refine x_aload_n C dX12_setLay_57 rfl ?_
      refine x_get (.ref (b + 1)) C fl_X12_17 (M_obj hw.2.2.2.2) rfl dX12_setLay_58 ?_
      refine x_iload_n C dX12_setLay_61 rfl ?_
      refine x_bipush (11 : Int32) C dX12_setLay_62 rfl ?_
      refine x_iadd C dX12_setLay_64 ?_
      refine x_iload_n C dX12_setLay_65 rfl ?_
      obtain ⟨h19, hF⟩ := asr_e hF
      obtain ⟨hn20, hl21⟩ := vpn h19 (by decide)
      refine m_iast 1 C hw (by decide) (fun _ => rfl) hn20 hl21 (by decide) dX12_setLay_66 hS (fun H locs hw hS => ?_)
      obtain ⟨μ22, hm23, hF⟩ := bnd_e hF
      have hw : RX D cA s0 z b μ22 H := rv_m (W := fun m => RX D cA s0 z b m _) hm23 hw
      refine x_aload_n C dX12_setLay_67 rfl ?_
      obtain ⟨q24, hq25, hF⟩ := bnd_e hF
      have hq25 := Option.some.inj hq25
      have K26 := c_X12_version l D cA s0 b μ22 
      rw [hq25] at K26
      refine x_goR (fun ls h => x_runV (As := []) [] h C ml_X12_256 K26 ⟨rfl, rfl, nb rfl, nb rfl⟩ rfl (M_obj hw.2.2.2.2) rfl hw.2.2.2.2 (nb rfl) ⟨Nat.zero_le _, Nat.zero_le _⟩ dX12_setLay_68) ?_
      exact x_iretM2 C rfl dX12_setLay_71  (rm_i hF) (rm_m (W := fun m => RX D cA s0 z b m _) hF hw) hS (nb rfl) (nb rfl)
    · have hF := ite_f hF (nbt c11)
      refine x_iconst (0 : Int32) C dX12_setLay_40 rfl ?_
      exact x_iretM2 C rfl dX12_setLay_41  (rm_i hF) (rm_m (W := fun m => RX D cA s0 z b m _) hF hw) hS (nb rfl) (nb rfl)
  have h_J29 : ∀ (μ0 : Mm) (H : Heap) (locs : List Loc) (hw : RX D cA s0 z b μ0 H) (hS : va_S (xA b 8 s.heap.size) s.heap H locs), g_X12_setLay_J29 ν a1 a2 μ0 = some r → xW p l e { frames := 2, cells := 0, slots := 0, locals := 45 } s m args below meth c 4 (MQ below (xQm (some (.int r.1)) (fun H => RX D cA s0 z b r.2 H) (xA b 8 s.heap.size)) args s 0 0 (xA b 8 s.heap.size)) H locs 0 0 29 [(0, .ref b), (1, .int a1), (2, .int a2)] [.ref b] := by
    intro μ0 H locs hw hS hF
    refine x_iconst (0 : Int32) C dX12_setLay_29 rfl ?_
    exact h_J30 μ0 false _ _ hw hS hF
  refine x_aload_n C dX12_setLay_0 rfl ?_
  refine x_iload_n C dX12_setLay_1 rfl ?_
  refine x_i2l C dX12_setLay_2 ?_
  refine x_lconst (0 : Int64) C dX12_setLay_3 rfl ?_
  refine x_ldc2 (30 : Int64) C cl_X12_405 dX12_setLay_4 ?_
  obtain ⟨q1, hq2, hF⟩ := bnd_e hF
  have hq2 := Option.some.inj hq2
  have K3 := c_X12_in l D cA s0 a1.toInt64 (0 : Int64) (30 : Int64) 
  rw [hq2] at K3
  refine x_goR (fun ls h => x_runS (As := [.long a1.toInt64, .long (0 : Int64), .long (30 : Int64)]) [.ref b] h C ml_X12_47 K3 ⟨rfl, rfl, nb rfl, nb rfl⟩ rfl trivial (nb rfl) ⟨Nat.zero_le _, Nat.zero_le _⟩ dX12_setLay_7) ?_
  refine x_ifB_eq 29 C dX12_setLay_10 (by decide) (fun c4 => ?_) (fun c4 => ?_)
  · have hF := ite_f hF (nbt c4)
    exact h_J29 ν _ _ hw hS hF
  · have hF := ite_t hF c4
    refine x_iload_n C dX12_setLay_13 rfl ?_
    refine x_i2l C dX12_setLay_14 ?_
    refine x_lconst (0 : Int64) C dX12_setLay_15 rfl ?_
    refine x_ldc2 (9999 : Int64) C cl_X12_51 dX12_setLay_16 ?_
    obtain ⟨q27, hq28, hF⟩ := bnd_e hF
    have hq28 := Option.some.inj hq28
    have K29 := c_X12_in l D cA s0 a2.toInt64 (0 : Int64) (9999 : Int64) 
    rw [hq28] at K29
    refine x_goR (fun ls h => x_runS (As := [.long a2.toInt64, .long (0 : Int64), .long (9999 : Int64)]) [.ref b] h C ml_X12_47 K29 ⟨rfl, rfl, nb rfl, nb rfl⟩ rfl trivial (nb rfl) ⟨Nat.zero_le _, Nat.zero_le _⟩ dX12_setLay_19) ?_
    refine x_ifB_eq 29 C dX12_setLay_22 (by decide) (fun c30 => ?_) (fun c30 => ?_)
    · have hF := ite_f hF (nbt c30)
      exact h_J29 ν _ _ hw hS hF
    · have hF := ite_t hF c30
      refine x_iconst (1 : Int32) C dX12_setLay_25 rfl ?_
      refine x_goto 30 C dX12_setLay_26 (by decide) ?_
      exact h_J30 ν true _ _ hw hS hF
noncomputable def g_X12_undo_L69 (ν : Mm) : Nat → Mm → Int32 → Option (Int32 × Mm)
  | 0, _, _ => none
  | n + 1, μ0, x1 => (if (8 : Int32) ≤ x1 then some (μ0.1 0 19, μ0) else asr (vp_in (((8 : Int32) * (μ0.1 0 19)) + x1) 48) (asr (vp_in x1 8) (bnd (some (uP μ0 3 (cl x1) (μ0.2.1 6 (cl (((8 : Int32) * (μ0.1 0 19)) + x1))))) (fun μ16 => (g_X12_undo_L69 ν n μ16 (x1 + (1 : Int32)))))))
noncomputable def g_X12_undo_L33 (ν : Mm) : Nat → Mm → Int32 → Option (Int32 × Mm)
  | 0, _, _ => none
  | n + 1, μ0, x1 => (if (1377 : Int32) ≤ x1 then (g_X12_undo_L69 ν 10000 μ0 (0 : Int32)) else asr (vp_in (((1377 : Int32) * (μ0.1 0 19)) + x1) 8262) (asr (vp_in x1 1377) (bnd (some (uI μ0 1 (cl x1) (μ0.1 5 (cl (((1377 : Int32) * (μ0.1 0 19)) + x1))))) (fun μ24 => (g_X12_undo_L33 ν n μ24 (x1 + (1 : Int32)))))))
noncomputable def g_X12_undo_J13 (ν : Mm) (μ0 : Mm) (y0 : Bool) : Option (Int32 × Mm) := bnd (some (f_X12_passes μ0 y0)) (fun q2 => (if q2.1 = true then bnd (some (uI q2.2 0 19 ((q2.2.1 0 19) - (1 : Int32)))) (fun μ6 => (g_X12_undo_L33 ν 10000 μ6 (0 : Int32))) else some ((0 : Int32), q2.2)))
noncomputable def g_X12_undo (ν : Mm) : Option (Int32 × Mm) := (if (ν.1 0 19) ≤ 0 then (g_X12_undo_J13 ν ν false) else (g_X12_undo_J13 ν ν true))
set_option maxRecDepth 20000 in
set_option maxHeartbeats 4000000 in
theorem k_X12_undo (l : Launch) (D : va_G) (cA : Nat → ClassId) (s0 : State) (z : Nat) (b : Nat) (ν : Mm) (sz : Nat) (hG : xG l D cA s0) (r : Int32 × Mm) (hF : g_X12_undo ν = some r) : Met l yX12_undo (wsG yX12_undo cX12_undo 2 (some (FieldType.int))) { frames := 2, cells := 0, slots := 0, locals := 44 } (xP D cA s0 [.ref b] (fun H => H.size = sz ∧ RX D cA s0 z b ν H)) (xQm (some (.int r.1)) (fun H => RX D cA s0 z b r.2 H) (xA b 8 sz)) 0 0 (xA b 8 sz) := by
  refine x_start (own := RX12) [(0, .ref b)] rfl rfl (by decide) (nb rfl) ?_
  intro p e s m args below meth c C hw
  obtain ⟨hsz, hw⟩ := hw
  subst hsz
  have hS : va_S (xA b 8 s.heap.size) s.heap s.heap [] := va_S.rf
  have h_L69 : ∀ (n : Nat) (μ0 : Mm) (x1 : Int32) (H : Heap) (locs : List Loc) (hw : RX D cA s0 z b μ0 H) (hS : va_S (xA b 8 s.heap.size) s.heap H locs), g_X12_undo_L69 ν n μ0 x1 = some r → xW p l e { frames := 2, cells := 0, slots := 0, locals := 44 } s m args below meth c 2 (MQ below (xQm (some (.int r.1)) (fun H => RX D cA s0 z b r.2 H) (xA b 8 s.heap.size)) args s 0 0 (xA b 8 s.heap.size)) H locs 0 0 69 [(0, .ref b), (1, .int x1)] [] := by
    intro n
    induction n with
    | zero =>
      intro μ0 x1 H locs hw hS hF
      exact no_some hF
    | succ n ih =>
      intro μ0 x1 H locs hw hS hF
      have ih69 := ih
      refine x_iload_n C dX12_undo_69 rfl ?_
      refine x_bipush (8 : Int32) C dX12_undo_70 rfl ?_
      refine x_icmp_ge 101 C dX12_undo_72 (by decide) (fun c9 => ?_) (fun c9 => ?_)
      · have hF := ite_t hF c9
        refine x_aload_n C dX12_undo_101 rfl ?_
        refine x_get (.int (μ0.1 0 19)) C fl_X12_442 (M_obj hw.2.2.2.2) rfl dX12_undo_102 ?_
        exact x_iretM2 C rfl dX12_undo_105  (rm_i hF) (rm_m (W := fun m => RX D cA s0 z b m _) hF hw) hS (nb rfl) (nb rfl)
      · have hF := ite_f hF c9
        refine x_aload_n C dX12_undo_75 rfl ?_
        refine x_get (.ref (b + 3)) C fl_X12_27 (M_obj hw.2.2.2.2) rfl dX12_undo_76 ?_
        refine x_iload_n C dX12_undo_79 rfl ?_
        refine x_aload_n C dX12_undo_80 rfl ?_
        refine x_get (.ref (b + 6)) C fl_X12_41 (M_obj hw.2.2.2.2) rfl dX12_undo_81 ?_
        refine x_bipush (8 : Int32) C dX12_undo_84 rfl ?_
        refine x_aload_n C dX12_undo_86 rfl ?_
        refine x_get (.int (μ0.1 0 19)) C fl_X12_442 (M_obj hw.2.2.2.2) rfl dX12_undo_87 ?_
        refine x_imul C dX12_undo_90 ?_
        refine x_iload_n C dX12_undo_91 rfl ?_
        refine x_iadd C dX12_undo_92 ?_
        obtain ⟨h10, hF⟩ := asr_e hF
        obtain ⟨hn11, hl12⟩ := vpn h10 (by decide)
        refine x_laldN C (M_a6 hw.2.2.2.2) hn11 hl12 (by decide) dX12_undo_93 ?_
        obtain ⟨h13, hF⟩ := asr_e hF
        obtain ⟨hn14, hl15⟩ := vpn h13 (by decide)
        refine m_last 3 C hw (by decide) (fun _ => rfl) hn14 hl15 (by decide) dX12_undo_94 hS (fun H locs hw hS => ?_)
        obtain ⟨μ16, hm17, hF⟩ := bnd_e hF
        have hw : RX D cA s0 z b μ16 H := rv_m (W := fun m => RX D cA s0 z b m _) hm17 hw
        refine x_iinc (x1 + (1 : Int32)) [(1, .int (x1 + (1 : Int32))), (0, .ref b)] C dX12_undo_95 rfl rfl (by decide) rfl ?_
        refine x_goto 69 C dX12_undo_98 (by decide) ?_
        refine x_sub [(0, .ref b), (1, .int (x1 + (1 : Int32)))] [1, 0] rfl ?_
        exact ih69 μ16 (x1 + (1 : Int32)) _ _ hw hS hF
  have h_L33 : ∀ (n : Nat) (μ0 : Mm) (x1 : Int32) (H : Heap) (locs : List Loc) (hw : RX D cA s0 z b μ0 H) (hS : va_S (xA b 8 s.heap.size) s.heap H locs), g_X12_undo_L33 ν n μ0 x1 = some r → xW p l e { frames := 2, cells := 0, slots := 0, locals := 44 } s m args below meth c 2 (MQ below (xQm (some (.int r.1)) (fun H => RX D cA s0 z b r.2 H) (xA b 8 s.heap.size)) args s 0 0 (xA b 8 s.heap.size)) H locs 0 0 33 [(0, .ref b), (1, .int x1)] [] := by
    intro n
    induction n with
    | zero =>
      intro μ0 x1 H locs hw hS hF
      exact no_some hF
    | succ n ih =>
      intro μ0 x1 H locs hw hS hF
      have ih33 := ih
      refine x_iload_n C dX12_undo_33 rfl ?_
      refine x_sipush (1377 : Int32) C dX12_undo_34 rfl ?_
      refine x_icmp_ge 67 C dX12_undo_37 (by decide) (fun c8 => ?_) (fun c8 => ?_)
      · have hF := ite_t hF c8
        refine x_iconst (0 : Int32) C dX12_undo_67 rfl ?_
        refine x_istore_n [(1, .int (0 : Int32)), (0, .ref b)] C dX12_undo_68 rfl (by decide) rfl ?_
        refine x_sub [(0, .ref b), (1, .int (0 : Int32))] [1, 0] rfl ?_
        exact h_L69 10000 μ0 (0 : Int32) _ _ hw hS hF
      · have hF := ite_f hF c8
        refine x_aload_n C dX12_undo_40 rfl ?_
        refine x_get (.ref (b + 1)) C fl_X12_17 (M_obj hw.2.2.2.2) rfl dX12_undo_41 ?_
        refine x_iload_n C dX12_undo_44 rfl ?_
        refine x_aload_n C dX12_undo_45 rfl ?_
        refine x_get (.ref (b + 5)) C fl_X12_38 (M_obj hw.2.2.2.2) rfl dX12_undo_46 ?_
        refine x_sipush (1377 : Int32) C dX12_undo_49 rfl ?_
        refine x_aload_n C dX12_undo_52 rfl ?_
        refine x_get (.int (μ0.1 0 19)) C fl_X12_442 (M_obj hw.2.2.2.2) rfl dX12_undo_53 ?_
        refine x_imul C dX12_undo_56 ?_
        refine x_iload_n C dX12_undo_57 rfl ?_
        refine x_iadd C dX12_undo_58 ?_
        obtain ⟨h18, hF⟩ := asr_e hF
        obtain ⟨hn19, hl20⟩ := vpn h18 (by decide)
        refine x_ialdN C (M_a5 hw.2.2.2.2) hn19 hl20 (by decide) dX12_undo_59 ?_
        obtain ⟨h21, hF⟩ := asr_e hF
        obtain ⟨hn22, hl23⟩ := vpn h21 (by decide)
        refine m_iast 1 C hw (by decide) (fun _ => rfl) hn22 hl23 (by decide) dX12_undo_60 hS (fun H locs hw hS => ?_)
        obtain ⟨μ24, hm25, hF⟩ := bnd_e hF
        have hw : RX D cA s0 z b μ24 H := rv_m (W := fun m => RX D cA s0 z b m _) hm25 hw
        refine x_iinc (x1 + (1 : Int32)) [(1, .int (x1 + (1 : Int32))), (0, .ref b)] C dX12_undo_61 rfl rfl (by decide) rfl ?_
        refine x_goto 33 C dX12_undo_64 (by decide) ?_
        refine x_sub [(0, .ref b), (1, .int (x1 + (1 : Int32)))] [1, 0] rfl ?_
        exact ih33 μ24 (x1 + (1 : Int32)) _ _ hw hS hF
  have h_J13 : ∀ (μ0 : Mm) (y0 : Bool) (H : Heap) (locs : List Loc) (hw : RX D cA s0 z b μ0 H) (hS : va_S (xA b 8 s.heap.size) s.heap H locs), g_X12_undo_J13 ν μ0 y0 = some r → xW p l e { frames := 2, cells := 0, slots := 0, locals := 44 } s m args below meth c 2 (MQ below (xQm (some (.int r.1)) (fun H => RX D cA s0 z b r.2 H) (xA b 8 s.heap.size)) args s 0 0 (xA b 8 s.heap.size)) H locs 0 0 13 [(0, .ref b)] [.int (bI y0), .ref b] := by
    intro μ0 y0 H locs hw hS hF
    obtain ⟨q2, hq3, hF⟩ := bnd_e hF
    have hq3 := Option.some.inj hq3
    have K4 := c_X12_passes l D cA s0 b μ0 H.size y0 
    rw [hq3] at K4
    have hwo := hw
    refine x_goM (fun ls h => x_runV (As := [.int (bI y0)]) [] h C ml_X12_62 K4 ⟨rfl, rfl, nb rfl, nb rfl⟩ rfl (M_obj hw.2.2.2.2) rfl ⟨rfl, hw.2.2.2.2⟩ (nb rfl) ⟨Nat.zero_le _, Nat.zero_le _⟩ dX12_undo_13) hS (xA_le hS) (fun H locs hw hz hk hS => ?_)
    have hw : RX D cA s0 z b q2.2 H := RX.of hwo hw hz hk
    refine x_ifB_ne 21 C dX12_undo_16 (by decide) (fun c5 => ?_) (fun c5 => ?_)
    · have hF := ite_t hF c5
      refine x_aload_n C dX12_undo_21 rfl ?_
      refine x_dup C dX12_undo_22 rfl ?_
      refine x_get (.int (q2.2.1 0 19)) C fl_X12_442 (M_obj hw.2.2.2.2) rfl dX12_undo_23 ?_
      refine x_iconst (1 : Int32) C dX12_undo_26 rfl ?_
      refine x_isub C dX12_undo_27 ?_
      refine m_putI (kk0 := 19) C fl_X12_442 hw rfl rfl rfl rfl (nb rfl) dX12_undo_28 hS (fun H locs hw hS => ?_)
      obtain ⟨μ6, hm7, hF⟩ := bnd_e hF
      have hw : RX D cA s0 z b μ6 H := rv_m (W := fun m => RX D cA s0 z b m _) hm7 hw
      refine x_iconst (0 : Int32) C dX12_undo_31 rfl ?_
      refine x_istore_n [(1, .int (0 : Int32)), (0, .ref b)] C dX12_undo_32 rfl (by decide) rfl ?_
      refine x_sub [(0, .ref b), (1, .int (0 : Int32))] [1, 0] rfl ?_
      exact h_L33 10000 μ6 (0 : Int32) _ _ hw hS hF
    · have hF := ite_f hF (nbt c5)
      refine x_iconst (0 : Int32) C dX12_undo_19 rfl ?_
      exact x_iretM2 C rfl dX12_undo_20  (rm_i hF) (rm_m (W := fun m => RX D cA s0 z b m _) hF hw) hS (nb rfl) (nb rfl)
  refine x_aload_n C dX12_undo_0 rfl ?_
  refine x_aload_n C dX12_undo_1 rfl ?_
  refine x_get (.int (ν.1 0 19)) C fl_X12_442 (M_obj hw.2.2.2.2) rfl dX12_undo_2 ?_
  refine x_if_le 12 C dX12_undo_5 (by decide) (fun c1 => ?_) (fun c1 => ?_)
  · have hF := ite_t hF c1
    refine x_iconst (0 : Int32) C dX12_undo_12 rfl ?_
    exact h_J13 ν false _ _ hw hS hF
  · have hF := ite_f hF c1
    refine x_iconst (1 : Int32) C dX12_undo_8 rfl ?_
    refine x_goto 13 C dX12_undo_9 (by decide) ?_
    exact h_J13 ν true _ _ hw hS hF
noncomputable def g_X12_undoCount (ν : Mm) : Option (Int32 × Mm) := bnd (some (uI ν 0 0 (0 : Int32))) (fun μ1 => some (μ1.1 0 19, μ1))
set_option maxRecDepth 20000 in
set_option maxHeartbeats 4000000 in
theorem k_X12_undoCount (l : Launch) (D : va_G) (cA : Nat → ClassId) (s0 : State) (z : Nat) (b : Nat) (ν : Mm) (sz : Nat) (hG : xG l D cA s0) (r : Int32 × Mm) (hF : g_X12_undoCount ν = some r) : Met l yX12_undoCount (wsG yX12_undoCount cX12_undoCount 1 (some (FieldType.int))) { frames := 0, cells := 0, slots := 0, locals := 0 } (xP D cA s0 [.ref b] (fun H => H.size = sz ∧ RX D cA s0 z b ν H)) (xQm (some (.int r.1)) (fun H => RX D cA s0 z b r.2 H) (xA b 8 sz)) 0 0 (xA b 8 sz) := by
  refine x_start (own := RX12) [(0, .ref b)] rfl rfl (by decide) (nb rfl) ?_
  intro p e s m args below meth c C hw
  obtain ⟨hsz, hw⟩ := hw
  subst hsz
  have hS : va_S (xA b 8 s.heap.size) s.heap s.heap [] := va_S.rf
  refine x_aload_n C dX12_undoCount_0 rfl ?_
  refine x_iconst (0 : Int32) C dX12_undoCount_1 rfl ?_
  refine m_putI (kk0 := 0) C fl_X12_3 hw rfl rfl rfl rfl (nb rfl) dX12_undoCount_2 hS (fun H locs hw hS => ?_)
  obtain ⟨μ1, hm2, hF⟩ := bnd_e hF
  have hw : RX D cA s0 z b μ1 H := rv_m (W := fun m => RX D cA s0 z b m _) hm2 hw
  refine x_aload_n C dX12_undoCount_5 rfl ?_
  refine x_get (.int (μ1.1 0 19)) C fl_X12_442 (M_obj hw.2.2.2.2) rfl dX12_undoCount_6 ?_
  exact x_iretM2 C rfl dX12_undoCount_9  (rm_i hF) (rm_m (W := fun m => RX D cA s0 z b m _) hF hw) hS (nb rfl) (nb rfl)
noncomputable def g_X12_write (ν : Mm) (a1 : Int32) : Option (Mm) := asr (vp_in (ν.1 0 21) 3000) (bnd (some (uI ν 7 (cl (ν.1 0 21)) (vp_nar .byte a1.toInt8.toInt32))) (fun μ4 => bnd (some (uI μ4 0 21 ((μ4.1 0 21) + (1 : Int32)))) (fun μ6 => some μ6)))
set_option maxRecDepth 20000 in
set_option maxHeartbeats 4000000 in
theorem k_X12_write (l : Launch) (D : va_G) (cA : Nat → ClassId) (s0 : State) (z : Nat) (b : Nat) (ν : Mm) (sz : Nat) (hG : xG l D cA s0) (a1 : Int32) (r : Mm) (hF : g_X12_write ν a1 = some r) : Met l yX12_write (wsG yX12_write cX12_write 2 none) { frames := 0, cells := 0, slots := 0, locals := 0 } (xP D cA s0 [.ref b, .int a1] (fun H => H.size = sz ∧ RX D cA s0 z b ν H)) (xQm none (fun H => RX D cA s0 z b r H) (xA b 8 sz)) 0 0 (xA b 8 sz) := by
  refine x_start (own := RX12) [(0, .ref b), (1, .int a1)] rfl rfl (by decide) (nb rfl) ?_
  intro p e s m args below meth c C hw
  obtain ⟨hsz, hw⟩ := hw
  subst hsz
  have hS : va_S (xA b 8 s.heap.size) s.heap s.heap [] := va_S.rf
  refine x_aload_n C dX12_write_0 rfl ?_
  refine x_get (.ref (b + 7)) C fl_X12_44 (M_obj hw.2.2.2.2) rfl dX12_write_1 ?_
  refine x_aload_n C dX12_write_4 rfl ?_
  refine x_get (.int (ν.1 0 21)) C fl_X12_445 (M_obj hw.2.2.2.2) rfl dX12_write_5 ?_
  refine x_iload_n C dX12_write_8 rfl ?_
  refine x_i2b C dX12_write_9 ?_
  obtain ⟨h1, hF⟩ := asr_e hF
  obtain ⟨hn2, hl3⟩ := vpn h1 (by decide)
  refine m_bast 7 C hw (by decide) (fun _ => rfl) hn2 hl3 (by decide) dX12_write_10 hS (fun H locs hw hS => ?_)
  obtain ⟨μ4, hm5, hF⟩ := bnd_e hF
  have hw : RX D cA s0 z b μ4 H := rv_m (W := fun m => RX D cA s0 z b m _) hm5 hw
  refine x_aload_n C dX12_write_11 rfl ?_
  refine x_dup C dX12_write_12 rfl ?_
  refine x_get (.int (μ4.1 0 21)) C fl_X12_445 (M_obj hw.2.2.2.2) rfl dX12_write_13 ?_
  refine x_iconst (1 : Int32) C dX12_write_16 rfl ?_
  refine x_iadd C dX12_write_17 ?_
  refine m_putI (kk0 := 21) C fl_X12_445 hw rfl rfl rfl rfl (nb rfl) dX12_write_18 hS (fun H locs hw hS => ?_)
  obtain ⟨μ6, hm7, hF⟩ := bnd_e hF
  have hw : RX D cA s0 z b μ6 H := rv_m (W := fun m => RX D cA s0 z b m _) hm7 hw
  exact x_vretM2 C rfl dX12_write_21 rfl (rv_m (W := fun m => RX D cA s0 z b m _) hF hw) hS (nb rfl) (nb rfl)
noncomputable def g_X12_writeNumber_L54 (ν : Mm) (a1 : Int64) : Nat → Mm → Int64 → Int64 → Option (Mm)
  | 0, _, _, _ => none
  | n + 1, μ0, x3, x7 => (if x7 ≤ (0 : Int64) then some μ0 else asr (¬ x7 = 0) (bnd (g_X12_write μ0 ((48 : Int32) + (((x3 / x7) - (x3 / x7) / (10 : Int64) * (10 : Int64)).toInt32))) (fun q7 => (g_X12_writeNumber_L54 ν a1 n q7 x3 (x7 / (10 : Int64))))))
noncomputable def g_X12_writeNumber_L28 (ν : Mm) (a1 : Int64) : Nat → Mm → Int64 → Int64 → Option (Mm)
  | 0, _, _, _ => none
  | n + 1, μ0, x3, x5 => asr (¬ x5 = 0) ((if (x3 / x5) < (10 : Int64) then (g_X12_writeNumber_L54 ν a1 10000 μ0 x3 x5) else (g_X12_writeNumber_L28 ν a1 n μ0 x3 (x5 * (10 : Int64)))))
noncomputable def g_X12_writeNumber_J12 (ν : Mm) (a1 : Int64) (μ0 : Mm) (y0 : Int64) : Option (Mm) := (if (0 : Int64) ≤ a1 then (g_X12_writeNumber_L28 ν a1 10000 μ0 y0 (1 : Int64)) else bnd (g_X12_write μ0 (45 : Int32)) (fun q9 => (g_X12_writeNumber_L28 ν a1 10000 q9 y0 (1 : Int64))))
noncomputable def g_X12_writeNumber (ν : Mm) (a1 : Int64) : Option (Mm) := (if (0 : Int64) ≤ a1 then (g_X12_writeNumber_J12 ν a1 ν a1) else (g_X12_writeNumber_J12 ν a1 ν (-a1)))
set_option maxRecDepth 20000 in
set_option maxHeartbeats 4000000 in
theorem k_X12_writeNumber (l : Launch) (D : va_G) (cA : Nat → ClassId) (s0 : State) (z : Nat) (b : Nat) (ν : Mm) (sz : Nat) (hG : xG l D cA s0) (a1 : Int64) (r : Mm) (hF : g_X12_writeNumber ν a1 = some r) : Met l yX12_writeNumber (wsG yX12_writeNumber cX12_writeNumber 9 none) { frames := 1, cells := 0, slots := 0, locals := 21 } (xP D cA s0 [.ref b, .long a1] (fun H => H.size = sz ∧ RX D cA s0 z b ν H)) (xQm none (fun H => RX D cA s0 z b r H) (xA b 8 sz)) 0 0 (xA b 8 sz) := by
  refine x_start (own := RX12) [(0, .ref b), (1, .long a1)] rfl rfl (by decide) (nb rfl) ?_
  intro p e s m args below meth c C hw
  obtain ⟨hsz, hw⟩ := hw
  subst hsz
  have hS : va_S (xA b 8 s.heap.size) s.heap s.heap [] := va_S.rf
  have h_L54 : ∀ (n : Nat) (μ0 : Mm) (x3 : Int64) (x7 : Int64) (H : Heap) (locs : List Loc) (hw : RX D cA s0 z b μ0 H) (hS : va_S (xA b 8 s.heap.size) s.heap H locs), g_X12_writeNumber_L54 ν a1 n μ0 x3 x7 = some r → xW p l e { frames := 1, cells := 0, slots := 0, locals := 21 } s m args below meth c 9 (MQ below (xQm none (fun H => RX D cA s0 z b r H) (xA b 8 s.heap.size)) args s 0 0 (xA b 8 s.heap.size)) H locs 0 0 54 [(0, .ref b), (3, .long x3), (7, .long x7)] [] := by
    intro n
    induction n with
    | zero =>
      intro μ0 x3 x7 H locs hw hS hF
      exact no_some hF
    | succ n ih =>
      intro μ0 x3 x7 H locs hw hS hF
      have ih54 := ih
      refine x_lload C dX12_writeNumber_54 rfl ?_
      refine x_lconst (0 : Int64) C dX12_writeNumber_56 rfl ?_
      refine x_lcmp_le 88 C dX12_writeNumber_57 dX12_writeNumber_58 (by decide) (fun c5 => ?_) (fun c5 => ?_)
      · have hF := ite_t hF c5
        exact x_vretM2 C rfl dX12_writeNumber_88 rfl (rv_m (W := fun m => RX D cA s0 z b m _) hF hw) hS (nb rfl) (nb rfl)
      · have hF := ite_f hF c5
        refine x_aload_n C dX12_writeNumber_61 rfl ?_
        refine x_bipush (48 : Int32) C dX12_writeNumber_62 rfl ?_
        refine x_lload_n C dX12_writeNumber_64 rfl ?_
        refine x_lload C dX12_writeNumber_65 rfl ?_
        obtain ⟨h6, hF⟩ := asr_e hF
        refine x_ldiv C dX12_writeNumber_67 h6 ?_
        refine x_ldc2 (10 : Int64) C cl_X12_451 dX12_writeNumber_68 ?_
        refine x_lrem C dX12_writeNumber_71 (by decide) ?_
        refine x_l2i C dX12_writeNumber_72 ?_
        refine x_iadd C dX12_writeNumber_73 ?_
        obtain ⟨q7, hq8, hF⟩ := bnd_e hF
        refine x_goM (fun ls h => x_runV (As := [.int ((48 : Int32) + (((x3 / x7) - (x3 / x7) / (10 : Int64) * (10 : Int64)).toInt32))]) [] h C ml_X12_448 (k_X12_write l D cA s0 z b μ0 _ hG ((48 : Int32) + (((x3 / x7) - (x3 / x7) / (10 : Int64) * (10 : Int64)).toInt32)) q7 hq8) ⟨rfl, rfl, nb rfl, nb rfl⟩ rfl (M_obj hw.2.2.2.2) rfl ⟨rfl, hw⟩ (nb rfl) ⟨Nat.zero_le _, Nat.zero_le _⟩ dX12_writeNumber_74) hS (xA_le hS) (fun H locs hw hz hk hS => ?_)
        have hw : RX D cA s0 z b q7 H := hw
        refine x_lload C dX12_writeNumber_77 rfl ?_
        refine x_ldc2 (10 : Int64) C cl_X12_451 dX12_writeNumber_79 ?_
        refine x_ldiv C dX12_writeNumber_82 (by decide) ?_
        refine x_lstore [(7, .long (x7 / (10 : Int64))), (0, .ref b), (3, .long x3)] C dX12_writeNumber_83 (by decide) rfl ?_
        refine x_goto 54 C dX12_writeNumber_85 (by decide) ?_
        refine x_sub [(0, .ref b), (3, .long x3), (7, .long (x7 / (10 : Int64)))] [1, 2, 0] rfl ?_
        exact ih54 q7 x3 (x7 / (10 : Int64)) _ _ hw hS hF
  have h_L28 : ∀ (n : Nat) (μ0 : Mm) (x3 : Int64) (x5 : Int64) (H : Heap) (locs : List Loc) (hw : RX D cA s0 z b μ0 H) (hS : va_S (xA b 8 s.heap.size) s.heap H locs), g_X12_writeNumber_L28 ν a1 n μ0 x3 x5 = some r → xW p l e { frames := 1, cells := 0, slots := 0, locals := 21 } s m args below meth c 9 (MQ below (xQm none (fun H => RX D cA s0 z b r H) (xA b 8 s.heap.size)) args s 0 0 (xA b 8 s.heap.size)) H locs 0 0 28 [(0, .ref b), (3, .long x3), (5, .long x5)] [] := by
    intro n
    induction n with
    | zero =>
      intro μ0 x3 x5 H locs hw hS hF
      exact no_some hF
    | succ n ih =>
      intro μ0 x3 x5 H locs hw hS hF
      have ih28 := ih
      refine x_lload_n C dX12_writeNumber_28 rfl ?_
      refine x_lload C dX12_writeNumber_29 rfl ?_
      obtain ⟨h3, hF⟩ := asr_e hF
      refine x_ldiv C dX12_writeNumber_31 h3 ?_
      refine x_ldc2 (10 : Int64) C cl_X12_451 dX12_writeNumber_32 ?_
      refine x_lcmp_lt 50 C dX12_writeNumber_35 dX12_writeNumber_36 (by decide) (fun c4 => ?_) (fun c4 => ?_)
      · have hF := ite_t hF c4
        refine x_lload C dX12_writeNumber_50 rfl ?_
        refine x_lstore [(7, .long x5), (0, .ref b), (3, .long x3), (5, .long x5)] C dX12_writeNumber_52 (by decide) rfl ?_
        refine x_sub [(0, .ref b), (3, .long x3), (7, .long x5)] [1, 2, 0] rfl ?_
        exact h_L54 10000 μ0 x3 x5 _ _ hw hS hF
      · have hF := ite_f hF c4
        refine x_lload C dX12_writeNumber_39 rfl ?_
        refine x_ldc2 (10 : Int64) C cl_X12_451 dX12_writeNumber_41 ?_
        refine x_lmul C dX12_writeNumber_44 ?_
        refine x_lstore [(5, .long (x5 * (10 : Int64))), (0, .ref b), (3, .long x3)] C dX12_writeNumber_45 (by decide) rfl ?_
        refine x_goto 28 C dX12_writeNumber_47 (by decide) ?_
        refine x_sub [(0, .ref b), (3, .long x3), (5, .long (x5 * (10 : Int64)))] [1, 2, 0] rfl ?_
        exact ih28 μ0 x3 (x5 * (10 : Int64)) _ _ hw hS hF
  have h_J12 : ∀ (μ0 : Mm) (y0 : Int64) (H : Heap) (locs : List Loc) (hw : RX D cA s0 z b μ0 H) (hS : va_S (xA b 8 s.heap.size) s.heap H locs), g_X12_writeNumber_J12 ν a1 μ0 y0 = some r → xW p l e { frames := 1, cells := 0, slots := 0, locals := 21 } s m args below meth c 9 (MQ below (xQm none (fun H => RX D cA s0 z b r H) (xA b 8 s.heap.size)) args s 0 0 (xA b 8 s.heap.size)) H locs 0 0 12 [(0, .ref b), (1, .long a1)] [.long y0] := by
    intro μ0 y0 H locs hw hS hF
    refine x_lstore_n [(3, .long y0), (0, .ref b), (1, .long a1)] C dX12_writeNumber_12 rfl (by decide) rfl ?_
    refine x_lload_n C dX12_writeNumber_13 rfl ?_
    refine x_lconst (0 : Int64) C dX12_writeNumber_14 rfl ?_
    refine x_lcmp_ge 25 C dX12_writeNumber_15 dX12_writeNumber_16 (by decide) (fun c2 => ?_) (fun c2 => ?_)
    · have hF := ite_t hF c2
      refine x_lconst (1 : Int64) C dX12_writeNumber_25 rfl ?_
      refine x_lstore [(5, .long (1 : Int64)), (3, .long y0), (0, .ref b), (1, .long a1)] C dX12_writeNumber_26 (by decide) rfl ?_
      refine x_sub [(0, .ref b), (3, .long y0), (5, .long (1 : Int64))] [2, 1, 0] rfl ?_
      exact h_L28 10000 μ0 y0 (1 : Int64) _ _ hw hS hF
    · have hF := ite_f hF c2
      refine x_aload_n C dX12_writeNumber_19 rfl ?_
      refine x_bipush (45 : Int32) C dX12_writeNumber_20 rfl ?_
      obtain ⟨q9, hq10, hF⟩ := bnd_e hF
      refine x_goM (fun ls h => x_runV (As := [.int (45 : Int32)]) [] h C ml_X12_448 (k_X12_write l D cA s0 z b μ0 _ hG (45 : Int32) q9 hq10) ⟨rfl, rfl, nb rfl, nb rfl⟩ rfl (M_obj hw.2.2.2.2) rfl ⟨rfl, hw⟩ (nb rfl) ⟨Nat.zero_le _, Nat.zero_le _⟩ dX12_writeNumber_22) hS (xA_le hS) (fun H locs hw hz hk hS => ?_)
      have hw : RX D cA s0 z b q9 H := hw
      refine x_lconst (1 : Int64) C dX12_writeNumber_25 rfl ?_
      refine x_lstore [(5, .long (1 : Int64)), (3, .long y0), (0, .ref b), (1, .long a1)] C dX12_writeNumber_26 (by decide) rfl ?_
      refine x_sub [(0, .ref b), (3, .long y0), (5, .long (1 : Int64))] [2, 1, 0] rfl ?_
      exact h_L28 10000 q9 y0 (1 : Int64) _ _ hw hS hF
  refine x_lload_n C dX12_writeNumber_0 rfl ?_
  refine x_lconst (0 : Int64) C dX12_writeNumber_1 rfl ?_
  refine x_lcmp_ge 11 C dX12_writeNumber_2 dX12_writeNumber_3 (by decide) (fun c1 => ?_) (fun c1 => ?_)
  · have hF := ite_t hF c1
    refine x_lload_n C dX12_writeNumber_11 rfl ?_
    exact h_J12 ν a1 _ _ hw hS hF
  · have hF := ite_f hF c1
    refine x_lload_n C dX12_writeNumber_6 rfl ?_
    refine x_lneg C dX12_writeNumber_7 ?_
    refine x_goto 12 C dX12_writeNumber_8 (by decide) ?_
    exact h_J12 ν (-a1) _ _ hw hS hF
noncomputable def g_X12_writeShort (ν : Mm) (a1 : Int32) : Option (Mm) := bnd (g_X12_writeNumber ν a1.toInt64) (fun q1 => bnd (g_X12_write q1 (32 : Int32)) (fun q3 => asr (OkR (q3.1 1)) (asr (vp_in a1 60) (bnd (some (f_X12_netOf q3 a1)) (fun q7 => bnd (g_X12_writeNumber q3 q7.toInt64) (fun q10 => bnd (g_X12_write q10 (32 : Int32)) (fun q12 => asr (OkR (q12.1 1)) (bnd (some (f_X12_openOf q12 a1)) (fun q15 => bnd (g_X12_writeNumber q12 q15.toInt64) (fun q18 => bnd (g_X12_write q18 (10 : Int32)) (fun q20 => some q20)))))))))))
set_option maxRecDepth 20000 in
set_option maxHeartbeats 4000000 in
theorem k_X12_writeShort (l : Launch) (D : va_G) (cA : Nat → ClassId) (s0 : State) (z : Nat) (b : Nat) (ν : Mm) (sz : Nat) (hG : xG l D cA s0) (a1 : Int32) (r : Mm) (hF : g_X12_writeShort ν a1 = some r) : Met l yX12_writeShort (wsG yX12_writeShort cX12_writeShort 2 none) { frames := 4, cells := 0, slots := 0, locals := 92 } (xP D cA s0 [.ref b, .int a1] (fun H => H.size = sz ∧ RX D cA s0 z b ν H)) (xQm none (fun H => RX D cA s0 z b r H) (xA b 8 sz)) 0 0 (xA b 8 sz) := by
  refine x_start (own := RX12) [(0, .ref b), (1, .int a1)] rfl rfl (by decide) (nb rfl) ?_
  intro p e s m args below meth c C hw
  obtain ⟨hsz, hw⟩ := hw
  subst hsz
  have hS : va_S (xA b 8 s.heap.size) s.heap s.heap [] := va_S.rf
  refine x_aload_n C dX12_writeShort_0 rfl ?_
  refine x_iload_n C dX12_writeShort_1 rfl ?_
  refine x_i2l C dX12_writeShort_2 ?_
  obtain ⟨q1, hq2, hF⟩ := bnd_e hF
  refine x_goM (fun ls h => x_runV (As := [.long a1.toInt64]) [] h C ml_X12_453 (k_X12_writeNumber l D cA s0 z b ν _ hG a1.toInt64 q1 hq2) ⟨rfl, rfl, nb rfl, nb rfl⟩ rfl (M_obj hw.2.2.2.2) rfl ⟨rfl, hw⟩ (nb rfl) ⟨Nat.zero_le _, Nat.zero_le _⟩ dX12_writeShort_3) hS (xA_le hS) (fun H locs hw hz hk hS => ?_)
  have hw : RX D cA s0 z b q1 H := hw
  refine x_aload_n C dX12_writeShort_6 rfl ?_
  refine x_bipush (32 : Int32) C dX12_writeShort_7 rfl ?_
  obtain ⟨q3, hq4, hF⟩ := bnd_e hF
  refine x_goM (fun ls h => x_runV (As := [.int (32 : Int32)]) [] h C ml_X12_448 (k_X12_write l D cA s0 z b q1 _ hG (32 : Int32) q3 hq4) ⟨rfl, rfl, nb rfl, nb rfl⟩ rfl (M_obj hw.2.2.2.2) rfl ⟨rfl, hw⟩ (nb rfl) ⟨Nat.zero_le _, Nat.zero_le _⟩ dX12_writeShort_9) hS (xA_le hS) (fun H locs hw hz hk hS => ?_)
  have hw : RX D cA s0 z b q3 H := hw
  refine x_aload_n C dX12_writeShort_12 rfl ?_
  refine x_aload_n C dX12_writeShort_13 rfl ?_
  refine x_iload_n C dX12_writeShort_14 rfl ?_
  obtain ⟨h5, hF⟩ := asr_e hF
  obtain ⟨h6, hF⟩ := asr_e hF
  obtain ⟨q7, hq8, hF⟩ := bnd_e hF
  have hq8 := Option.some.inj hq8
  have K9 := c_X12_netOf l D cA s0 b q3 h5 a1 h6
  rw [hq8] at K9
  refine x_goR (fun ls h => x_runV (As := [.int a1]) [.ref b] h C ml_X12_371 K9 ⟨rfl, rfl, nb rfl, nb rfl⟩ rfl (M_obj hw.2.2.2.2) rfl hw.2.2.2.2 (nb rfl) ⟨Nat.zero_le _, Nat.zero_le _⟩ dX12_writeShort_15) ?_
  refine x_i2l C dX12_writeShort_18 ?_
  obtain ⟨q10, hq11, hF⟩ := bnd_e hF
  refine x_goM (fun ls h => x_runV (As := [.long q7.toInt64]) [] h C ml_X12_453 (k_X12_writeNumber l D cA s0 z b q3 _ hG q7.toInt64 q10 hq11) ⟨rfl, rfl, nb rfl, nb rfl⟩ rfl (M_obj hw.2.2.2.2) rfl ⟨rfl, hw⟩ (nb rfl) ⟨Nat.zero_le _, Nat.zero_le _⟩ dX12_writeShort_19) hS (xA_le hS) (fun H locs hw hz hk hS => ?_)
  have hw : RX D cA s0 z b q10 H := hw
  refine x_aload_n C dX12_writeShort_22 rfl ?_
  refine x_bipush (32 : Int32) C dX12_writeShort_23 rfl ?_
  obtain ⟨q12, hq13, hF⟩ := bnd_e hF
  refine x_goM (fun ls h => x_runV (As := [.int (32 : Int32)]) [] h C ml_X12_448 (k_X12_write l D cA s0 z b q10 _ hG (32 : Int32) q12 hq13) ⟨rfl, rfl, nb rfl, nb rfl⟩ rfl (M_obj hw.2.2.2.2) rfl ⟨rfl, hw⟩ (nb rfl) ⟨Nat.zero_le _, Nat.zero_le _⟩ dX12_writeShort_25) hS (xA_le hS) (fun H locs hw hz hk hS => ?_)
  have hw : RX D cA s0 z b q12 H := hw
  refine x_aload_n C dX12_writeShort_28 rfl ?_
  refine x_aload_n C dX12_writeShort_29 rfl ?_
  refine x_iload_n C dX12_writeShort_30 rfl ?_
  obtain ⟨h14, hF⟩ := asr_e hF
  obtain ⟨q15, hq16, hF⟩ := bnd_e hF
  have hq16 := Option.some.inj hq16
  have K17 := c_X12_openOf l D cA s0 b q12 h14 a1 h6
  rw [hq16] at K17
  refine x_goR (fun ls h => x_runV (As := [.int a1]) [.ref b] h C ml_X12_383 K17 ⟨rfl, rfl, nb rfl, nb rfl⟩ rfl (M_obj hw.2.2.2.2) rfl hw.2.2.2.2 (nb rfl) ⟨Nat.zero_le _, Nat.zero_le _⟩ dX12_writeShort_31) ?_
  refine x_i2l C dX12_writeShort_34 ?_
  obtain ⟨q18, hq19, hF⟩ := bnd_e hF
  refine x_goM (fun ls h => x_runV (As := [.long q15.toInt64]) [] h C ml_X12_453 (k_X12_writeNumber l D cA s0 z b q12 _ hG q15.toInt64 q18 hq19) ⟨rfl, rfl, nb rfl, nb rfl⟩ rfl (M_obj hw.2.2.2.2) rfl ⟨rfl, hw⟩ (nb rfl) ⟨Nat.zero_le _, Nat.zero_le _⟩ dX12_writeShort_35) hS (xA_le hS) (fun H locs hw hz hk hS => ?_)
  have hw : RX D cA s0 z b q18 H := hw
  refine x_aload_n C dX12_writeShort_38 rfl ?_
  refine x_bipush (10 : Int32) C dX12_writeShort_39 rfl ?_
  obtain ⟨q20, hq21, hF⟩ := bnd_e hF
  refine x_goM (fun ls h => x_runV (As := [.int (10 : Int32)]) [] h C ml_X12_448 (k_X12_write l D cA s0 z b q18 _ hG (10 : Int32) q20 hq21) ⟨rfl, rfl, nb rfl, nb rfl⟩ rfl (M_obj hw.2.2.2.2) rfl ⟨rfl, hw⟩ (nb rfl) ⟨Nat.zero_le _, Nat.zero_le _⟩ dX12_writeShort_41) hS (xA_le hS) (fun H locs hw hz hk hS => ?_)
  have hw : RX D cA s0 z b q20 H := hw
  exact x_vretM2 C rfl dX12_writeShort_44 rfl (rv_m (W := fun m => RX D cA s0 z b m _) hF hw) hS (nb rfl) (nb rfl)
noncomputable def g_X12_writeName_L2 (ν : Mm) (a1 : Int32) : Nat → Mm → Int32 → Option (Mm)
  | 0, _, _ => none
  | n + 1, μ0, x2 => (if (6 : Int32) ≤ x2 then some μ0 else asr (vp_in a1 8) (asr (vp_in ((1 : Int32) + x2) 7) (bnd (some (f_X12_ofShip μ0 a1 ((1 : Int32) + x2))) (fun q4 => (if q4 = 0 then some μ0 else bnd (some (f_X12_ofShip μ0 a1 ((1 : Int32) + x2))) (fun q8 => bnd (g_X12_write μ0 q8) (fun q11 => (g_X12_writeName_L2 ν a1 n q11 (x2 + (1 : Int32))))))))))
noncomputable def g_X12_writeName (ν : Mm) (a1 : Int32) : Option (Mm) := (g_X12_writeName_L2 ν a1 10000 ν (0 : Int32))
set_option maxRecDepth 20000 in
set_option maxHeartbeats 4000000 in
theorem k_X12_writeName (l : Launch) (D : va_G) (cA : Nat → ClassId) (s0 : State) (z : Nat) (b : Nat) (ν : Mm) (sz : Nat) (hG : xG l D cA s0) (a1 : Int32) (r : Mm) (hF : g_X12_writeName ν a1 = some r) : Met l yX12_writeName (wsG yX12_writeName cX12_writeName 3 none) { frames := 1, cells := 0, slots := 0, locals := 22 } (xP D cA s0 [.ref b, .int a1] (fun H => H.size = sz ∧ RX D cA s0 z b ν H)) (xQm none (fun H => RX D cA s0 z b r H) (xA b 8 sz)) 0 0 (xA b 8 sz) := by
  refine x_start (own := RX12) [(0, .ref b), (1, .int a1)] rfl rfl (by decide) (nb rfl) ?_
  intro p e s m args below meth c C hw
  obtain ⟨hsz, hw⟩ := hw
  subst hsz
  have hS : va_S (xA b 8 s.heap.size) s.heap s.heap [] := va_S.rf
  have h_L2 : ∀ (n : Nat) (μ0 : Mm) (x2 : Int32) (H : Heap) (locs : List Loc) (hw : RX D cA s0 z b μ0 H) (hS : va_S (xA b 8 s.heap.size) s.heap H locs), g_X12_writeName_L2 ν a1 n μ0 x2 = some r → xW p l e { frames := 1, cells := 0, slots := 0, locals := 22 } s m args below meth c 3 (MQ below (xQm none (fun H => RX D cA s0 z b r H) (xA b 8 s.heap.size)) args s 0 0 (xA b 8 s.heap.size)) H locs 0 0 2 [(0, .ref b), (1, .int a1), (2, .int x2)] [] := by
    intro n
    induction n with
    | zero =>
      intro μ0 x2 H locs hw hS hF
      exact no_some hF
    | succ n ih =>
      intro μ0 x2 H locs hw hS hF
      have ih2 := ih
      refine x_iload_n C dX12_writeName_2 rfl ?_
      refine x_bipush (6 : Int32) C dX12_writeName_3 rfl ?_
      refine x_icmp_ge 37 C dX12_writeName_5 (by decide) (fun c1 => ?_) (fun c1 => ?_)
      · have hF := ite_t hF c1
        exact x_vretM2 C rfl dX12_writeName_37 rfl (rv_m (W := fun m => RX D cA s0 z b m _) hF hw) hS (nb rfl) (nb rfl)
      · have hF := ite_f hF c1
        refine x_aload_n C dX12_writeName_8 rfl ?_
        refine x_iload_n C dX12_writeName_9 rfl ?_
        refine x_iconst (1 : Int32) C dX12_writeName_10 rfl ?_
        refine x_iload_n C dX12_writeName_11 rfl ?_
        refine x_iadd C dX12_writeName_12 ?_
        obtain ⟨h2, hF⟩ := asr_e hF
        obtain ⟨h3, hF⟩ := asr_e hF
        obtain ⟨q4, hq5, hF⟩ := bnd_e hF
        have hq5 := Option.some.inj hq5
        have K6 := c_X12_ofShip l D cA s0 b μ0 a1 ((1 : Int32) + x2) h2 h3
        rw [hq5] at K6
        refine x_goR (fun ls h => x_runV (As := [.int a1, .int ((1 : Int32) + x2)]) [] h C ml_X12_285 K6 ⟨rfl, rfl, nb rfl, nb rfl⟩ rfl (M_obj hw.2.2.2.2) rfl hw.2.2.2.2 (nb rfl) ⟨Nat.zero_le _, Nat.zero_le _⟩ dX12_writeName_13) ?_
        refine x_if_eq 37 C dX12_writeName_16 (by decide) (fun c7 => ?_) (fun c7 => ?_)
        · have hF := ite_t hF c7
          exact x_vretM2 C rfl dX12_writeName_37 rfl (rv_m (W := fun m => RX D cA s0 z b m _) hF hw) hS (nb rfl) (nb rfl)
        · have hF := ite_f hF c7
          refine x_aload_n C dX12_writeName_19 rfl ?_
          refine x_aload_n C dX12_writeName_20 rfl ?_
          refine x_iload_n C dX12_writeName_21 rfl ?_
          refine x_iconst (1 : Int32) C dX12_writeName_22 rfl ?_
          refine x_iload_n C dX12_writeName_23 rfl ?_
          refine x_iadd C dX12_writeName_24 ?_
          obtain ⟨q8, hq9, hF⟩ := bnd_e hF
          have hq9 := Option.some.inj hq9
          have K10 := c_X12_ofShip l D cA s0 b μ0 a1 ((1 : Int32) + x2) h2 h3
          rw [hq9] at K10
          refine x_goR (fun ls h => x_runV (As := [.int a1, .int ((1 : Int32) + x2)]) [.ref b] h C ml_X12_285 K10 ⟨rfl, rfl, nb rfl, nb rfl⟩ rfl (M_obj hw.2.2.2.2) rfl hw.2.2.2.2 (nb rfl) ⟨Nat.zero_le _, Nat.zero_le _⟩ dX12_writeName_25) ?_
          obtain ⟨q11, hq12, hF⟩ := bnd_e hF
          refine x_goM (fun ls h => x_runV (As := [.int q8]) [] h C ml_X12_448 (k_X12_write l D cA s0 z b μ0 _ hG q8 q11 hq12) ⟨rfl, rfl, nb rfl, nb rfl⟩ rfl (M_obj hw.2.2.2.2) rfl ⟨rfl, hw⟩ (nb rfl) ⟨Nat.zero_le _, Nat.zero_le _⟩ dX12_writeName_28) hS (xA_le hS) (fun H locs hw hz hk hS => ?_)
          have hw : RX D cA s0 z b q11 H := hw
          refine x_iinc (x2 + (1 : Int32)) [(2, .int (x2 + (1 : Int32))), (0, .ref b), (1, .int a1)] C dX12_writeName_31 rfl rfl (by decide) rfl ?_
          refine x_goto 2 C dX12_writeName_34 (by decide) ?_
          refine x_sub [(0, .ref b), (1, .int a1), (2, .int (x2 + (1 : Int32)))] [1, 2, 0] rfl ?_
          exact ih2 q11 (x2 + (1 : Int32)) _ _ hw hS hF
  refine x_iconst (0 : Int32) C dX12_writeName_0 rfl ?_
  refine x_istore_n [(2, .int (0 : Int32)), (0, .ref b), (1, .int a1)] C dX12_writeName_1 rfl (by decide) rfl ?_
  refine x_sub [(0, .ref b), (1, .int a1), (2, .int (0 : Int32))] [1, 2, 0] rfl ?_
  exact h_L2 10000 ν (0 : Int32) _ _ hw hS hF
noncomputable def g_X12_writeStatement_L32 (ν : Mm) (a1 : Int32) : Nat → Mm → Int32 → Option (Int32 × Mm)
  | 0, _, _ => none
  | n + 1, μ0, x2 => (if (μ0.1 1 2) ≤ x2 then asr (OkR (μ0.1 1)) (asr (vp_in a1 8) (bnd (some (f_X12_balanceOf μ0 a1)) (fun q17 => bnd (g_X12_writeNumber μ0 q17) (fun q20 => bnd (g_X12_write q20 (10 : Int32)) (fun q22 => some (q22.1 0 21, q22)))))) else asr (OkR (μ0.1 1)) (asr (vp_in x2 60) (bnd (some (f_X12_shipOf μ0 x2)) (fun q26 => (if q26 = a1 then bnd (g_X12_writeShort μ0 x2) (fun q30 => (g_X12_writeStatement_L32 ν a1 n q30 (x2 + (1 : Int32)))) else (g_X12_writeStatement_L32 ν a1 n μ0 (x2 + (1 : Int32))))))))
noncomputable def g_X12_writeStatement (ν : Mm) (a1 : Int32) : Option (Int32 × Mm) := bnd (some (f_X12_isShip ν a1)) (fun q1 => bnd (some (f_X12_passes ν q1)) (fun q4 => (if q4.1 = true then bnd (some (uI q4.2 0 21 (0 : Int32))) (fun μ8 => bnd (g_X12_writeName μ8 a1) (fun q10 => bnd (g_X12_write q10 (10 : Int32)) (fun q12 => (g_X12_writeStatement_L32 ν a1 10000 q12 (0 : Int32))))) else some ((0 : Int32), q4.2))))
set_option maxRecDepth 20000 in
set_option maxHeartbeats 4000000 in
theorem k_X12_writeStatement (l : Launch) (D : va_G) (cA : Nat → ClassId) (s0 : State) (z : Nat) (b : Nat) (ν : Mm) (sz : Nat) (hG : xG l D cA s0) (a1 : Int32) (r : Int32 × Mm) (hF : g_X12_writeStatement ν a1 = some r) : Met l yX12_writeStatement (wsG yX12_writeStatement cX12_writeStatement 3 (some (FieldType.int))) { frames := 5, cells := 0, slots := 0, locals := 113 } (xP D cA s0 [.ref b, .int a1] (fun H => H.size = sz ∧ RX D cA s0 z b ν H)) (xQm (some (.int r.1)) (fun H => RX D cA s0 z b r.2 H) (xA b 8 sz)) 0 0 (xA b 8 sz) := by
  refine x_start (own := RX12) [(0, .ref b), (1, .int a1)] rfl rfl (by decide) (nb rfl) ?_
  intro p e s m args below meth c C hw
  obtain ⟨hsz, hw⟩ := hw
  subst hsz
  have hS : va_S (xA b 8 s.heap.size) s.heap s.heap [] := va_S.rf
  have h_L32 : ∀ (n : Nat) (μ0 : Mm) (x2 : Int32) (H : Heap) (locs : List Loc) (hw : RX D cA s0 z b μ0 H) (hS : va_S (xA b 8 s.heap.size) s.heap H locs), g_X12_writeStatement_L32 ν a1 n μ0 x2 = some r → xW p l e { frames := 5, cells := 0, slots := 0, locals := 113 } s m args below meth c 3 (MQ below (xQm (some (.int r.1)) (fun H => RX D cA s0 z b r.2 H) (xA b 8 s.heap.size)) args s 0 0 (xA b 8 s.heap.size)) H locs 0 0 32 [(0, .ref b), (1, .int a1), (2, .int x2)] [] := by
    intro n
    induction n with
    | zero =>
      intro μ0 x2 H locs hw hS hF
      exact no_some hF
    | succ n ih =>
      intro μ0 x2 H locs hw hS hF
      have ih32 := ih
      refine x_iload_n C dX12_writeStatement_32 rfl ?_
      refine x_aload_n C dX12_writeStatement_33 rfl ?_
      refine x_get (.ref (b + 1)) C fl_X12_17 (M_obj hw.2.2.2.2) rfl dX12_writeStatement_34 ?_
      refine x_iconst (2 : Int32) C dX12_writeStatement_37 rfl ?_
      refine x_ialdN C (M_a1 hw.2.2.2.2) (ixl (x := (2 : Int32)) 2 rfl) (by decide) (by decide) dX12_writeStatement_38 ?_
      refine x_icmp_ge 62 C dX12_writeStatement_39 (by decide) (fun c14 => ?_) (fun c14 => ?_)
      · have hF := ite_t hF c14
        refine x_aload_n C dX12_writeStatement_62 rfl ?_
        refine x_aload_n C dX12_writeStatement_63 rfl ?_
        refine x_iload_n C dX12_writeStatement_64 rfl ?_
        obtain ⟨h15, hF⟩ := asr_e hF
        obtain ⟨h16, hF⟩ := asr_e hF
        obtain ⟨q17, hq18, hF⟩ := bnd_e hF
        have hq18 := Option.some.inj hq18
        have K19 := c_X12_balanceOf l D cA s0 b μ0 h15 a1 h16
        rw [hq18] at K19
        refine x_goR (fun ls h => x_runV (As := [.int a1]) [.ref b] h C ml_X12_389 K19 ⟨rfl, rfl, nb rfl, nb rfl⟩ rfl (M_obj hw.2.2.2.2) rfl hw.2.2.2.2 (nb rfl) ⟨Nat.zero_le _, Nat.zero_le _⟩ dX12_writeStatement_65) ?_
        obtain ⟨q20, hq21, hF⟩ := bnd_e hF
        refine x_goM (fun ls h => x_runV (As := [.long q17]) [] h C ml_X12_453 (k_X12_writeNumber l D cA s0 z b μ0 _ hG q17 q20 hq21) ⟨rfl, rfl, nb rfl, nb rfl⟩ rfl (M_obj hw.2.2.2.2) rfl ⟨rfl, hw⟩ (nb rfl) ⟨Nat.zero_le _, Nat.zero_le _⟩ dX12_writeStatement_68) hS (xA_le hS) (fun H locs hw hz hk hS => ?_)
        have hw : RX D cA s0 z b q20 H := hw
        refine x_aload_n C dX12_writeStatement_71 rfl ?_
        refine x_bipush (10 : Int32) C dX12_writeStatement_72 rfl ?_
        obtain ⟨q22, hq23, hF⟩ := bnd_e hF
        refine x_goM (fun ls h => x_runV (As := [.int (10 : Int32)]) [] h C ml_X12_448 (k_X12_write l D cA s0 z b q20 _ hG (10 : Int32) q22 hq23) ⟨rfl, rfl, nb rfl, nb rfl⟩ rfl (M_obj hw.2.2.2.2) rfl ⟨rfl, hw⟩ (nb rfl) ⟨Nat.zero_le _, Nat.zero_le _⟩ dX12_writeStatement_74) hS (xA_le hS) (fun H locs hw hz hk hS => ?_)
        have hw : RX D cA s0 z b q22 H := hw
        refine x_aload_n C dX12_writeStatement_77 rfl ?_
        refine x_get (.int (q22.1 0 21)) C fl_X12_445 (M_obj hw.2.2.2.2) rfl dX12_writeStatement_78 ?_
        exact x_iretM2 C rfl dX12_writeStatement_81  (rm_i hF) (rm_m (W := fun m => RX D cA s0 z b m _) hF hw) hS (nb rfl) (nb rfl)
      · have hF := ite_f hF c14
        refine x_aload_n C dX12_writeStatement_42 rfl ?_
        refine x_iload_n C dX12_writeStatement_43 rfl ?_
        obtain ⟨h24, hF⟩ := asr_e hF
        obtain ⟨h25, hF⟩ := asr_e hF
        obtain ⟨q26, hq27, hF⟩ := bnd_e hF
        have hq27 := Option.some.inj hq27
        have K28 := c_X12_shipOf l D cA s0 b μ0 h24 x2 h25
        rw [hq27] at K28
        refine x_goR (fun ls h => x_runV (As := [.int x2]) [] h C ml_X12_368 K28 ⟨rfl, rfl, nb rfl, nb rfl⟩ rfl (M_obj hw.2.2.2.2) rfl hw.2.2.2.2 (nb rfl) ⟨Nat.zero_le _, Nat.zero_le _⟩ dX12_writeStatement_44) ?_
        refine x_iload_n C dX12_writeStatement_47 rfl ?_
        refine x_icmp_ne 56 C dX12_writeStatement_48 (by decide) (fun c29 => ?_) (fun c29 => ?_)
        · have hF := ite_f hF c29
          refine x_iinc (x2 + (1 : Int32)) [(2, .int (x2 + (1 : Int32))), (0, .ref b), (1, .int a1)] C dX12_writeStatement_56 rfl rfl (by decide) rfl ?_
          refine x_goto 32 C dX12_writeStatement_59 (by decide) ?_
          refine x_sub [(0, .ref b), (1, .int a1), (2, .int (x2 + (1 : Int32)))] [1, 2, 0] rfl ?_
          exact ih32 μ0 (x2 + (1 : Int32)) _ _ hw hS hF
        · have hF := ite_t hF c29
          refine x_aload_n C dX12_writeStatement_51 rfl ?_
          refine x_iload_n C dX12_writeStatement_52 rfl ?_
          obtain ⟨q30, hq31, hF⟩ := bnd_e hF
          refine x_goM (fun ls h => x_runV (As := [.int x2]) [] h C ml_X12_460 (k_X12_writeShort l D cA s0 z b μ0 _ hG x2 q30 hq31) ⟨rfl, rfl, nb rfl, nb rfl⟩ rfl (M_obj hw.2.2.2.2) rfl ⟨rfl, hw⟩ (nb rfl) ⟨Nat.zero_le _, Nat.zero_le _⟩ dX12_writeStatement_53) hS (xA_le hS) (fun H locs hw hz hk hS => ?_)
          have hw : RX D cA s0 z b q30 H := hw
          refine x_iinc (x2 + (1 : Int32)) [(2, .int (x2 + (1 : Int32))), (0, .ref b), (1, .int a1)] C dX12_writeStatement_56 rfl rfl (by decide) rfl ?_
          refine x_goto 32 C dX12_writeStatement_59 (by decide) ?_
          refine x_sub [(0, .ref b), (1, .int a1), (2, .int (x2 + (1 : Int32)))] [1, 2, 0] rfl ?_
          exact ih32 q30 (x2 + (1 : Int32)) _ _ hw hS hF
  refine x_aload_n C dX12_writeStatement_0 rfl ?_
  refine x_aload_n C dX12_writeStatement_1 rfl ?_
  refine x_iload_n C dX12_writeStatement_2 rfl ?_
  obtain ⟨q1, hq2, hF⟩ := bnd_e hF
  have hq2 := Option.some.inj hq2
  have K3 := c_X12_isShip l D cA s0 b ν a1 
  rw [hq2] at K3
  refine x_goR (fun ls h => x_runV (As := [.int a1]) [.ref b] h C ml_X12_282 K3 ⟨rfl, rfl, nb rfl, nb rfl⟩ rfl (M_obj hw.2.2.2.2) rfl hw.2.2.2.2 (nb rfl) ⟨Nat.zero_le _, Nat.zero_le _⟩ dX12_writeStatement_3) ?_
  obtain ⟨q4, hq5, hF⟩ := bnd_e hF
  have hq5 := Option.some.inj hq5
  have K6 := c_X12_passes l D cA s0 b ν s.heap.size q1 
  rw [hq5] at K6
  have hwo := hw
  refine x_goM (fun ls h => x_runV (As := [.int (bI q1)]) [] h C ml_X12_62 K6 ⟨rfl, rfl, nb rfl, nb rfl⟩ rfl (M_obj hw.2.2.2.2) rfl ⟨rfl, hw.2.2.2.2⟩ (nb rfl) ⟨Nat.zero_le _, Nat.zero_le _⟩ dX12_writeStatement_6) hS (xA_le hS) (fun H locs hw hz hk hS => ?_)
  have hw : RX D cA s0 z b q4.2 H := RX.of hwo hw hz hk
  refine x_ifB_ne 14 C dX12_writeStatement_9 (by decide) (fun c7 => ?_) (fun c7 => ?_)
  · have hF := ite_t hF c7
    refine x_aload_n C dX12_writeStatement_14 rfl ?_
    refine x_iconst (0 : Int32) C dX12_writeStatement_15 rfl ?_
    refine m_putI (kk0 := 21) C fl_X12_445 hw rfl rfl rfl rfl (nb rfl) dX12_writeStatement_16 hS (fun H locs hw hS => ?_)
    obtain ⟨μ8, hm9, hF⟩ := bnd_e hF
    have hw : RX D cA s0 z b μ8 H := rv_m (W := fun m => RX D cA s0 z b m _) hm9 hw
    refine x_aload_n C dX12_writeStatement_19 rfl ?_
    refine x_iload_n C dX12_writeStatement_20 rfl ?_
    obtain ⟨q10, hq11, hF⟩ := bnd_e hF
    refine x_goM (fun ls h => x_runV (As := [.int a1]) [] h C ml_X12_457 (k_X12_writeName l D cA s0 z b μ8 _ hG a1 q10 hq11) ⟨rfl, rfl, nb rfl, nb rfl⟩ rfl (M_obj hw.2.2.2.2) rfl ⟨rfl, hw⟩ (nb rfl) ⟨Nat.zero_le _, Nat.zero_le _⟩ dX12_writeStatement_21) hS (xA_le hS) (fun H locs hw hz hk hS => ?_)
    have hw : RX D cA s0 z b q10 H := hw
    refine x_aload_n C dX12_writeStatement_24 rfl ?_
    refine x_bipush (10 : Int32) C dX12_writeStatement_25 rfl ?_
    obtain ⟨q12, hq13, hF⟩ := bnd_e hF
    refine x_goM (fun ls h => x_runV (As := [.int (10 : Int32)]) [] h C ml_X12_448 (k_X12_write l D cA s0 z b q10 _ hG (10 : Int32) q12 hq13) ⟨rfl, rfl, nb rfl, nb rfl⟩ rfl (M_obj hw.2.2.2.2) rfl ⟨rfl, hw⟩ (nb rfl) ⟨Nat.zero_le _, Nat.zero_le _⟩ dX12_writeStatement_27) hS (xA_le hS) (fun H locs hw hz hk hS => ?_)
    have hw : RX D cA s0 z b q12 H := hw
    refine x_iconst (0 : Int32) C dX12_writeStatement_30 rfl ?_
    refine x_istore_n [(2, .int (0 : Int32)), (0, .ref b), (1, .int a1)] C dX12_writeStatement_31 rfl (by decide) rfl ?_
    refine x_sub [(0, .ref b), (1, .int a1), (2, .int (0 : Int32))] [1, 2, 0] rfl ?_
    exact h_L32 10000 q12 (0 : Int32) _ _ hw hS hF
  · have hF := ite_f hF (nbt c7)
    refine x_iconst (0 : Int32) C dX12_writeStatement_12 rfl ?_
    exact x_iretM2 C rfl dX12_writeStatement_13  (rm_i hF) (rm_m (W := fun m => RX D cA s0 z b m _) hF hw) hS (nb rfl) (nb rfl)
