noncomputable def g_X12_setCall (ν : Mm) (a1 : Int32) (a2 : Int32) (a3 : Int32) : Option (Mm) := asr (vp_in (((330 : Int32) + ((7 : Int32) * a1)) + a2) 1377) (bnd (some (uI ν 1 (cl (((330 : Int32) + ((7 : Int32) * a1)) + a2)) a3)) (fun μ4 => some μ4))
set_option maxRecDepth 20000 in
set_option maxHeartbeats 4000000 in
theorem k_X12_setCall (l : Launch) (D : va_G) (cA : Nat → ClassId) (s0 : State) (z : Nat) (b : Nat) (ν : Mm) (sz : Nat) (hG : xG l D cA s0) (a1 : Int32) (a2 : Int32) (a3 : Int32) (r : Mm) (hF : g_X12_setCall ν a1 a2 a3 = some r) : Met l yX12_setCall (wsG yX12_setCall cX12_setCall 4 none) { frames := 0, cells := 0, slots := 0, locals := 0 } (xP D cA s0 [.ref b, .int a1, .int a2, .int a3] (fun H => H.size = sz ∧ RX D cA s0 z b ν H)) (xQm none (fun H => RX D cA s0 z b r H) (xA b 8 sz)) 0 0 (xA b 8 sz) := by
  refine x_start (own := RX12) [(0, .ref b), (1, .int a1), (2, .int a2), (3, .int a3)] rfl rfl (by decide) (nb rfl) ?_
  intro p e s m args below meth c C hw
  obtain ⟨hsz, hw⟩ := hw
  subst hsz
  have hS : va_S (xA b 8 s.heap.size) s.heap s.heap [] := va_S.rf
  refine x_aload_n C dX12_setCall_0 rfl ?_
  refine x_get (.ref (b + 1)) C fl_X12_17 (M_obj hw.2.2.2.2) rfl dX12_setCall_1 ?_
  refine x_sipush (330 : Int32) C dX12_setCall_4 rfl ?_
  refine x_bipush (7 : Int32) C dX12_setCall_7 rfl ?_
  refine x_iload_n C dX12_setCall_9 rfl ?_
  refine x_imul C dX12_setCall_10 ?_
  refine x_iadd C dX12_setCall_11 ?_
  refine x_iload_n C dX12_setCall_12 rfl ?_
  refine x_iadd C dX12_setCall_13 ?_
  refine x_iload_n C dX12_setCall_14 rfl ?_
  obtain ⟨h1, hF⟩ := asr_e hF
  obtain ⟨hn2, hl3⟩ := vpn h1 (by decide)
  refine m_iast 1 C hw (by decide) (fun _ => rfl) hn2 hl3 (by decide) dX12_setCall_15 hS (fun H locs hw hS => ?_)
  obtain ⟨μ4, hm5, hF⟩ := bnd_e hF
  have hw : RX D cA s0 z b μ4 H := rv_m (W := fun m => RX D cA s0 z b m _) hm5 hw
  exact x_vretM2 C rfl dX12_setCall_16 rfl (rv_m (W := fun m => RX D cA s0 z b m _) hF hw) hS (nb rfl) (nb rfl)
noncomputable def g_X12_appendFour_L3 (ν : Mm) (a1 : Int32) : Nat → Mm → Int32 → Option (Mm)
  | 0, _, _ => none
  | n + 1, μ0, x2 => (if x2 < 0 then some μ0 else asr (vp_in (μ0.1 0 6) 800) (bnd (some (uI μ0 4 (cl (μ0.1 0 6)) (vp_nar .byte ((a1 >>> (x2 &&& 31)).toInt8.toInt32)))) (fun μ5 => bnd (some (uI μ5 0 6 ((μ5.1 0 6) + (1 : Int32)))) (fun μ7 => (g_X12_appendFour_L3 ν a1 n μ7 (x2 + (-8 : Int32)))))))
noncomputable def g_X12_appendFour (ν : Mm) (a1 : Int32) : Option (Mm) := (g_X12_appendFour_L3 ν a1 10000 ν (24 : Int32))
set_option maxRecDepth 20000 in
set_option maxHeartbeats 4000000 in
theorem k_X12_appendFour (l : Launch) (D : va_G) (cA : Nat → ClassId) (s0 : State) (z : Nat) (b : Nat) (ν : Mm) (sz : Nat) (hG : xG l D cA s0) (a1 : Int32) (r : Mm) (hF : g_X12_appendFour ν a1 = some r) : Met l yX12_appendFour (wsG yX12_appendFour cX12_appendFour 3 none) { frames := 0, cells := 0, slots := 0, locals := 0 } (xP D cA s0 [.ref b, .int a1] (fun H => H.size = sz ∧ RX D cA s0 z b ν H)) (xQm none (fun H => RX D cA s0 z b r H) (xA b 8 sz)) 0 0 (xA b 8 sz) := by
  refine x_start (own := RX12) [(0, .ref b), (1, .int a1)] rfl rfl (by decide) (nb rfl) ?_
  intro p e s m args below meth c C hw
  obtain ⟨hsz, hw⟩ := hw
  subst hsz
  have hS : va_S (xA b 8 s.heap.size) s.heap s.heap [] := va_S.rf
  have h_L3 : ∀ (n : Nat) (μ0 : Mm) (x2 : Int32) (H : Heap) (locs : List Loc) (hw : RX D cA s0 z b μ0 H) (hS : va_S (xA b 8 s.heap.size) s.heap H locs), g_X12_appendFour_L3 ν a1 n μ0 x2 = some r → xW p l e { frames := 0, cells := 0, slots := 0, locals := 0 } s m args below meth c 3 (MQ below (xQm none (fun H => RX D cA s0 z b r H) (xA b 8 s.heap.size)) args s 0 0 (xA b 8 s.heap.size)) H locs 0 0 3 [(0, .ref b), (1, .int a1), (2, .int x2)] [] := by
    intro n
    induction n with
    | zero =>
      intro μ0 x2 H locs hw hS hF
      exact no_some hF
    | succ n ih =>
      intro μ0 x2 H locs hw hS hF
      have ih3 := ih
      refine x_iload_n C dX12_appendFour_3 rfl ?_
      refine x_if_lt 36 C dX12_appendFour_4 (by decide) (fun c1 => ?_) (fun c1 => ?_)
      · have hF := ite_t hF c1
        exact x_vretM2 C rfl dX12_appendFour_36 rfl (rv_m (W := fun m => RX D cA s0 z b m _) hF hw) hS (nb rfl) (nb rfl)
      · have hF := ite_f hF c1
        refine x_aload_n C dX12_appendFour_7 rfl ?_
        refine x_get (.ref (b + 4)) C fl_X12_31 (M_obj hw.2.2.2.2) rfl dX12_appendFour_8 ?_
        refine x_aload_n C dX12_appendFour_11 rfl ?_
        refine x_get (.int (μ0.1 0 6)) C fl_X12_59 (M_obj hw.2.2.2.2) rfl dX12_appendFour_12 ?_
        refine x_iload_n C dX12_appendFour_15 rfl ?_
        refine x_iload_n C dX12_appendFour_16 rfl ?_
        refine x_ishr C dX12_appendFour_17 ?_
        refine x_i2b C dX12_appendFour_18 ?_
        obtain ⟨h2, hF⟩ := asr_e hF
        obtain ⟨hn3, hl4⟩ := vpn h2 (by decide)
        refine m_bast 4 C hw (by decide) (fun _ => rfl) hn3 hl4 (by decide) dX12_appendFour_19 hS (fun H locs hw hS => ?_)
        obtain ⟨μ5, hm6, hF⟩ := bnd_e hF
        have hw : RX D cA s0 z b μ5 H := rv_m (W := fun m => RX D cA s0 z b m _) hm6 hw
        refine x_aload_n C dX12_appendFour_20 rfl ?_
        refine x_dup C dX12_appendFour_21 rfl ?_
        refine x_get (.int (μ5.1 0 6)) C fl_X12_59 (M_obj hw.2.2.2.2) rfl dX12_appendFour_22 ?_
        refine x_iconst (1 : Int32) C dX12_appendFour_25 rfl ?_
        refine x_iadd C dX12_appendFour_26 ?_
        refine m_putI (kk0 := 6) C fl_X12_59 hw rfl rfl rfl rfl (nb rfl) dX12_appendFour_27 hS (fun H locs hw hS => ?_)
        obtain ⟨μ7, hm8, hF⟩ := bnd_e hF
        have hw : RX D cA s0 z b μ7 H := rv_m (W := fun m => RX D cA s0 z b m _) hm8 hw
        refine x_iinc (x2 + (-8 : Int32)) [(2, .int (x2 + (-8 : Int32))), (0, .ref b), (1, .int a1)] C dX12_appendFour_30 rfl rfl (by decide) rfl ?_
        refine x_goto 3 C dX12_appendFour_33 (by decide) ?_
        refine x_sub [(0, .ref b), (1, .int a1), (2, .int (x2 + (-8 : Int32)))] [1, 2, 0] rfl ?_
        exact ih3 μ7 (x2 + (-8 : Int32)) _ _ hw hS hF
  refine x_bipush (24 : Int32) C dX12_appendFour_0 rfl ?_
  refine x_istore_n [(2, .int (24 : Int32)), (0, .ref b), (1, .int a1)] C dX12_appendFour_2 rfl (by decide) rfl ?_
  refine x_sub [(0, .ref b), (1, .int a1), (2, .int (24 : Int32))] [1, 2, 0] rfl ?_
  exact h_L3 10000 ν (24 : Int32) _ _ hw hS hF
noncomputable def g_X12_append_J19 (ν : Mm) (a1 : Int32) (a2 : Int32) (a3 : Int32) (a4 : Int32) (a5 : Int32) (μ0 : Mm) (y0 : Bool) : Option (Int32 × Mm) := bnd (some (f_X12_passes μ0 y0)) (fun q2 => (if q2.1 = true then bnd (g_X12_appendFour q2.2 a1) (fun q6 => bnd (g_X12_appendFour q6 a2) (fun q8 => bnd (g_X12_appendFour q8 a3) (fun q10 => bnd (g_X12_appendFour q10 a4) (fun q12 => bnd (g_X12_appendFour q12 a5) (fun q14 => some (q14.1 0 6, q14)))))) else some ((0 : Int32), q2.2)))
noncomputable def g_X12_append (ν : Mm) (a1 : Int32) (a2 : Int32) (a3 : Int32) (a4 : Int32) (a5 : Int32) : Option (Int32 × Mm) := (if (800 : Int32) < ((ν.1 0 6) + (20 : Int32)) then (g_X12_append_J19 ν a1 a2 a3 a4 a5 ν false) else (g_X12_append_J19 ν a1 a2 a3 a4 a5 ν true))
set_option maxRecDepth 20000 in
set_option maxHeartbeats 4000000 in
theorem k_X12_append (l : Launch) (D : va_G) (cA : Nat → ClassId) (s0 : State) (z : Nat) (b : Nat) (ν : Mm) (sz : Nat) (hG : xG l D cA s0) (a1 : Int32) (a2 : Int32) (a3 : Int32) (a4 : Int32) (a5 : Int32) (r : Int32 × Mm) (hF : g_X12_append ν a1 a2 a3 a4 a5 = some r) : Met l yX12_append (wsG yX12_append cX12_append 6 (some (FieldType.int))) { frames := 2, cells := 0, slots := 0, locals := 44 } (xP D cA s0 [.ref b, .int a1, .int a2, .int a3, .int a4, .int a5] (fun H => H.size = sz ∧ RX D cA s0 z b ν H)) (xQm (some (.int r.1)) (fun H => RX D cA s0 z b r.2 H) (xA b 8 sz)) 0 0 (xA b 8 sz) := by
  refine x_start (own := RX12) [(0, .ref b), (1, .int a1), (2, .int a2), (3, .int a3), (4, .int a4), (5, .int a5)] rfl rfl (by decide) (nb rfl) ?_
  intro p e s m args below meth c C hw
  obtain ⟨hsz, hw⟩ := hw
  subst hsz
  have hS : va_S (xA b 8 s.heap.size) s.heap s.heap [] := va_S.rf
  have h_J19 : ∀ (μ0 : Mm) (y0 : Bool) (H : Heap) (locs : List Loc) (hw : RX D cA s0 z b μ0 H) (hS : va_S (xA b 8 s.heap.size) s.heap H locs), g_X12_append_J19 ν a1 a2 a3 a4 a5 μ0 y0 = some r → xW p l e { frames := 2, cells := 0, slots := 0, locals := 44 } s m args below meth c 6 (MQ below (xQm (some (.int r.1)) (fun H => RX D cA s0 z b r.2 H) (xA b 8 s.heap.size)) args s 0 0 (xA b 8 s.heap.size)) H locs 0 0 19 [(0, .ref b), (1, .int a1), (2, .int a2), (3, .int a3), (4, .int a4), (5, .int a5)] [.int (bI y0), .ref b] := by
    intro μ0 y0 H locs hw hS hF
    obtain ⟨q2, hq3, hF⟩ := bnd_e hF
    have hq3 := Option.some.inj hq3
    have K4 := c_X12_passes l D cA s0 b μ0 H.size y0 
    rw [hq3] at K4
    have hwo := hw
    refine x_goM (fun ls h => x_runV (As := [.int (bI y0)]) [] h C ml_X12_62 K4 ⟨rfl, rfl, nb rfl, nb rfl⟩ rfl (M_obj hw.2.2.2.2) rfl ⟨rfl, hw.2.2.2.2⟩ (nb rfl) ⟨Nat.zero_le _, Nat.zero_le _⟩ dX12_append_19) hS (xA_le hS) (fun H locs hw hz hk hS => ?_)
    have hw : RX D cA s0 z b q2.2 H := RX.of hwo hw hz hk
    refine x_ifB_ne 27 C dX12_append_22 (by decide) (fun c5 => ?_) (fun c5 => ?_)
    · have hF := ite_t hF c5
      refine x_aload_n C dX12_append_27 rfl ?_
      refine x_iload_n C dX12_append_28 rfl ?_
      obtain ⟨q6, hq7, hF⟩ := bnd_e hF
      refine x_goM (fun ls h => x_runV (As := [.int a1]) [] h C ml_X12_66 (k_X12_appendFour l D cA s0 z b q2.2 _ hG a1 q6 hq7) ⟨rfl, rfl, nb rfl, nb rfl⟩ rfl (M_obj hw.2.2.2.2) rfl ⟨rfl, hw⟩ (nb rfl) ⟨Nat.zero_le _, Nat.zero_le _⟩ dX12_append_29) hS (xA_le hS) (fun H locs hw hz hk hS => ?_)
      have hw : RX D cA s0 z b q6 H := hw
      refine x_aload_n C dX12_append_32 rfl ?_
      refine x_iload_n C dX12_append_33 rfl ?_
      obtain ⟨q8, hq9, hF⟩ := bnd_e hF
      refine x_goM (fun ls h => x_runV (As := [.int a2]) [] h C ml_X12_66 (k_X12_appendFour l D cA s0 z b q6 _ hG a2 q8 hq9) ⟨rfl, rfl, nb rfl, nb rfl⟩ rfl (M_obj hw.2.2.2.2) rfl ⟨rfl, hw⟩ (nb rfl) ⟨Nat.zero_le _, Nat.zero_le _⟩ dX12_append_34) hS (xA_le hS) (fun H locs hw hz hk hS => ?_)
      have hw : RX D cA s0 z b q8 H := hw
      refine x_aload_n C dX12_append_37 rfl ?_
      refine x_iload_n C dX12_append_38 rfl ?_
      obtain ⟨q10, hq11, hF⟩ := bnd_e hF
      refine x_goM (fun ls h => x_runV (As := [.int a3]) [] h C ml_X12_66 (k_X12_appendFour l D cA s0 z b q8 _ hG a3 q10 hq11) ⟨rfl, rfl, nb rfl, nb rfl⟩ rfl (M_obj hw.2.2.2.2) rfl ⟨rfl, hw⟩ (nb rfl) ⟨Nat.zero_le _, Nat.zero_le _⟩ dX12_append_39) hS (xA_le hS) (fun H locs hw hz hk hS => ?_)
      have hw : RX D cA s0 z b q10 H := hw
      refine x_aload_n C dX12_append_42 rfl ?_
      refine x_iload C dX12_append_43 rfl ?_
      obtain ⟨q12, hq13, hF⟩ := bnd_e hF
      refine x_goM (fun ls h => x_runV (As := [.int a4]) [] h C ml_X12_66 (k_X12_appendFour l D cA s0 z b q10 _ hG a4 q12 hq13) ⟨rfl, rfl, nb rfl, nb rfl⟩ rfl (M_obj hw.2.2.2.2) rfl ⟨rfl, hw⟩ (nb rfl) ⟨Nat.zero_le _, Nat.zero_le _⟩ dX12_append_45) hS (xA_le hS) (fun H locs hw hz hk hS => ?_)
      have hw : RX D cA s0 z b q12 H := hw
      refine x_aload_n C dX12_append_48 rfl ?_
      refine x_iload C dX12_append_49 rfl ?_
      obtain ⟨q14, hq15, hF⟩ := bnd_e hF
      refine x_goM (fun ls h => x_runV (As := [.int a5]) [] h C ml_X12_66 (k_X12_appendFour l D cA s0 z b q12 _ hG a5 q14 hq15) ⟨rfl, rfl, nb rfl, nb rfl⟩ rfl (M_obj hw.2.2.2.2) rfl ⟨rfl, hw⟩ (nb rfl) ⟨Nat.zero_le _, Nat.zero_le _⟩ dX12_append_51) hS (xA_le hS) (fun H locs hw hz hk hS => ?_)
      have hw : RX D cA s0 z b q14 H := hw
      refine x_aload_n C dX12_append_54 rfl ?_
      refine x_get (.int (q14.1 0 6)) C fl_X12_59 (M_obj hw.2.2.2.2) rfl dX12_append_55 ?_
      exact x_iretM2 C rfl dX12_append_58  (rm_i hF) (rm_m (W := fun m => RX D cA s0 z b m _) hF hw) hS (nb rfl) (nb rfl)
    · have hF := ite_f hF (nbt c5)
      refine x_iconst (0 : Int32) C dX12_append_25 rfl ?_
      exact x_iretM2 C rfl dX12_append_26  (rm_i hF) (rm_m (W := fun m => RX D cA s0 z b m _) hF hw) hS (nb rfl) (nb rfl)
  refine x_aload_n C dX12_append_0 rfl ?_
  refine x_aload_n C dX12_append_1 rfl ?_
  refine x_get (.int (ν.1 0 6)) C fl_X12_59 (M_obj hw.2.2.2.2) rfl dX12_append_2 ?_
  refine x_bipush (20 : Int32) C dX12_append_5 rfl ?_
  refine x_iadd C dX12_append_7 ?_
  refine x_sipush (800 : Int32) C dX12_append_8 rfl ?_
  refine x_icmp_gt 18 C dX12_append_11 (by decide) (fun c1 => ?_) (fun c1 => ?_)
  · have hF := ite_t hF c1
    refine x_iconst (0 : Int32) C dX12_append_18 rfl ?_
    exact h_J19 ν false _ _ hw hS hF
  · have hF := ite_f hF c1
    refine x_iconst (1 : Int32) C dX12_append_14 rfl ?_
    refine x_goto 19 C dX12_append_15 (by decide) ?_
    exact h_J19 ν true _ _ hw hS hF
noncomputable def g_X12_truncate (ν : Mm) (a1 : Int32) : Option (Mm) := bnd (some (f_X12_in a1.toInt64 (0 : Int64) ((ν.1 0 6).toInt64))) (fun q1 => bnd (some (f_X12_passes ν q1)) (fun q4 => (if q4.1 = true then bnd (some (uI q4.2 0 6 a1)) (fun μ8 => some μ8) else some q4.2)))
set_option maxRecDepth 20000 in
set_option maxHeartbeats 4000000 in
theorem k_X12_truncate (l : Launch) (D : va_G) (cA : Nat → ClassId) (s0 : State) (z : Nat) (b : Nat) (ν : Mm) (sz : Nat) (hG : xG l D cA s0) (a1 : Int32) (r : Mm) (hF : g_X12_truncate ν a1 = some r) : Met l yX12_truncate (wsG yX12_truncate cX12_truncate 2 none) { frames := 2, cells := 0, slots := 0, locals := 44 } (xP D cA s0 [.ref b, .int a1] (fun H => H.size = sz ∧ RX D cA s0 z b ν H)) (xQm none (fun H => RX D cA s0 z b r H) (xA b 8 sz)) 0 0 (xA b 8 sz) := by
  refine x_start (own := RX12) [(0, .ref b), (1, .int a1)] rfl rfl (by decide) (nb rfl) ?_
  intro p e s m args below meth c C hw
  obtain ⟨hsz, hw⟩ := hw
  subst hsz
  have hS : va_S (xA b 8 s.heap.size) s.heap s.heap [] := va_S.rf
  refine x_aload_n C dX12_truncate_0 rfl ?_
  refine x_iload_n C dX12_truncate_1 rfl ?_
  refine x_i2l C dX12_truncate_2 ?_
  refine x_lconst (0 : Int64) C dX12_truncate_3 rfl ?_
  refine x_aload_n C dX12_truncate_4 rfl ?_
  refine x_get (.int (ν.1 0 6)) C fl_X12_59 (M_obj hw.2.2.2.2) rfl dX12_truncate_5 ?_
  refine x_i2l C dX12_truncate_8 ?_
  obtain ⟨q1, hq2, hF⟩ := bnd_e hF
  have hq2 := Option.some.inj hq2
  have K3 := c_X12_in l D cA s0 a1.toInt64 (0 : Int64) ((ν.1 0 6).toInt64) 
  rw [hq2] at K3
  refine x_goR (fun ls h => x_runS (As := [.long a1.toInt64, .long (0 : Int64), .long ((ν.1 0 6).toInt64)]) [.ref b] h C ml_X12_47 K3 ⟨rfl, rfl, nb rfl, nb rfl⟩ rfl trivial (nb rfl) ⟨Nat.zero_le _, Nat.zero_le _⟩ dX12_truncate_9) ?_
  obtain ⟨q4, hq5, hF⟩ := bnd_e hF
  have hq5 := Option.some.inj hq5
  have K6 := c_X12_passes l D cA s0 b ν s.heap.size q1 
  rw [hq5] at K6
  have hwo := hw
  refine x_goM (fun ls h => x_runV (As := [.int (bI q1)]) [] h C ml_X12_62 K6 ⟨rfl, rfl, nb rfl, nb rfl⟩ rfl (M_obj hw.2.2.2.2) rfl ⟨rfl, hw.2.2.2.2⟩ (nb rfl) ⟨Nat.zero_le _, Nat.zero_le _⟩ dX12_truncate_12) hS (xA_le hS) (fun H locs hw hz hk hS => ?_)
  have hw : RX D cA s0 z b q4.2 H := RX.of hwo hw hz hk
  refine x_ifB_eq 23 C dX12_truncate_15 (by decide) (fun c7 => ?_) (fun c7 => ?_)
  · have hF := ite_f hF (nbt c7)
    exact x_vretM2 C rfl dX12_truncate_23 rfl (rv_m (W := fun m => RX D cA s0 z b m _) hF hw) hS (nb rfl) (nb rfl)
  · have hF := ite_t hF c7
    refine x_aload_n C dX12_truncate_18 rfl ?_
    refine x_iload_n C dX12_truncate_19 rfl ?_
    refine m_putI (kk0 := 6) C fl_X12_59 hw rfl rfl rfl rfl (nb rfl) dX12_truncate_20 hS (fun H locs hw hS => ?_)
    obtain ⟨μ8, hm9, hF⟩ := bnd_e hF
    have hw : RX D cA s0 z b μ8 H := rv_m (W := fun m => RX D cA s0 z b m _) hm9 hw
    exact x_vretM2 C rfl dX12_truncate_23 rfl (rv_m (W := fun m => RX D cA s0 z b m _) hF hw) hS (nb rfl) (nb rfl)
noncomputable def g_X12_errs (ν : Mm) (a1 : Int32) : Option (Mm) := bnd (some (f_X12_good ν)) (fun q1 => (if q1 = true then bnd (some (uI ν 0 12 a1)) (fun μ5 => bnd (some (uI μ5 0 13 (μ5.1 0 9))) (fun μ7 => some μ7)) else some ν))
set_option maxRecDepth 20000 in
set_option maxHeartbeats 4000000 in
theorem k_X12_errs (l : Launch) (D : va_G) (cA : Nat → ClassId) (s0 : State) (z : Nat) (b : Nat) (ν : Mm) (sz : Nat) (hG : xG l D cA s0) (a1 : Int32) (r : Mm) (hF : g_X12_errs ν a1 = some r) : Met l yX12_errs (wsG yX12_errs cX12_errs 2 none) { frames := 1, cells := 0, slots := 0, locals := 20 } (xP D cA s0 [.ref b, .int a1] (fun H => H.size = sz ∧ RX D cA s0 z b ν H)) (xQm none (fun H => RX D cA s0 z b r H) (xA b 8 sz)) 0 0 (xA b 8 sz) := by
  refine x_start (own := RX12) [(0, .ref b), (1, .int a1)] rfl rfl (by decide) (nb rfl) ?_
  intro p e s m args below meth c C hw
  obtain ⟨hsz, hw⟩ := hw
  subst hsz
  have hS : va_S (xA b 8 s.heap.size) s.heap s.heap [] := va_S.rf
  refine x_aload_n C dX12_errs_0 rfl ?_
  obtain ⟨q1, hq2, hF⟩ := bnd_e hF
  have hq2 := Option.some.inj hq2
  have K3 := c_X12_good l D cA s0 b ν 
  rw [hq2] at K3
  refine x_goR (fun ls h => x_runV (As := []) [] h C ml_X12_73 K3 ⟨rfl, rfl, nb rfl, nb rfl⟩ rfl (M_obj hw.2.2.2.2) rfl hw.2.2.2.2 (nb rfl) ⟨Nat.zero_le _, Nat.zero_le _⟩ dX12_errs_1) ?_
  refine x_ifB_ne 8 C dX12_errs_4 (by decide) (fun c4 => ?_) (fun c4 => ?_)
  · have hF := ite_t hF c4
    refine x_aload_n C dX12_errs_8 rfl ?_
    refine x_iload_n C dX12_errs_9 rfl ?_
    refine m_putI (kk0 := 12) C fl_X12_70 hw rfl rfl rfl rfl (nb rfl) dX12_errs_10 hS (fun H locs hw hS => ?_)
    obtain ⟨μ5, hm6, hF⟩ := bnd_e hF
    have hw : RX D cA s0 z b μ5 H := rv_m (W := fun m => RX D cA s0 z b m _) hm6 hw
    refine x_aload_n C dX12_errs_13 rfl ?_
    refine x_aload_n C dX12_errs_14 rfl ?_
    refine x_get (.int (μ5.1 0 9)) C fl_X12_77 (M_obj hw.2.2.2.2) rfl dX12_errs_15 ?_
    refine m_putI (kk0 := 13) C fl_X12_35 hw rfl rfl rfl rfl (nb rfl) dX12_errs_18 hS (fun H locs hw hS => ?_)
    obtain ⟨μ7, hm8, hF⟩ := bnd_e hF
    have hw : RX D cA s0 z b μ7 H := rv_m (W := fun m => RX D cA s0 z b m _) hm8 hw
    exact x_vretM2 C rfl dX12_errs_21 rfl (rv_m (W := fun m => RX D cA s0 z b m _) hF hw) hS (nb rfl) (nb rfl)
  · have hF := ite_f hF (nbt c4)
    exact x_vretM2 C rfl dX12_errs_7 rfl (rv_m (W := fun m => RX D cA s0 z b m _) hF hw) hS (nb rfl) (nb rfl)
noncomputable def g_X12_byteAt (ν : Mm) (a1 : Int32) : Option (Int32) := (if (ν.1 0 7) ≤ a1 then some (-1 : Int32) else asr (vp_in a1 800) (some ((ν.1 4 (cl a1)) &&& (255 : Int32))))
set_option maxRecDepth 20000 in
set_option maxHeartbeats 4000000 in
theorem k_X12_byteAt (l : Launch) (D : va_G) (cA : Nat → ClassId) (s0 : State) (z : Nat) (b : Nat) (ν : Mm) (hG : xG l D cA s0) (a1 : Int32) (r : Int32) (hF : g_X12_byteAt ν a1 = some r) : Met l yX12_byteAt (wsG yX12_byteAt cX12_byteAt 2 (some (FieldType.int))) { frames := 0, cells := 0, slots := 0, locals := 0 } (xP D cA s0 [.ref b, .int a1] (RX D cA s0 z b ν)) (xQr (some (.int r))) 0 0 xN := by
  refine x_start (own := RX12) [(0, .ref b), (1, .int a1)] rfl rfl (by decide) (nb rfl) ?_
  intro p e s m args below meth c C hw
  refine x_iload_n C dX12_byteAt_0 rfl ?_
  refine x_aload_n C dX12_byteAt_1 rfl ?_
  refine x_get (.int (ν.1 0 7)) C fl_X12_80 (M_obj hw.2.2.2.2) rfl dX12_byteAt_2 ?_
  refine x_icmp_ge 21 C dX12_byteAt_5 (by decide) (fun c1 => ?_) (fun c1 => ?_)
  · have hF := ite_t hF c1
    refine x_iconst (-1 : Int32) C dX12_byteAt_21 rfl ?_
    exact x_iretR C rfl dX12_byteAt_22  (r_i hF)
  · have hF := ite_f hF c1
    refine x_aload_n C dX12_byteAt_8 rfl ?_
    refine x_get (.ref (b + 4)) C fl_X12_31 (M_obj hw.2.2.2.2) rfl dX12_byteAt_9 ?_
    refine x_iload_n C dX12_byteAt_12 rfl ?_
    obtain ⟨h2, hF⟩ := asr_e hF
    obtain ⟨hn3, hl4⟩ := vpn h2 (by decide)
    refine x_baldN C (M_a4 hw.2.2.2.2) hn3 hl4 (by decide) dX12_byteAt_13 ?_
    refine x_sipush (255 : Int32) C dX12_byteAt_14 rfl ?_
    refine x_iand C dX12_byteAt_17 ?_
    refine x_goto 22 C dX12_byteAt_18 (by decide) ?_
    exact x_iretR C rfl dX12_byteAt_22  (r_i hF)
noncomputable def g_X12_scan_L144 (ν : Mm) : Nat → Mm → Option (Mm)
  | 0, _ => none
  | n + 1, μ0 => bnd (g_X12_byteAt μ0 (μ0.1 0 8)) (fun q30 => bnd (some (f_X12_in q30.toInt64 (48 : Int64) (57 : Int64))) (fun q32 => (if q32 = true then bnd (g_X12_byteAt μ0 (μ0.1 0 8)) (fun q38 => bnd (some (uI μ0 0 11 (imin (99999 : Int32) ((((10 : Int32) * (μ0.1 0 11)) + q38) - (48 : Int32))))) (fun μ40 => bnd (some (uI μ40 0 8 ((μ40.1 0 8) + (1 : Int32)))) (fun μ42 => (g_X12_scan_L144 ν n μ42)))) else bnd (some (uI μ0 0 10 (2 : Int32))) (fun μ36 => some μ36))))
noncomputable def g_X12_scan_L83 (ν : Mm) : Nat → Mm → Option (Mm)
  | 0, _ => none
  | n + 1, μ0 => bnd (g_X12_byteAt μ0 (μ0.1 0 8)) (fun q44 => bnd (some (f_X12_in q44.toInt64 (97 : Int64) (122 : Int64))) (fun q46 => (if q46 = true then bnd (some (uI μ0 0 8 ((μ0.1 0 8) + (1 : Int32)))) (fun μ52 => (g_X12_scan_L83 ν n μ52)) else bnd (some (uI μ0 0 10 (1 : Int32))) (fun μ50 => some μ50))))
noncomputable def g_X12_scan_L0 (ν : Mm) : Nat → Mm → Option (Mm)
  | 0, _ => none
  | n + 1, μ0 => bnd (g_X12_byteAt μ0 (μ0.1 0 8)) (fun q1 => (if q1 = (32 : Int32) then bnd (some (uI μ0 0 8 ((μ0.1 0 8) + (1 : Int32)))) (fun μ4 => (g_X12_scan_L0 ν n μ4)) else bnd (g_X12_byteAt μ0 (μ0.1 0 8)) (fun q6 => (if q6 = (10 : Int32) then bnd (some (uI μ0 0 8 ((μ0.1 0 8) + (1 : Int32)))) (fun μ56 => (g_X12_scan_L0 ν n μ56)) else bnd (some (uI μ0 0 9 (μ0.1 0 8))) (fun μ9 => bnd (g_X12_byteAt μ9 (μ9.1 0 8)) (fun q11 => (if q11 = (-1 : Int32) then bnd (some (uI μ9 0 10 (0 : Int32))) (fun μ54 => some μ54) else bnd (some (f_X12_in q11.toInt64 (97 : Int64) (122 : Int64))) (fun q14 => (if q14 = true then (g_X12_scan_L83 ν 10000 μ9) else bnd (some (f_X12_in q11.toInt64 (48 : Int64) (57 : Int64))) (fun q18 => (if q18 = true then bnd (some (uI μ9 0 11 (0 : Int32))) (fun μ28 => (g_X12_scan_L144 ν 10000 μ28)) else bnd (some (uI μ9 0 10 (3 : Int32))) (fun μ22 => bnd (some (uI μ22 0 11 q11)) (fun μ24 => bnd (some (uI μ24 0 8 ((μ24.1 0 8) + (1 : Int32)))) (fun μ26 => some μ26))))))))))))))
noncomputable def g_X12_scan (ν : Mm) : Option (Mm) := (g_X12_scan_L0 ν 10000 ν)
set_option maxRecDepth 20000 in
set_option maxHeartbeats 4000000 in
theorem k_X12_scan (l : Launch) (D : va_G) (cA : Nat → ClassId) (s0 : State) (z : Nat) (b : Nat) (ν : Mm) (sz : Nat) (hG : xG l D cA s0) (r : Mm) (hF : g_X12_scan ν = some r) : Met l yX12_scan (wsG yX12_scan cX12_scan 2 none) { frames := 1, cells := 0, slots := 0, locals := 25 } (xP D cA s0 [.ref b] (fun H => H.size = sz ∧ RX D cA s0 z b ν H)) (xQm none (fun H => RX D cA s0 z b r H) (xA b 8 sz)) 0 0 (xA b 8 sz) := by
  refine x_start (own := RX12) [(0, .ref b)] rfl rfl (by decide) (nb rfl) ?_
  intro p e s m args below meth c C hw
  obtain ⟨hsz, hw⟩ := hw
  subst hsz
  have hS : va_S (xA b 8 s.heap.size) s.heap s.heap [] := va_S.rf
  have h_L144 : ∀ (n : Nat) (μ0 : Mm) (H : Heap) (locs : List Loc) (hw : RX D cA s0 z b μ0 H) (hS : va_S (xA b 8 s.heap.size) s.heap H locs), g_X12_scan_L144 ν n μ0 = some r → xW p l e { frames := 1, cells := 0, slots := 0, locals := 25 } s m args below meth c 2 (MQ below (xQm none (fun H => RX D cA s0 z b r H) (xA b 8 s.heap.size)) args s 0 0 (xA b 8 s.heap.size)) H locs 0 0 144 [(0, .ref b)] [] := by
    intro n
    induction n with
    | zero =>
      intro μ0 H locs hw hS hF
      exact no_some hF
    | succ n ih =>
      intro μ0 H locs hw hS hF
      have ih144 := ih
      refine x_aload_n C dX12_scan_144 rfl ?_
      refine x_aload_n C dX12_scan_145 rfl ?_
      refine x_get (.int (μ0.1 0 8)) C fl_X12_83 (M_obj hw.2.2.2.2) rfl dX12_scan_146 ?_
      obtain ⟨q30, hq31, hF⟩ := bnd_e hF
      refine x_goR (fun ls h => x_runV (As := [.int (μ0.1 0 8)]) [] h C ml_X12_86 (k_X12_byteAt l D cA s0 z b μ0 hG (μ0.1 0 8) q30 hq31) ⟨rfl, rfl, nb rfl, nb rfl⟩ rfl (M_obj hw.2.2.2.2) rfl hw (nb rfl) ⟨Nat.zero_le _, Nat.zero_le _⟩ dX12_scan_149) ?_
      refine x_i2l C dX12_scan_152 ?_
      refine x_ldc2 (48 : Int64) C cl_X12_97 dX12_scan_153 ?_
      refine x_ldc2 (57 : Int64) C cl_X12_99 dX12_scan_156 ?_
      obtain ⟨q32, hq33, hF⟩ := bnd_e hF
      have hq33 := Option.some.inj hq33
      have K34 := c_X12_in l D cA s0 q30.toInt64 (48 : Int64) (57 : Int64) 
      rw [hq33] at K34
      refine x_goR (fun ls h => x_runS (As := [.long q30.toInt64, .long (48 : Int64), .long (57 : Int64)]) [] h C ml_X12_47 K34 ⟨rfl, rfl, nb rfl, nb rfl⟩ rfl trivial (nb rfl) ⟨Nat.zero_le _, Nat.zero_le _⟩ dX12_scan_159) ?_
      refine x_ifB_eq 206 C dX12_scan_162 (by decide) (fun c35 => ?_) (fun c35 => ?_)
      · have hF := ite_f hF (nbt c35)
        refine x_aload_n C dX12_scan_206 rfl ?_
        refine x_iconst (2 : Int32) C dX12_scan_207 rfl ?_
        refine m_putI (kk0 := 10) C fl_X12_90 hw rfl rfl rfl rfl (nb rfl) dX12_scan_208 hS (fun H locs hw hS => ?_)
        obtain ⟨μ36, hm37, hF⟩ := bnd_e hF
        have hw : RX D cA s0 z b μ36 H := rv_m (W := fun m => RX D cA s0 z b m _) hm37 hw
        refine x_goto 234 C dX12_scan_211 (by decide) ?_
        exact x_vretM2 C rfl dX12_scan_234 rfl (rv_m (W := fun m => RX D cA s0 z b m _) hF hw) hS (nb rfl) (nb rfl)
      · have hF := ite_t hF c35
        refine x_aload_n C dX12_scan_165 rfl ?_
        refine x_ldc (99999 : Int32) C co_X12_104 dX12_scan_166 ?_
        refine x_bipush (10 : Int32) C dX12_scan_168 rfl ?_
        refine x_aload_n C dX12_scan_170 rfl ?_
        refine x_get (.int (μ0.1 0 11)) C fl_X12_101 (M_obj hw.2.2.2.2) rfl dX12_scan_171 ?_
        refine x_imul C dX12_scan_174 ?_
        refine x_aload_n C dX12_scan_175 rfl ?_
        refine x_aload_n C dX12_scan_176 rfl ?_
        refine x_get (.int (μ0.1 0 8)) C fl_X12_83 (M_obj hw.2.2.2.2) rfl dX12_scan_177 ?_
        obtain ⟨q38, hq39, hF⟩ := bnd_e hF
        refine x_goR (fun ls h => x_runV (As := [.int (μ0.1 0 8)]) [.int ((10 : Int32) * (μ0.1 0 11)), .int (99999 : Int32), .ref b] h C ml_X12_86 (k_X12_byteAt l D cA s0 z b μ0 hG (μ0.1 0 8) q38 hq39) ⟨rfl, rfl, nb rfl, nb rfl⟩ rfl (M_obj hw.2.2.2.2) rfl hw (nb rfl) ⟨Nat.zero_le _, Nat.zero_le _⟩ dX12_scan_180) ?_
        refine x_iadd C dX12_scan_183 ?_
        refine x_bipush (48 : Int32) C dX12_scan_184 rfl ?_
        refine x_isub C dX12_scan_186 ?_
        refine x_mmin C ml_X12_105 (nb rfl) (nb rfl) ⟨Nat.zero_le _, Nat.zero_le _⟩ dX12_scan_187 ?_
        refine m_putI (kk0 := 11) C fl_X12_101 hw rfl rfl rfl rfl (nb rfl) dX12_scan_190 hS (fun H locs hw hS => ?_)
        obtain ⟨μ40, hm41, hF⟩ := bnd_e hF
        have hw : RX D cA s0 z b μ40 H := rv_m (W := fun m => RX D cA s0 z b m _) hm41 hw
        refine x_aload_n C dX12_scan_193 rfl ?_
        refine x_dup C dX12_scan_194 rfl ?_
        refine x_get (.int (μ40.1 0 8)) C fl_X12_83 (M_obj hw.2.2.2.2) rfl dX12_scan_195 ?_
        refine x_iconst (1 : Int32) C dX12_scan_198 rfl ?_
        refine x_iadd C dX12_scan_199 ?_
        refine m_putI (kk0 := 8) C fl_X12_83 hw rfl rfl rfl rfl (nb rfl) dX12_scan_200 hS (fun H locs hw hS => ?_)
        obtain ⟨μ42, hm43, hF⟩ := bnd_e hF
        have hw : RX D cA s0 z b μ42 H := rv_m (W := fun m => RX D cA s0 z b m _) hm43 hw
        refine x_goto 144 C dX12_scan_203 (by decide) ?_
        exact ih144 μ42 _ _ hw hS hF
  have h_L83 : ∀ (n : Nat) (μ0 : Mm) (H : Heap) (locs : List Loc) (hw : RX D cA s0 z b μ0 H) (hS : va_S (xA b 8 s.heap.size) s.heap H locs), g_X12_scan_L83 ν n μ0 = some r → xW p l e { frames := 1, cells := 0, slots := 0, locals := 25 } s m args below meth c 2 (MQ below (xQm none (fun H => RX D cA s0 z b r H) (xA b 8 s.heap.size)) args s 0 0 (xA b 8 s.heap.size)) H locs 0 0 83 [(0, .ref b)] [] := by
    intro n
    induction n with
    | zero =>
      intro μ0 H locs hw hS hF
      exact no_some hF
    | succ n ih =>
      intro μ0 H locs hw hS hF
      have ih83 := ih
      refine x_aload_n C dX12_scan_83 rfl ?_
      refine x_aload_n C dX12_scan_84 rfl ?_
      refine x_get (.int (μ0.1 0 8)) C fl_X12_83 (M_obj hw.2.2.2.2) rfl dX12_scan_85 ?_
      obtain ⟨q44, hq45, hF⟩ := bnd_e hF
      refine x_goR (fun ls h => x_runV (As := [.int (μ0.1 0 8)]) [] h C ml_X12_86 (k_X12_byteAt l D cA s0 z b μ0 hG (μ0.1 0 8) q44 hq45) ⟨rfl, rfl, nb rfl, nb rfl⟩ rfl (M_obj hw.2.2.2.2) rfl hw (nb rfl) ⟨Nat.zero_le _, Nat.zero_le _⟩ dX12_scan_88) ?_
      refine x_i2l C dX12_scan_91 ?_
      refine x_ldc2 (97 : Int64) C cl_X12_93 dX12_scan_92 ?_
      refine x_ldc2 (122 : Int64) C cl_X12_95 dX12_scan_95 ?_
      obtain ⟨q46, hq47, hF⟩ := bnd_e hF
      have hq47 := Option.some.inj hq47
      have K48 := c_X12_in l D cA s0 q44.toInt64 (97 : Int64) (122 : Int64) 
      rw [hq47] at K48
      refine x_goR (fun ls h => x_runS (As := [.long q44.toInt64, .long (97 : Int64), .long (122 : Int64)]) [] h C ml_X12_47 K48 ⟨rfl, rfl, nb rfl, nb rfl⟩ rfl trivial (nb rfl) ⟨Nat.zero_le _, Nat.zero_le _⟩ dX12_scan_98) ?_
      refine x_ifB_eq 117 C dX12_scan_101 (by decide) (fun c49 => ?_) (fun c49 => ?_)
      · have hF := ite_f hF (nbt c49)
        refine x_aload_n C dX12_scan_117 rfl ?_
        refine x_iconst (1 : Int32) C dX12_scan_118 rfl ?_
        refine m_putI (kk0 := 10) C fl_X12_90 hw rfl rfl rfl rfl (nb rfl) dX12_scan_119 hS (fun H locs hw hS => ?_)
        obtain ⟨μ50, hm51, hF⟩ := bnd_e hF
        have hw : RX D cA s0 z b μ50 H := rv_m (W := fun m => RX D cA s0 z b m _) hm51 hw
        refine x_goto 234 C dX12_scan_122 (by decide) ?_
        exact x_vretM2 C rfl dX12_scan_234 rfl (rv_m (W := fun m => RX D cA s0 z b m _) hF hw) hS (nb rfl) (nb rfl)
      · have hF := ite_t hF c49
        refine x_aload_n C dX12_scan_104 rfl ?_
        refine x_dup C dX12_scan_105 rfl ?_
        refine x_get (.int (μ0.1 0 8)) C fl_X12_83 (M_obj hw.2.2.2.2) rfl dX12_scan_106 ?_
        refine x_iconst (1 : Int32) C dX12_scan_109 rfl ?_
        refine x_iadd C dX12_scan_110 ?_
        refine m_putI (kk0 := 8) C fl_X12_83 hw rfl rfl rfl rfl (nb rfl) dX12_scan_111 hS (fun H locs hw hS => ?_)
        obtain ⟨μ52, hm53, hF⟩ := bnd_e hF
        have hw : RX D cA s0 z b μ52 H := rv_m (W := fun m => RX D cA s0 z b m _) hm53 hw
        refine x_goto 83 C dX12_scan_114 (by decide) ?_
        exact ih83 μ52 _ _ hw hS hF
  have h_L0 : ∀ (n : Nat) (μ0 : Mm) (H : Heap) (locs : List Loc) (hw : RX D cA s0 z b μ0 H) (hS : va_S (xA b 8 s.heap.size) s.heap H locs), g_X12_scan_L0 ν n μ0 = some r → xW p l e { frames := 1, cells := 0, slots := 0, locals := 25 } s m args below meth c 2 (MQ below (xQm none (fun H => RX D cA s0 z b r H) (xA b 8 s.heap.size)) args s 0 0 (xA b 8 s.heap.size)) H locs 0 0 0 [(0, .ref b)] [] := by
    intro n
    induction n with
    | zero =>
      intro μ0 H locs hw hS hF
      exact no_some hF
    | succ n ih =>
      intro μ0 H locs hw hS hF
      have ih0 := ih
      refine x_aload_n C dX12_scan_0 rfl ?_
      refine x_aload_n C dX12_scan_1 rfl ?_
      refine x_get (.int (μ0.1 0 8)) C fl_X12_83 (M_obj hw.2.2.2.2) rfl dX12_scan_2 ?_
      obtain ⟨q1, hq2, hF⟩ := bnd_e hF
      refine x_goR (fun ls h => x_runV (As := [.int (μ0.1 0 8)]) [] h C ml_X12_86 (k_X12_byteAt l D cA s0 z b μ0 hG (μ0.1 0 8) q1 hq2) ⟨rfl, rfl, nb rfl, nb rfl⟩ rfl (M_obj hw.2.2.2.2) rfl hw (nb rfl) ⟨Nat.zero_le _, Nat.zero_le _⟩ dX12_scan_5) ?_
      refine x_bipush (32 : Int32) C dX12_scan_8 rfl ?_
      refine x_icmp_eq 26 C dX12_scan_10 (by decide) (fun c3 => ?_) (fun c3 => ?_)
      · have hF := ite_t hF c3
        refine x_aload_n C dX12_scan_26 rfl ?_
        refine x_dup C dX12_scan_27 rfl ?_
        refine x_get (.int (μ0.1 0 8)) C fl_X12_83 (M_obj hw.2.2.2.2) rfl dX12_scan_28 ?_
        refine x_iconst (1 : Int32) C dX12_scan_31 rfl ?_
        refine x_iadd C dX12_scan_32 ?_
        refine m_putI (kk0 := 8) C fl_X12_83 hw rfl rfl rfl rfl (nb rfl) dX12_scan_33 hS (fun H locs hw hS => ?_)
        obtain ⟨μ4, hm5, hF⟩ := bnd_e hF
        have hw : RX D cA s0 z b μ4 H := rv_m (W := fun m => RX D cA s0 z b m _) hm5 hw
        refine x_goto 0 C dX12_scan_36 (by decide) ?_
        exact ih0 μ4 _ _ hw hS hF
      · have hF := ite_f hF c3
        refine x_aload_n C dX12_scan_13 rfl ?_
        refine x_aload_n C dX12_scan_14 rfl ?_
        refine x_get (.int (μ0.1 0 8)) C fl_X12_83 (M_obj hw.2.2.2.2) rfl dX12_scan_15 ?_
        obtain ⟨q6, hq7, hF⟩ := bnd_e hF
        refine x_goR (fun ls h => x_runV (As := [.int (μ0.1 0 8)]) [] h C ml_X12_86 (k_X12_byteAt l D cA s0 z b μ0 hG (μ0.1 0 8) q6 hq7) ⟨rfl, rfl, nb rfl, nb rfl⟩ rfl (M_obj hw.2.2.2.2) rfl hw (nb rfl) ⟨Nat.zero_le _, Nat.zero_le _⟩ dX12_scan_18) ?_
        refine x_bipush (10 : Int32) C dX12_scan_21 rfl ?_
        refine x_icmp_ne 39 C dX12_scan_23 (by decide) (fun c8 => ?_) (fun c8 => ?_)
        · have hF := ite_f hF c8
          refine x_aload_n C dX12_scan_39 rfl ?_
          refine x_aload_n C dX12_scan_40 rfl ?_
          refine x_get (.int (μ0.1 0 8)) C fl_X12_83 (M_obj hw.2.2.2.2) rfl dX12_scan_41 ?_
          refine m_putI (kk0 := 9) C fl_X12_77 hw rfl rfl rfl rfl (nb rfl) dX12_scan_44 hS (fun H locs hw hS => ?_)
          obtain ⟨μ9, hm10, hF⟩ := bnd_e hF
          have hw : RX D cA s0 z b μ9 H := rv_m (W := fun m => RX D cA s0 z b m _) hm10 hw
          refine x_aload_n C dX12_scan_47 rfl ?_
          refine x_aload_n C dX12_scan_48 rfl ?_
          refine x_get (.int (μ9.1 0 8)) C fl_X12_83 (M_obj hw.2.2.2.2) rfl dX12_scan_49 ?_
          obtain ⟨q11, hq12, hF⟩ := bnd_e hF
          refine x_goR (fun ls h => x_runV (As := [.int (μ9.1 0 8)]) [] h C ml_X12_86 (k_X12_byteAt l D cA s0 z b μ9 hG (μ9.1 0 8) q11 hq12) ⟨rfl, rfl, nb rfl, nb rfl⟩ rfl (M_obj hw.2.2.2.2) rfl hw (nb rfl) ⟨Nat.zero_le _, Nat.zero_le _⟩ dX12_scan_52) ?_
          refine x_istore_n [(1, .int q11), (0, .ref b)] C dX12_scan_55 rfl (by decide) rfl ?_
          refine x_iload_n C dX12_scan_56 rfl ?_
          refine x_iconst (-1 : Int32) C dX12_scan_57 rfl ?_
          refine x_icmp_ne 69 C dX12_scan_58 (by decide) (fun c13 => ?_) (fun c13 => ?_)
          · have hF := ite_f hF c13
            refine x_iload_n C dX12_scan_69 rfl ?_
            refine x_i2l C dX12_scan_70 ?_
            refine x_ldc2 (97 : Int64) C cl_X12_93 dX12_scan_71 ?_
            refine x_ldc2 (122 : Int64) C cl_X12_95 dX12_scan_74 ?_
            obtain ⟨q14, hq15, hF⟩ := bnd_e hF
            have hq15 := Option.some.inj hq15
            have K16 := c_X12_in l D cA s0 q11.toInt64 (97 : Int64) (122 : Int64) 
            rw [hq15] at K16
            refine x_goR (fun ls h => x_runS (As := [.long q11.toInt64, .long (97 : Int64), .long (122 : Int64)]) [] h C ml_X12_47 K16 ⟨rfl, rfl, nb rfl, nb rfl⟩ rfl trivial (nb rfl) ⟨Nat.zero_le _, Nat.zero_le _⟩ dX12_scan_77) ?_
            refine x_ifB_eq 125 C dX12_scan_80 (by decide) (fun c17 => ?_) (fun c17 => ?_)
            · have hF := ite_f hF (nbt c17)
              refine x_iload_n C dX12_scan_125 rfl ?_
              refine x_i2l C dX12_scan_126 ?_
              refine x_ldc2 (48 : Int64) C cl_X12_97 dX12_scan_127 ?_
              refine x_ldc2 (57 : Int64) C cl_X12_99 dX12_scan_130 ?_
              obtain ⟨q18, hq19, hF⟩ := bnd_e hF
              have hq19 := Option.some.inj hq19
              have K20 := c_X12_in l D cA s0 q11.toInt64 (48 : Int64) (57 : Int64) 
              rw [hq19] at K20
              refine x_goR (fun ls h => x_runS (As := [.long q11.toInt64, .long (48 : Int64), .long (57 : Int64)]) [] h C ml_X12_47 K20 ⟨rfl, rfl, nb rfl, nb rfl⟩ rfl trivial (nb rfl) ⟨Nat.zero_le _, Nat.zero_le _⟩ dX12_scan_133) ?_
              refine x_ifB_eq 214 C dX12_scan_136 (by decide) (fun c21 => ?_) (fun c21 => ?_)
              · have hF := ite_f hF (nbt c21)
                refine x_aload_n C dX12_scan_214 rfl ?_
                refine x_iconst (3 : Int32) C dX12_scan_215 rfl ?_
                refine m_putI (kk0 := 10) C fl_X12_90 hw rfl rfl rfl rfl (nb rfl) dX12_scan_216 hS (fun H locs hw hS => ?_)
                obtain ⟨μ22, hm23, hF⟩ := bnd_e hF
                have hw : RX D cA s0 z b μ22 H := rv_m (W := fun m => RX D cA s0 z b m _) hm23 hw
                refine x_aload_n C dX12_scan_219 rfl ?_
                refine x_iload_n C dX12_scan_220 rfl ?_
                refine m_putI (kk0 := 11) C fl_X12_101 hw rfl rfl rfl rfl (nb rfl) dX12_scan_221 hS (fun H locs hw hS => ?_)
                obtain ⟨μ24, hm25, hF⟩ := bnd_e hF
                have hw : RX D cA s0 z b μ24 H := rv_m (W := fun m => RX D cA s0 z b m _) hm25 hw
                refine x_aload_n C dX12_scan_224 rfl ?_
                refine x_dup C dX12_scan_225 rfl ?_
                refine x_get (.int (μ24.1 0 8)) C fl_X12_83 (M_obj hw.2.2.2.2) rfl dX12_scan_226 ?_
                refine x_iconst (1 : Int32) C dX12_scan_229 rfl ?_
                refine x_iadd C dX12_scan_230 ?_
                refine m_putI (kk0 := 8) C fl_X12_83 hw rfl rfl rfl rfl (nb rfl) dX12_scan_231 hS (fun H locs hw hS => ?_)
                obtain ⟨μ26, hm27, hF⟩ := bnd_e hF
                have hw : RX D cA s0 z b μ26 H := rv_m (W := fun m => RX D cA s0 z b m _) hm27 hw
                exact x_vretM2 C rfl dX12_scan_234 rfl (rv_m (W := fun m => RX D cA s0 z b m _) hF hw) hS (nb rfl) (nb rfl)
              · have hF := ite_t hF c21
                refine x_aload_n C dX12_scan_139 rfl ?_
                refine x_iconst (0 : Int32) C dX12_scan_140 rfl ?_
                refine m_putI (kk0 := 11) C fl_X12_101 hw rfl rfl rfl rfl (nb rfl) dX12_scan_141 hS (fun H locs hw hS => ?_)
                obtain ⟨μ28, hm29, hF⟩ := bnd_e hF
                have hw : RX D cA s0 z b μ28 H := rv_m (W := fun m => RX D cA s0 z b m _) hm29 hw
                refine x_sub [(0, .ref b)] [1] rfl ?_
                exact h_L144 10000 μ28 _ _ hw hS hF
            · have hF := ite_t hF c17
              refine x_sub [(0, .ref b)] [1] rfl ?_
              exact h_L83 10000 μ9 _ _ hw hS hF
          · have hF := ite_t hF c13
            refine x_aload_n C dX12_scan_61 rfl ?_
            refine x_iconst (0 : Int32) C dX12_scan_62 rfl ?_
            refine m_putI (kk0 := 10) C fl_X12_90 hw rfl rfl rfl rfl (nb rfl) dX12_scan_63 hS (fun H locs hw hS => ?_)
            obtain ⟨μ54, hm55, hF⟩ := bnd_e hF
            have hw : RX D cA s0 z b μ54 H := rv_m (W := fun m => RX D cA s0 z b m _) hm55 hw
            refine x_goto 234 C dX12_scan_66 (by decide) ?_
            exact x_vretM2 C rfl dX12_scan_234 rfl (rv_m (W := fun m => RX D cA s0 z b m _) hF hw) hS (nb rfl) (nb rfl)
        · have hF := ite_t hF c8
          refine x_aload_n C dX12_scan_26 rfl ?_
          refine x_dup C dX12_scan_27 rfl ?_
          refine x_get (.int (μ0.1 0 8)) C fl_X12_83 (M_obj hw.2.2.2.2) rfl dX12_scan_28 ?_
          refine x_iconst (1 : Int32) C dX12_scan_31 rfl ?_
          refine x_iadd C dX12_scan_32 ?_
          refine m_putI (kk0 := 8) C fl_X12_83 hw rfl rfl rfl rfl (nb rfl) dX12_scan_33 hS (fun H locs hw hS => ?_)
          obtain ⟨μ56, hm57, hF⟩ := bnd_e hF
          have hw : RX D cA s0 z b μ56 H := rv_m (W := fun m => RX D cA s0 z b m _) hm57 hw
          refine x_goto 0 C dX12_scan_36 (by decide) ?_
          exact ih0 μ56 _ _ hw hS hF
  exact h_L0 10000 ν _ _ hw hS hF
noncomputable def g_X12_goOn (ν : Mm) : Option (Mm) := bnd (some (f_X12_good ν)) (fun q1 => (if q1 = true then bnd (g_X12_scan ν) (fun q5 => some q5) else some ν))
set_option maxRecDepth 20000 in
set_option maxHeartbeats 4000000 in
theorem k_X12_goOn (l : Launch) (D : va_G) (cA : Nat → ClassId) (s0 : State) (z : Nat) (b : Nat) (ν : Mm) (sz : Nat) (hG : xG l D cA s0) (r : Mm) (hF : g_X12_goOn ν = some r) : Met l yX12_goOn (wsG yX12_goOn cX12_goOn 1 none) { frames := 2, cells := 0, slots := 0, locals := 46 } (xP D cA s0 [.ref b] (fun H => H.size = sz ∧ RX D cA s0 z b ν H)) (xQm none (fun H => RX D cA s0 z b r H) (xA b 8 sz)) 0 0 (xA b 8 sz) := by
  refine x_start (own := RX12) [(0, .ref b)] rfl rfl (by decide) (nb rfl) ?_
  intro p e s m args below meth c C hw
  obtain ⟨hsz, hw⟩ := hw
  subst hsz
  have hS : va_S (xA b 8 s.heap.size) s.heap s.heap [] := va_S.rf
  refine x_aload_n C dX12_goOn_0 rfl ?_
  obtain ⟨q1, hq2, hF⟩ := bnd_e hF
  have hq2 := Option.some.inj hq2
  have K3 := c_X12_good l D cA s0 b ν 
  rw [hq2] at K3
  refine x_goR (fun ls h => x_runV (As := []) [] h C ml_X12_73 K3 ⟨rfl, rfl, nb rfl, nb rfl⟩ rfl (M_obj hw.2.2.2.2) rfl hw.2.2.2.2 (nb rfl) ⟨Nat.zero_le _, Nat.zero_le _⟩ dX12_goOn_1) ?_
  refine x_ifB_eq 11 C dX12_goOn_4 (by decide) (fun c4 => ?_) (fun c4 => ?_)
  · have hF := ite_f hF (nbt c4)
    exact x_vretM2 C rfl dX12_goOn_11 rfl (rv_m (W := fun m => RX D cA s0 z b m _) hF hw) hS (nb rfl) (nb rfl)
  · have hF := ite_t hF c4
    refine x_aload_n C dX12_goOn_7 rfl ?_
    obtain ⟨q5, hq6, hF⟩ := bnd_e hF
    refine x_goM (fun ls h => x_runV (As := []) [] h C ml_X12_111 (k_X12_scan l D cA s0 z b ν _ hG q5 hq6) ⟨rfl, rfl, nb rfl, nb rfl⟩ rfl (M_obj hw.2.2.2.2) rfl ⟨rfl, hw⟩ (nb rfl) ⟨Nat.zero_le _, Nat.zero_le _⟩ dX12_goOn_8) hS (xA_le hS) (fun H locs hw hz hk hS => ?_)
    have hw : RX D cA s0 z b q5 H := hw
    exact x_vretM2 C rfl dX12_goOn_11 rfl (rv_m (W := fun m => RX D cA s0 z b m _) hF hw) hS (nb rfl) (nb rfl)
noncomputable def g_X12_isWord_L24 (ν : Mm) (a1 : Nat) : Nat → Bool → Int32 → Option (Bool)
  | 0, _, _ => none
  | n + 1, x2, x3 => (if (nI (slen a1)) ≤ x3 then some x2 else (if x2 = true then asr (vp_in ((ν.1 0 9) + x3) 800) (asr (vp_in x3 (slen a1)) ((if (ν.1 4 (cl ((ν.1 0 9) + x3))) = (schar a1 (cl x3)) then (g_X12_isWord_L24 ν a1 n true (x3 + (1 : Int32))) else (g_X12_isWord_L24 ν a1 n false (x3 + (1 : Int32)))))) else some x2))
noncomputable def g_X12_isWord (ν : Mm) (a1 : Nat) : Option (Bool) := (if ((ν.1 0 8) - (ν.1 0 9)) = (nI (slen a1)) then (g_X12_isWord_L24 ν a1 10000 true (0 : Int32)) else (g_X12_isWord_L24 ν a1 10000 false (0 : Int32)))
set_option maxRecDepth 20000 in
set_option maxHeartbeats 4000000 in
theorem k_X12_isWord (l : Launch) (D : va_G) (cA : Nat → ClassId) (s0 : State) (z : Nat) (b : Nat) (ν : Mm) (hG : xG l D cA s0) (a1r : Nat) (a1 : Nat) (r : Bool) (hF : g_X12_isWord ν a1 = some r) : Met l yX12_isWord (wsG yX12_isWord cX12_isWord 4 (some (FieldType.boolean))) { frames := 4, cells := 0, slots := 0, locals := 85 } (xP D cA s0 [.ref b, .ref a1r] (fun H => RX D cA s0 z b ν H ∧ Str D cA s0 z a1r a1 H)) (xQr (some (.int (bI r)))) 0 0 xN := by
  refine x_start (own := RX12) [(0, .ref b), (1, .ref a1r)] rfl rfl (by decide) (nb rfl) ?_
  intro p e s m args below meth c C hw
  obtain ⟨hw, hst0_a1⟩ := hw
  have h_L24 : ∀ (n : Nat) (x2 : Bool) (x3 : Int32), g_X12_isWord_L24 ν a1 n x2 x3 = some r → xW p l e { frames := 4, cells := 0, slots := 0, locals := 85 } s m args below meth c 4 (MQ below (xQr (some (.int (bI r)))) args s 0 0 xN) s.heap [] 0 0 24 [(0, .ref b), (1, .ref a1r), (2, .int (bI x2)), (3, .int x3)] [] := by
    intro n
    induction n with
    | zero =>
      intro x2 x3 hF
      exact no_some hF
    | succ n ih =>
      intro x2 x3 hF
      have ih24 := ih
      refine x_iload_n C dX12_isWord_24 rfl ?_
      refine x_aload_n C dX12_isWord_25 rfl ?_
      have hx9 := hst0_a1
      obtain ⟨hk6, -, v7, -, hs8⟩ := hx9
      refine x_goR (fun ls h => x_runVS (As := []) [.int x3] h C ml_X12_114 (cJ_length l D cA s0 hG.2.2.1 a1r v7 a1) ⟨rfl, rfl, nb rfl, nb rfl⟩ rfl hs8 ⟨hw.2.2.2.1, hk6, hs8⟩ (nb rfl) ⟨Nat.zero_le _, Nat.zero_le _⟩ dX12_isWord_26) ?_
      refine x_icmp_ge 67 C dX12_isWord_29 (by decide) (fun c10 => ?_) (fun c10 => ?_)
      · have hF := ite_t hF c10
        refine x_iload_n C dX12_isWord_67 rfl ?_
        exact x_zretR C rfl dX12_isWord_68 (bI_nar _) (r_b hF)
      · have hF := ite_f hF c10
        refine x_iload_n C dX12_isWord_32 rfl ?_
        refine x_ifB_eq 67 C dX12_isWord_33 (by decide) (fun c11 => ?_) (fun c11 => ?_)
        · have hF := ite_f hF (nbt c11)
          refine x_iload_n C dX12_isWord_67 rfl ?_
          exact x_zretR C rfl dX12_isWord_68 (bI_nar _) (r_b hF)
        · have hF := ite_t hF c11
          refine x_aload_n C dX12_isWord_36 rfl ?_
          refine x_get (.ref (b + 4)) C fl_X12_31 (M_obj hw.2.2.2.2) rfl dX12_isWord_37 ?_
          refine x_aload_n C dX12_isWord_40 rfl ?_
          refine x_get (.int (ν.1 0 9)) C fl_X12_77 (M_obj hw.2.2.2.2) rfl dX12_isWord_41 ?_
          refine x_iload_n C dX12_isWord_44 rfl ?_
          refine x_iadd C dX12_isWord_45 ?_
          obtain ⟨h12, hF⟩ := asr_e hF
          obtain ⟨hn13, hl14⟩ := vpn h12 (by decide)
          refine x_baldN C (M_a4 hw.2.2.2.2) hn13 hl14 (by decide) dX12_isWord_46 ?_
          refine x_aload_n C dX12_isWord_47 rfl ?_
          refine x_iload_n C dX12_isWord_48 rfl ?_
          have hx18 := hst0_a1
          obtain ⟨hk15, -, v16, -, hs17⟩ := hx18
          obtain ⟨h19, hF⟩ := asr_e hF
          obtain ⟨hn20, hl21⟩ := vpn h19 slen_31
          refine x_topi (nI (cl x3)) hn20 ?_
          refine x_goR (fun ls h => x_runVS (As := [.int (nI (cl x3))]) [.int (ν.1 4 (cl ((ν.1 0 9) + x3)))] h C ml_X12_120 (cJ_charAt l D cA s0 hG.2.2.1 a1r v16 a1 (cl x3) hl21) ⟨rfl, rfl, nb rfl, nb rfl⟩ rfl hs17 ⟨hw.2.2.2.1, hk15, hs17⟩ (nb rfl) ⟨Nat.zero_le _, Nat.zero_le _⟩ dX12_isWord_49) ?_
          refine x_icmp_ne 59 C dX12_isWord_52 (by decide) (fun c22 => ?_) (fun c22 => ?_)
          · have hF := ite_f hF c22
            refine x_iconst (0 : Int32) C dX12_isWord_59 rfl ?_
            refine x_istore_n [(2, .int (0 : Int32)), (0, .ref b), (1, .ref a1r), (3, .int x3)] C dX12_isWord_60 rfl (by decide) rfl ?_
            refine x_iinc (x3 + (1 : Int32)) [(3, .int (x3 + (1 : Int32))), (2, .int (0 : Int32)), (0, .ref b), (1, .ref a1r)] C dX12_isWord_61 rfl rfl (by decide) rfl ?_
            refine x_goto 24 C dX12_isWord_64 (by decide) ?_
            refine x_sub [(0, .ref b), (1, .ref a1r), (2, .int (0 : Int32)), (3, .int (x3 + (1 : Int32)))] [2, 3, 1, 0] rfl ?_
            exact ih24 false (x3 + (1 : Int32)) hF
          · have hF := ite_t hF c22
            refine x_iconst (1 : Int32) C dX12_isWord_55 rfl ?_
            refine x_goto 60 C dX12_isWord_56 (by decide) ?_
            refine x_istore_n [(2, .int (1 : Int32)), (0, .ref b), (1, .ref a1r), (3, .int x3)] C dX12_isWord_60 rfl (by decide) rfl ?_
            refine x_iinc (x3 + (1 : Int32)) [(3, .int (x3 + (1 : Int32))), (2, .int (1 : Int32)), (0, .ref b), (1, .ref a1r)] C dX12_isWord_61 rfl rfl (by decide) rfl ?_
            refine x_goto 24 C dX12_isWord_64 (by decide) ?_
            refine x_sub [(0, .ref b), (1, .ref a1r), (2, .int (1 : Int32)), (3, .int (x3 + (1 : Int32)))] [2, 3, 1, 0] rfl ?_
            exact ih24 true (x3 + (1 : Int32)) hF
  refine x_aload_n C dX12_isWord_0 rfl ?_
  refine x_get (.int (ν.1 0 8)) C fl_X12_83 (M_obj hw.2.2.2.2) rfl dX12_isWord_1 ?_
  refine x_aload_n C dX12_isWord_4 rfl ?_
  refine x_get (.int (ν.1 0 9)) C fl_X12_77 (M_obj hw.2.2.2.2) rfl dX12_isWord_5 ?_
  refine x_isub C dX12_isWord_8 ?_
  refine x_aload_n C dX12_isWord_9 rfl ?_
  have hx4 := hst0_a1
  obtain ⟨hk1, -, v2, -, hs3⟩ := hx4
  refine x_goR (fun ls h => x_runVS (As := []) [.int ((ν.1 0 8) - (ν.1 0 9))] h C ml_X12_114 (cJ_length l D cA s0 hG.2.2.1 a1r v2 a1) ⟨rfl, rfl, nb rfl, nb rfl⟩ rfl hs3 ⟨hw.2.2.2.1, hk1, hs3⟩ (nb rfl) ⟨Nat.zero_le _, Nat.zero_le _⟩ dX12_isWord_10) ?_
  refine x_icmp_ne 20 C dX12_isWord_13 (by decide) (fun c5 => ?_) (fun c5 => ?_)
  · have hF := ite_f hF c5
    refine x_iconst (0 : Int32) C dX12_isWord_20 rfl ?_
    refine x_istore_n [(2, .int (0 : Int32)), (0, .ref b), (1, .ref a1r)] C dX12_isWord_21 rfl (by decide) rfl ?_
    refine x_iconst (0 : Int32) C dX12_isWord_22 rfl ?_
    refine x_istore_n [(3, .int (0 : Int32)), (2, .int (0 : Int32)), (0, .ref b), (1, .ref a1r)] C dX12_isWord_23 rfl (by decide) rfl ?_
    refine x_sub [(0, .ref b), (1, .ref a1r), (2, .int (0 : Int32)), (3, .int (0 : Int32))] [2, 3, 1, 0] rfl ?_
    exact h_L24 10000 false (0 : Int32) hF
  · have hF := ite_t hF c5
    refine x_iconst (1 : Int32) C dX12_isWord_16 rfl ?_
    refine x_goto 21 C dX12_isWord_17 (by decide) ?_
    refine x_istore_n [(2, .int (1 : Int32)), (0, .ref b), (1, .ref a1r)] C dX12_isWord_21 rfl (by decide) rfl ?_
    refine x_iconst (0 : Int32) C dX12_isWord_22 rfl ?_
    refine x_istore_n [(3, .int (0 : Int32)), (2, .int (1 : Int32)), (0, .ref b), (1, .ref a1r)] C dX12_isWord_23 rfl (by decide) rfl ?_
    refine x_sub [(0, .ref b), (1, .ref a1r), (2, .int (1 : Int32)), (3, .int (0 : Int32))] [2, 3, 1, 0] rfl ?_
    exact h_L24 10000 true (0 : Int32) hF
noncomputable def g_X12_isText (ν : Mm) (a1 : Nat) : Option (Bool) := bnd (some (f_X12_good ν)) (fun q1 => (if q1 = true then (if (ν.1 0 10) = (1 : Int32) then bnd (g_X12_isWord ν a1) (fun q6 => (if q6 = true then some true else some false)) else some false) else some false))
set_option maxRecDepth 20000 in
set_option maxHeartbeats 4000000 in
theorem k_X12_isText (l : Launch) (D : va_G) (cA : Nat → ClassId) (s0 : State) (z : Nat) (b : Nat) (ν : Mm) (hG : xG l D cA s0) (a1r : Nat) (a1 : Nat) (r : Bool) (hF : g_X12_isText ν a1 = some r) : Met l yX12_isText (wsG yX12_isText cX12_isText 2 (some (FieldType.boolean))) { frames := 5, cells := 0, slots := 0, locals := 108 } (xP D cA s0 [.ref b, .ref a1r] (fun H => RX D cA s0 z b ν H ∧ Str D cA s0 z a1r a1 H)) (xQr (some (.int (bI r)))) 0 0 xN := by
  refine x_start (own := RX12) [(0, .ref b), (1, .ref a1r)] rfl rfl (by decide) (nb rfl) ?_
  intro p e s m args below meth c C hw
  obtain ⟨hw, hst0_a1⟩ := hw
  refine x_aload_n C dX12_isText_0 rfl ?_
  obtain ⟨q1, hq2, hF⟩ := bnd_e hF
  have hq2 := Option.some.inj hq2
  have K3 := c_X12_good l D cA s0 b ν 
  rw [hq2] at K3
  refine x_goR (fun ls h => x_runV (As := []) [] h C ml_X12_73 K3 ⟨rfl, rfl, nb rfl, nb rfl⟩ rfl (M_obj hw.2.2.2.2) rfl hw.2.2.2.2 (nb rfl) ⟨Nat.zero_le _, Nat.zero_le _⟩ dX12_isText_1) ?_
  refine x_ifB_eq 27 C dX12_isText_4 (by decide) (fun c4 => ?_) (fun c4 => ?_)
  · have hF := ite_f hF (nbt c4)
    refine x_iconst (0 : Int32) C dX12_isText_27 rfl ?_
    exact x_zretR C rfl dX12_isText_28 rfl (r_b0 hF)
  · have hF := ite_t hF c4
    refine x_aload_n C dX12_isText_7 rfl ?_
    refine x_get (.int (ν.1 0 10)) C fl_X12_90 (M_obj hw.2.2.2.2) rfl dX12_isText_8 ?_
    refine x_iconst (1 : Int32) C dX12_isText_11 rfl ?_
    refine x_icmp_ne 27 C dX12_isText_12 (by decide) (fun c5 => ?_) (fun c5 => ?_)
    · have hF := ite_f hF c5
      refine x_iconst (0 : Int32) C dX12_isText_27 rfl ?_
      exact x_zretR C rfl dX12_isText_28 rfl (r_b0 hF)
    · have hF := ite_t hF c5
      refine x_aload_n C dX12_isText_15 rfl ?_
      refine x_aload_n C dX12_isText_16 rfl ?_
      obtain ⟨q6, hq7, hF⟩ := bnd_e hF
      refine x_goR (fun ls h => x_runV (As := [.ref a1r]) [] h C ml_X12_124 (k_X12_isWord l D cA s0 z b ν hG a1r a1 q6 hq7) ⟨rfl, rfl, nb rfl, nb rfl⟩ rfl (M_obj hw.2.2.2.2) rfl ⟨hw, hst0_a1⟩ (nb rfl) ⟨Nat.zero_le _, Nat.zero_le _⟩ dX12_isText_17) ?_
      refine x_ifB_eq 27 C dX12_isText_20 (by decide) (fun c8 => ?_) (fun c8 => ?_)
      · have hF := ite_f hF (nbt c8)
        refine x_iconst (0 : Int32) C dX12_isText_27 rfl ?_
        exact x_zretR C rfl dX12_isText_28 rfl (r_b0 hF)
      · have hF := ite_t hF c8
        refine x_iconst (1 : Int32) C dX12_isText_23 rfl ?_
        refine x_goto 28 C dX12_isText_24 (by decide) ?_
        exact x_zretR C rfl dX12_isText_28 rfl (r_b1 hF)
noncomputable def g_X12_isKeyword_J77 (ν : Mm) (y0 : Bool) : Option (Bool) := (if y0 = true then some true else bnd (g_X12_isWord ν 1701147238) (fun q9 => (if q9 = true then some true else bnd (g_X12_isWord ν 435459551856) (fun q14 => (if q14 = true then some true else bnd (g_X12_isWord ν 7954796) (fun q19 => (if q19 = true then some true else bnd (g_X12_isWord ν 1885956211) (fun q24 => (if q24 = true then some true else bnd (g_X12_isWord ν 1936617332) (fun q29 => (if q29 = true then some true else bnd (g_X12_isWord ν 1819042147) (fun q34 => (if q34 = true then some true else bnd (g_X12_isWord ν 28532) (fun q39 => (if q39 = true then some true else some false)))))))))))))))
noncomputable def g_X12_isKeyword_J72 (ν : Mm)  : Option (Bool) := (g_X12_isKeyword_J77 ν true)
noncomputable def g_X12_isKeyword (ν : Mm) : Option (Bool) := bnd (g_X12_isWord ν 126879296744563) (fun q3 => (if q3 = true then (g_X12_isKeyword_J72 ν) else bnd (g_X12_isWord ν 1650551923) (fun q44 => (if q44 = true then (g_X12_isKeyword_J72 ν) else bnd (g_X12_isWord ν 1684955490) (fun q49 => (if q49 = true then (g_X12_isKeyword_J72 ν) else bnd (g_X12_isWord ν 1702125938) (fun q54 => (if q54 = true then (g_X12_isKeyword_J72 ν) else bnd (g_X12_isWord ν 111550524450162) (fun q59 => (if q59 = true then (g_X12_isKeyword_J72 ν) else bnd (g_X12_isWord ν 32772479037629808) (fun q64 => (if q64 = true then (g_X12_isKeyword_J72 ν) else bnd (g_X12_isWord ν 435745415543) (fun q69 => (if q69 = true then (g_X12_isKeyword_J72 ν) else bnd (g_X12_isWord ν 431199119718) (fun q74 => (if q74 = true then (g_X12_isKeyword_J72 ν) else (g_X12_isKeyword_J77 ν false)))))))))))))))))
set_option maxRecDepth 20000 in
set_option maxHeartbeats 4000000 in
theorem k_X12_isKeyword (l : Launch) (D : va_G) (cA : Nat → ClassId) (s0 : State) (z : Nat) (b : Nat) (ν : Mm) (hG : xG l D cA s0) (r : Bool) (hF : g_X12_isKeyword ν = some r) : Met l yX12_isKeyword (wsG yX12_isKeyword cX12_isKeyword 2 (some (FieldType.boolean))) { frames := 5, cells := 0, slots := 0, locals := 108 } (xP D cA s0 [.ref b] (RX D cA s0 z b ν)) (xQr (some (.int (bI r)))) 0 0 xN := by
  refine x_start (own := RX12) [(0, .ref b)] rfl rfl (by decide) (nb rfl) ?_
  intro p e s m args below meth c C hw
  have h_J77 : ∀ (y0 : Bool), g_X12_isKeyword_J77 ν y0 = some r → xW p l e { frames := 5, cells := 0, slots := 0, locals := 108 } s m args below meth c 2 (MQ below (xQr (some (.int (bI r)))) args s 0 0 xN) s.heap [] 0 0 77 [(0, .ref b)] [.int (bI y0)] := by
    intro y0 hF
    refine x_istore_n [(1, .int (bI y0)), (0, .ref b)] C dX12_isKeyword_77 rfl (by decide) rfl ?_
    refine x_iload_n C dX12_isKeyword_78 rfl ?_
    refine x_ifB_ne 145 C dX12_isKeyword_79 (by decide) (fun c6 => ?_) (fun c6 => ?_)
    · have hF := ite_t hF c6
      refine x_iconst (1 : Int32) C dX12_isKeyword_145 rfl ?_
      refine x_goto 150 C dX12_isKeyword_146 (by decide) ?_
      exact x_zretR C rfl dX12_isKeyword_150 rfl (r_b1 hF)
    · have hF := ite_f hF (nbt c6)
      refine x_aload_n C dX12_isKeyword_82 rfl ?_
      refine x_ldcS (z := z) 1701147238 C hG.2.2.2 xl_X12_144 hw.2.2.2.1 dX12_isKeyword_83 (fun ra7 hst8 => ?_)
      obtain ⟨q9, hq10, hF⟩ := bnd_e hF
      refine x_goR (fun ls h => x_runV (As := [.ref ra7]) [] h C ml_X12_124 (k_X12_isWord l D cA s0 z b ν hG ra7 1701147238 q9 hq10) ⟨rfl, rfl, nb rfl, nb rfl⟩ rfl (M_obj hw.2.2.2.2) rfl ⟨hw, hst8⟩ (nb rfl) ⟨Nat.zero_le _, Nat.zero_le _⟩ dX12_isKeyword_85) ?_
      refine x_ifB_ne 145 C dX12_isKeyword_88 (by decide) (fun c11 => ?_) (fun c11 => ?_)
      · have hF := ite_t hF c11
        refine x_iconst (1 : Int32) C dX12_isKeyword_145 rfl ?_
        refine x_goto 150 C dX12_isKeyword_146 (by decide) ?_
        exact x_zretR C rfl dX12_isKeyword_150 rfl (r_b1 hF)
      · have hF := ite_f hF (nbt c11)
        refine x_aload_n C dX12_isKeyword_91 rfl ?_
        refine x_ldcS (z := z) 435459551856 C hG.2.2.2 xl_X12_146 hw.2.2.2.1 dX12_isKeyword_92 (fun ra12 hst13 => ?_)
        obtain ⟨q14, hq15, hF⟩ := bnd_e hF
        refine x_goR (fun ls h => x_runV (As := [.ref ra12]) [] h C ml_X12_124 (k_X12_isWord l D cA s0 z b ν hG ra12 435459551856 q14 hq15) ⟨rfl, rfl, nb rfl, nb rfl⟩ rfl (M_obj hw.2.2.2.2) rfl ⟨hw, hst13⟩ (nb rfl) ⟨Nat.zero_le _, Nat.zero_le _⟩ dX12_isKeyword_94) ?_
        refine x_ifB_ne 145 C dX12_isKeyword_97 (by decide) (fun c16 => ?_) (fun c16 => ?_)
        · have hF := ite_t hF c16
          refine x_iconst (1 : Int32) C dX12_isKeyword_145 rfl ?_
          refine x_goto 150 C dX12_isKeyword_146 (by decide) ?_
          exact x_zretR C rfl dX12_isKeyword_150 rfl (r_b1 hF)
        · have hF := ite_f hF (nbt c16)
          refine x_aload_n C dX12_isKeyword_100 rfl ?_
          refine x_ldcS (z := z) 7954796 C hG.2.2.2 xl_X12_148 hw.2.2.2.1 dX12_isKeyword_101 (fun ra17 hst18 => ?_)
          obtain ⟨q19, hq20, hF⟩ := bnd_e hF
          refine x_goR (fun ls h => x_runV (As := [.ref ra17]) [] h C ml_X12_124 (k_X12_isWord l D cA s0 z b ν hG ra17 7954796 q19 hq20) ⟨rfl, rfl, nb rfl, nb rfl⟩ rfl (M_obj hw.2.2.2.2) rfl ⟨hw, hst18⟩ (nb rfl) ⟨Nat.zero_le _, Nat.zero_le _⟩ dX12_isKeyword_103) ?_
          refine x_ifB_ne 145 C dX12_isKeyword_106 (by decide) (fun c21 => ?_) (fun c21 => ?_)
          · have hF := ite_t hF c21
            refine x_iconst (1 : Int32) C dX12_isKeyword_145 rfl ?_
            refine x_goto 150 C dX12_isKeyword_146 (by decide) ?_
            exact x_zretR C rfl dX12_isKeyword_150 rfl (r_b1 hF)
          · have hF := ite_f hF (nbt c21)
            refine x_aload_n C dX12_isKeyword_109 rfl ?_
            refine x_ldcS (z := z) 1885956211 C hG.2.2.2 xl_X12_150 hw.2.2.2.1 dX12_isKeyword_110 (fun ra22 hst23 => ?_)
            obtain ⟨q24, hq25, hF⟩ := bnd_e hF
            refine x_goR (fun ls h => x_runV (As := [.ref ra22]) [] h C ml_X12_124 (k_X12_isWord l D cA s0 z b ν hG ra22 1885956211 q24 hq25) ⟨rfl, rfl, nb rfl, nb rfl⟩ rfl (M_obj hw.2.2.2.2) rfl ⟨hw, hst23⟩ (nb rfl) ⟨Nat.zero_le _, Nat.zero_le _⟩ dX12_isKeyword_112) ?_
            refine x_ifB_ne 145 C dX12_isKeyword_115 (by decide) (fun c26 => ?_) (fun c26 => ?_)
            · have hF := ite_t hF c26
              refine x_iconst (1 : Int32) C dX12_isKeyword_145 rfl ?_
              refine x_goto 150 C dX12_isKeyword_146 (by decide) ?_
              exact x_zretR C rfl dX12_isKeyword_150 rfl (r_b1 hF)
            · have hF := ite_f hF (nbt c26)
              refine x_aload_n C dX12_isKeyword_118 rfl ?_
              refine x_ldcS (z := z) 1936617332 C hG.2.2.2 xl_X12_152 hw.2.2.2.1 dX12_isKeyword_119 (fun ra27 hst28 => ?_)
              obtain ⟨q29, hq30, hF⟩ := bnd_e hF
              refine x_goR (fun ls h => x_runV (As := [.ref ra27]) [] h C ml_X12_124 (k_X12_isWord l D cA s0 z b ν hG ra27 1936617332 q29 hq30) ⟨rfl, rfl, nb rfl, nb rfl⟩ rfl (M_obj hw.2.2.2.2) rfl ⟨hw, hst28⟩ (nb rfl) ⟨Nat.zero_le _, Nat.zero_le _⟩ dX12_isKeyword_121) ?_
              refine x_ifB_ne 145 C dX12_isKeyword_124 (by decide) (fun c31 => ?_) (fun c31 => ?_)
              · have hF := ite_t hF c31
                refine x_iconst (1 : Int32) C dX12_isKeyword_145 rfl ?_
                refine x_goto 150 C dX12_isKeyword_146 (by decide) ?_
                exact x_zretR C rfl dX12_isKeyword_150 rfl (r_b1 hF)
              · have hF := ite_f hF (nbt c31)
                refine x_aload_n C dX12_isKeyword_127 rfl ?_
                refine x_ldcS (z := z) 1819042147 C hG.2.2.2 xl_X12_154 hw.2.2.2.1 dX12_isKeyword_128 (fun ra32 hst33 => ?_)
                obtain ⟨q34, hq35, hF⟩ := bnd_e hF
                refine x_goR (fun ls h => x_runV (As := [.ref ra32]) [] h C ml_X12_124 (k_X12_isWord l D cA s0 z b ν hG ra32 1819042147 q34 hq35) ⟨rfl, rfl, nb rfl, nb rfl⟩ rfl (M_obj hw.2.2.2.2) rfl ⟨hw, hst33⟩ (nb rfl) ⟨Nat.zero_le _, Nat.zero_le _⟩ dX12_isKeyword_130) ?_
                refine x_ifB_ne 145 C dX12_isKeyword_133 (by decide) (fun c36 => ?_) (fun c36 => ?_)
                · have hF := ite_t hF c36
                  refine x_iconst (1 : Int32) C dX12_isKeyword_145 rfl ?_
                  refine x_goto 150 C dX12_isKeyword_146 (by decide) ?_
                  exact x_zretR C rfl dX12_isKeyword_150 rfl (r_b1 hF)
                · have hF := ite_f hF (nbt c36)
                  refine x_aload_n C dX12_isKeyword_136 rfl ?_
                  refine x_ldcS (z := z) 28532 C hG.2.2.2 xl_X12_156 hw.2.2.2.1 dX12_isKeyword_137 (fun ra37 hst38 => ?_)
                  obtain ⟨q39, hq40, hF⟩ := bnd_e hF
                  refine x_goR (fun ls h => x_runV (As := [.ref ra37]) [] h C ml_X12_124 (k_X12_isWord l D cA s0 z b ν hG ra37 28532 q39 hq40) ⟨rfl, rfl, nb rfl, nb rfl⟩ rfl (M_obj hw.2.2.2.2) rfl ⟨hw, hst38⟩ (nb rfl) ⟨Nat.zero_le _, Nat.zero_le _⟩ dX12_isKeyword_139) ?_
                  refine x_ifB_eq 149 C dX12_isKeyword_142 (by decide) (fun c41 => ?_) (fun c41 => ?_)
                  · have hF := ite_f hF (nbt c41)
                    refine x_iconst (0 : Int32) C dX12_isKeyword_149 rfl ?_
                    exact x_zretR C rfl dX12_isKeyword_150 rfl (r_b0 hF)
                  · have hF := ite_t hF c41
                    refine x_iconst (1 : Int32) C dX12_isKeyword_145 rfl ?_
                    refine x_goto 150 C dX12_isKeyword_146 (by decide) ?_
                    exact x_zretR C rfl dX12_isKeyword_150 rfl (r_b1 hF)
  have h_J72 : g_X12_isKeyword_J72 ν  = some r → xW p l e { frames := 5, cells := 0, slots := 0, locals := 108 } s m args below meth c 2 (MQ below (xQr (some (.int (bI r)))) args s 0 0 xN) s.heap [] 0 0 72 [(0, .ref b)] [] := by
    intro  hF
    refine x_iconst (1 : Int32) C dX12_isKeyword_72 rfl ?_
    refine x_goto 77 C dX12_isKeyword_73 (by decide) ?_
    exact h_J77 true hF
  refine x_aload_n C dX12_isKeyword_0 rfl ?_
  refine x_ldcS (z := z) 126879296744563 C hG.2.2.2 xl_X12_128 hw.2.2.2.1 dX12_isKeyword_1 (fun ra1 hst2 => ?_)
  obtain ⟨q3, hq4, hF⟩ := bnd_e hF
  refine x_goR (fun ls h => x_runV (As := [.ref ra1]) [] h C ml_X12_124 (k_X12_isWord l D cA s0 z b ν hG ra1 126879296744563 q3 hq4) ⟨rfl, rfl, nb rfl, nb rfl⟩ rfl (M_obj hw.2.2.2.2) rfl ⟨hw, hst2⟩ (nb rfl) ⟨Nat.zero_le _, Nat.zero_le _⟩ dX12_isKeyword_3) ?_
  refine x_ifB_ne 72 C dX12_isKeyword_6 (by decide) (fun c5 => ?_) (fun c5 => ?_)
  · have hF := ite_t hF c5
    exact h_J72 hF
  · have hF := ite_f hF (nbt c5)
    refine x_aload_n C dX12_isKeyword_9 rfl ?_
    refine x_ldcS (z := z) 1650551923 C hG.2.2.2 xl_X12_130 hw.2.2.2.1 dX12_isKeyword_10 (fun ra42 hst43 => ?_)
    obtain ⟨q44, hq45, hF⟩ := bnd_e hF
    refine x_goR (fun ls h => x_runV (As := [.ref ra42]) [] h C ml_X12_124 (k_X12_isWord l D cA s0 z b ν hG ra42 1650551923 q44 hq45) ⟨rfl, rfl, nb rfl, nb rfl⟩ rfl (M_obj hw.2.2.2.2) rfl ⟨hw, hst43⟩ (nb rfl) ⟨Nat.zero_le _, Nat.zero_le _⟩ dX12_isKeyword_12) ?_
    refine x_ifB_ne 72 C dX12_isKeyword_15 (by decide) (fun c46 => ?_) (fun c46 => ?_)
    · have hF := ite_t hF c46
      exact h_J72 hF
    · have hF := ite_f hF (nbt c46)
      refine x_aload_n C dX12_isKeyword_18 rfl ?_
      refine x_ldcS (z := z) 1684955490 C hG.2.2.2 xl_X12_132 hw.2.2.2.1 dX12_isKeyword_19 (fun ra47 hst48 => ?_)
      obtain ⟨q49, hq50, hF⟩ := bnd_e hF
      refine x_goR (fun ls h => x_runV (As := [.ref ra47]) [] h C ml_X12_124 (k_X12_isWord l D cA s0 z b ν hG ra47 1684955490 q49 hq50) ⟨rfl, rfl, nb rfl, nb rfl⟩ rfl (M_obj hw.2.2.2.2) rfl ⟨hw, hst48⟩ (nb rfl) ⟨Nat.zero_le _, Nat.zero_le _⟩ dX12_isKeyword_21) ?_
      refine x_ifB_ne 72 C dX12_isKeyword_24 (by decide) (fun c51 => ?_) (fun c51 => ?_)
      · have hF := ite_t hF c51
        exact h_J72 hF
      · have hF := ite_f hF (nbt c51)
        refine x_aload_n C dX12_isKeyword_27 rfl ?_
        refine x_ldcS (z := z) 1702125938 C hG.2.2.2 xl_X12_134 hw.2.2.2.1 dX12_isKeyword_28 (fun ra52 hst53 => ?_)
        obtain ⟨q54, hq55, hF⟩ := bnd_e hF
        refine x_goR (fun ls h => x_runV (As := [.ref ra52]) [] h C ml_X12_124 (k_X12_isWord l D cA s0 z b ν hG ra52 1702125938 q54 hq55) ⟨rfl, rfl, nb rfl, nb rfl⟩ rfl (M_obj hw.2.2.2.2) rfl ⟨hw, hst53⟩ (nb rfl) ⟨Nat.zero_le _, Nat.zero_le _⟩ dX12_isKeyword_30) ?_
        refine x_ifB_ne 72 C dX12_isKeyword_33 (by decide) (fun c56 => ?_) (fun c56 => ?_)
        · have hF := ite_t hF c56
          exact h_J72 hF
        · have hF := ite_f hF (nbt c56)
          refine x_aload_n C dX12_isKeyword_36 rfl ?_
          refine x_ldcS (z := z) 111550524450162 C hG.2.2.2 xl_X12_136 hw.2.2.2.1 dX12_isKeyword_37 (fun ra57 hst58 => ?_)
          obtain ⟨q59, hq60, hF⟩ := bnd_e hF
          refine x_goR (fun ls h => x_runV (As := [.ref ra57]) [] h C ml_X12_124 (k_X12_isWord l D cA s0 z b ν hG ra57 111550524450162 q59 hq60) ⟨rfl, rfl, nb rfl, nb rfl⟩ rfl (M_obj hw.2.2.2.2) rfl ⟨hw, hst58⟩ (nb rfl) ⟨Nat.zero_le _, Nat.zero_le _⟩ dX12_isKeyword_39) ?_
          refine x_ifB_ne 72 C dX12_isKeyword_42 (by decide) (fun c61 => ?_) (fun c61 => ?_)
          · have hF := ite_t hF c61
            exact h_J72 hF
          · have hF := ite_f hF (nbt c61)
            refine x_aload_n C dX12_isKeyword_45 rfl ?_
            refine x_ldcS (z := z) 32772479037629808 C hG.2.2.2 xl_X12_138 hw.2.2.2.1 dX12_isKeyword_46 (fun ra62 hst63 => ?_)
            obtain ⟨q64, hq65, hF⟩ := bnd_e hF
            refine x_goR (fun ls h => x_runV (As := [.ref ra62]) [] h C ml_X12_124 (k_X12_isWord l D cA s0 z b ν hG ra62 32772479037629808 q64 hq65) ⟨rfl, rfl, nb rfl, nb rfl⟩ rfl (M_obj hw.2.2.2.2) rfl ⟨hw, hst63⟩ (nb rfl) ⟨Nat.zero_le _, Nat.zero_le _⟩ dX12_isKeyword_48) ?_
            refine x_ifB_ne 72 C dX12_isKeyword_51 (by decide) (fun c66 => ?_) (fun c66 => ?_)
            · have hF := ite_t hF c66
              exact h_J72 hF
            · have hF := ite_f hF (nbt c66)
              refine x_aload_n C dX12_isKeyword_54 rfl ?_
              refine x_ldcS (z := z) 435745415543 C hG.2.2.2 xl_X12_140 hw.2.2.2.1 dX12_isKeyword_55 (fun ra67 hst68 => ?_)
              obtain ⟨q69, hq70, hF⟩ := bnd_e hF
              refine x_goR (fun ls h => x_runV (As := [.ref ra67]) [] h C ml_X12_124 (k_X12_isWord l D cA s0 z b ν hG ra67 435745415543 q69 hq70) ⟨rfl, rfl, nb rfl, nb rfl⟩ rfl (M_obj hw.2.2.2.2) rfl ⟨hw, hst68⟩ (nb rfl) ⟨Nat.zero_le _, Nat.zero_le _⟩ dX12_isKeyword_57) ?_
              refine x_ifB_ne 72 C dX12_isKeyword_60 (by decide) (fun c71 => ?_) (fun c71 => ?_)
              · have hF := ite_t hF c71
                exact h_J72 hF
              · have hF := ite_f hF (nbt c71)
                refine x_aload_n C dX12_isKeyword_63 rfl ?_
                refine x_ldcS (z := z) 431199119718 C hG.2.2.2 xl_X12_142 hw.2.2.2.1 dX12_isKeyword_64 (fun ra72 hst73 => ?_)
                obtain ⟨q74, hq75, hF⟩ := bnd_e hF
                refine x_goR (fun ls h => x_runV (As := [.ref ra72]) [] h C ml_X12_124 (k_X12_isWord l D cA s0 z b ν hG ra72 431199119718 q74 hq75) ⟨rfl, rfl, nb rfl, nb rfl⟩ rfl (M_obj hw.2.2.2.2) rfl ⟨hw, hst73⟩ (nb rfl) ⟨Nat.zero_le _, Nat.zero_le _⟩ dX12_isKeyword_66) ?_
                refine x_ifB_eq 76 C dX12_isKeyword_69 (by decide) (fun c76 => ?_) (fun c76 => ?_)
                · have hF := ite_f hF (nbt c76)
                  refine x_iconst (0 : Int32) C dX12_isKeyword_76 rfl ?_
                  exact h_J77 false hF
                · have hF := ite_t hF c76
                  exact h_J72 hF
noncomputable def g_X12_word (ν : Mm) (a1 : Nat) : Option (Mm) := bnd (g_X12_isText ν a1) (fun q1 => (if q1 = true then bnd (g_X12_goOn ν) (fun q4 => some q4) else bnd (g_X12_errs ν (1 : Int32)) (fun q6 => bnd (g_X12_goOn q6) (fun q8 => some q8))))
set_option maxRecDepth 20000 in
set_option maxHeartbeats 4000000 in
theorem k_X12_word (l : Launch) (D : va_G) (cA : Nat → ClassId) (s0 : State) (z : Nat) (b : Nat) (ν : Mm) (sz : Nat) (hG : xG l D cA s0) (a1r : Nat) (a1 : Nat) (r : Mm) (hF : g_X12_word ν a1 = some r) : Met l yX12_word (wsG yX12_word cX12_word 2 none) { frames := 6, cells := 0, slots := 0, locals := 129 } (xP D cA s0 [.ref b, .ref a1r] (fun H => H.size = sz ∧ RX D cA s0 z b ν H ∧ Str D cA s0 z a1r a1 H)) (xQm none (fun H => RX D cA s0 z b r H) (xA b 8 sz)) 0 0 (xA b 8 sz) := by
  refine x_start (own := RX12) [(0, .ref b), (1, .ref a1r)] rfl rfl (by decide) (nb rfl) ?_
  intro p e s m args below meth c C hw
  obtain ⟨hsz, hw, hst0_a1⟩ := hw
  subst hsz
  have hS : va_S (xA b 8 s.heap.size) s.heap s.heap [] := va_S.rf
  refine x_aload_n C dX12_word_0 rfl ?_
  refine x_aload_n C dX12_word_1 rfl ?_
  obtain ⟨q1, hq2, hF⟩ := bnd_e hF
  refine x_goR (fun ls h => x_runV (As := [.ref a1r]) [] h C ml_X12_158 (k_X12_isText l D cA s0 z b ν hG a1r a1 q1 hq2) ⟨rfl, rfl, nb rfl, nb rfl⟩ rfl (M_obj hw.2.2.2.2) rfl ⟨hw, (Str.now hst0_a1 hw.1 hw.2.1 hS)⟩ (nb rfl) ⟨Nat.zero_le _, Nat.zero_le _⟩ dX12_word_2) ?_
  refine x_ifB_ne 13 C dX12_word_5 (by decide) (fun c3 => ?_) (fun c3 => ?_)
  · have hF := ite_t hF c3
    refine x_aload_n C dX12_word_13 rfl ?_
    obtain ⟨q4, hq5, hF⟩ := bnd_e hF
    refine x_goM (fun ls h => x_runV (As := []) [] h C ml_X12_164 (k_X12_goOn l D cA s0 z b ν _ hG q4 hq5) ⟨rfl, rfl, nb rfl, nb rfl⟩ rfl (M_obj hw.2.2.2.2) rfl ⟨rfl, hw⟩ (nb rfl) ⟨Nat.zero_le _, Nat.zero_le _⟩ dX12_word_14) hS (xA_le hS) (fun H locs hw hz hk hS => ?_)
    have hw : RX D cA s0 z b q4 H := hw
    exact x_vretM2 C rfl dX12_word_17 rfl (rv_m (W := fun m => RX D cA s0 z b m _) hF hw) hS (nb rfl) (nb rfl)
  · have hF := ite_f hF (nbt c3)
    refine x_aload_n C dX12_word_8 rfl ?_
    refine x_iconst (1 : Int32) C dX12_word_9 rfl ?_
    obtain ⟨q6, hq7, hF⟩ := bnd_e hF
    refine x_goM (fun ls h => x_runV (As := [.int (1 : Int32)]) [] h C ml_X12_161 (k_X12_errs l D cA s0 z b ν _ hG (1 : Int32) q6 hq7) ⟨rfl, rfl, nb rfl, nb rfl⟩ rfl (M_obj hw.2.2.2.2) rfl ⟨rfl, hw⟩ (nb rfl) ⟨Nat.zero_le _, Nat.zero_le _⟩ dX12_word_10) hS (xA_le hS) (fun H locs hw hz hk hS => ?_)
    have hw : RX D cA s0 z b q6 H := hw
    refine x_aload_n C dX12_word_13 rfl ?_
    obtain ⟨q8, hq9, hF⟩ := bnd_e hF
    refine x_goM (fun ls h => x_runV (As := []) [] h C ml_X12_164 (k_X12_goOn l D cA s0 z b q6 _ hG q8 hq9) ⟨rfl, rfl, nb rfl, nb rfl⟩ rfl (M_obj hw.2.2.2.2) rfl ⟨rfl, hw⟩ (nb rfl) ⟨Nat.zero_le _, Nat.zero_le _⟩ dX12_word_14) hS (xA_le hS) (fun H locs hw hz hk hS => ?_)
    have hw : RX D cA s0 z b q8 H := hw
    exact x_vretM2 C rfl dX12_word_17 rfl (rv_m (W := fun m => RX D cA s0 z b m _) hF hw) hS (nb rfl) (nb rfl)
noncomputable def g_X12_number_J47 (ν : Mm) (a1 : Int32) (a2 : Int32) (μ0 : Mm) : Option (Int32 × Mm) := bnd (some (f_X12_good μ0)) (fun q9 => (if q9 = true then bnd (g_X12_goOn μ0) (fun q15 => some (μ0.1 0 11, q15)) else bnd (g_X12_goOn μ0) (fun q13 => some (a1, q13))))
noncomputable def g_X12_number_J20 (ν : Mm) (a1 : Int32) (a2 : Int32) (μ0 : Mm) : Option (Int32 × Mm) := bnd (some (f_X12_good μ0)) (fun q5 => (if q5 = true then bnd (some (f_X12_in ((μ0.1 0 11).toInt64) a1.toInt64 a2.toInt64)) (fun q17 => (if q17 = true then (g_X12_number_J47 ν a1 a2 μ0) else bnd (g_X12_errs μ0 (2 : Int32)) (fun q21 => (g_X12_number_J47 ν a1 a2 q21)))) else (g_X12_number_J47 ν a1 a2 μ0)))
noncomputable def g_X12_number (ν : Mm) (a1 : Int32) (a2 : Int32) : Option (Int32 × Mm) := bnd (some (f_X12_good ν)) (fun q1 => (if q1 = true then (if (ν.1 0 10) = (2 : Int32) then (g_X12_number_J20 ν a1 a2 ν) else bnd (g_X12_errs ν (1 : Int32)) (fun q24 => (g_X12_number_J20 ν a1 a2 q24))) else (g_X12_number_J20 ν a1 a2 ν)))
set_option maxRecDepth 20000 in
set_option maxHeartbeats 4000000 in
theorem k_X12_number (l : Launch) (D : va_G) (cA : Nat → ClassId) (s0 : State) (z : Nat) (b : Nat) (ν : Mm) (sz : Nat) (hG : xG l D cA s0) (a1 : Int32) (a2 : Int32) (r : Int32 × Mm) (hF : g_X12_number ν a1 a2 = some r) : Met l yX12_number (wsG yX12_number cX12_number 4 (some (FieldType.int))) { frames := 3, cells := 0, slots := 0, locals := 66 } (xP D cA s0 [.ref b, .int a1, .int a2] (fun H => H.size = sz ∧ RX D cA s0 z b ν H)) (xQm (some (.int r.1)) (fun H => RX D cA s0 z b r.2 H) (xA b 8 sz)) 0 0 (xA b 8 sz) := by
  refine x_start (own := RX12) [(0, .ref b), (1, .int a1), (2, .int a2)] rfl rfl (by decide) (nb rfl) ?_
  intro p e s m args below meth c C hw
  obtain ⟨hsz, hw⟩ := hw
  subst hsz
  have hS : va_S (xA b 8 s.heap.size) s.heap s.heap [] := va_S.rf
  have h_J47 : ∀ (μ0 : Mm) (H : Heap) (locs : List Loc) (hw : RX D cA s0 z b μ0 H) (hS : va_S (xA b 8 s.heap.size) s.heap H locs), g_X12_number_J47 ν a1 a2 μ0 = some r → xW p l e { frames := 3, cells := 0, slots := 0, locals := 66 } s m args below meth c 4 (MQ below (xQm (some (.int r.1)) (fun H => RX D cA s0 z b r.2 H) (xA b 8 s.heap.size)) args s 0 0 (xA b 8 s.heap.size)) H locs 0 0 47 [(0, .ref b), (1, .int a1)] [] := by
    intro μ0 H locs hw hS hF
    refine x_aload_n C dX12_number_47 rfl ?_
    obtain ⟨q9, hq10, hF⟩ := bnd_e hF
    have hq10 := Option.some.inj hq10
    have K11 := c_X12_good l D cA s0 b μ0 
    rw [hq10] at K11
    refine x_goR (fun ls h => x_runV (As := []) [] h C ml_X12_73 K11 ⟨rfl, rfl, nb rfl, nb rfl⟩ rfl (M_obj hw.2.2.2.2) rfl hw.2.2.2.2 (nb rfl) ⟨Nat.zero_le _, Nat.zero_le _⟩ dX12_number_48) ?_
    refine x_ifB_eq 61 C dX12_number_51 (by decide) (fun c12 => ?_) (fun c12 => ?_)
    · have hF := ite_f hF (nbt c12)
      refine x_iload_n C dX12_number_61 rfl ?_
      refine x_istore_n [(3, .int a1), (0, .ref b), (1, .int a1)] C dX12_number_62 rfl (by decide) rfl ?_
      refine x_aload_n C dX12_number_63 rfl ?_
      obtain ⟨q13, hq14, hF⟩ := bnd_e hF
      refine x_goM (fun ls h => x_runV (As := []) [] h C ml_X12_164 (k_X12_goOn l D cA s0 z b μ0 _ hG q13 hq14) ⟨rfl, rfl, nb rfl, nb rfl⟩ rfl (M_obj hw.2.2.2.2) rfl ⟨rfl, hw⟩ (nb rfl) ⟨Nat.zero_le _, Nat.zero_le _⟩ dX12_number_64) hS (xA_le hS) (fun H locs hw hz hk hS => ?_)
      have hw : RX D cA s0 z b q13 H := hw
      refine x_iload_n C dX12_number_67 rfl ?_
      exact x_iretM2 C rfl dX12_number_68  (rm_i hF) (rm_m (W := fun m => RX D cA s0 z b m _) hF hw) hS (nb rfl) (nb rfl)
    · have hF := ite_t hF c12
      refine x_aload_n C dX12_number_54 rfl ?_
      refine x_get (.int (μ0.1 0 11)) C fl_X12_101 (M_obj hw.2.2.2.2) rfl dX12_number_55 ?_
      refine x_goto 62 C dX12_number_58 (by decide) ?_
      refine x_istore_n [(3, .int (μ0.1 0 11)), (0, .ref b), (1, .int a1)] C dX12_number_62 rfl (by decide) rfl ?_
      refine x_aload_n C dX12_number_63 rfl ?_
      obtain ⟨q15, hq16, hF⟩ := bnd_e hF
      refine x_goM (fun ls h => x_runV (As := []) [] h C ml_X12_164 (k_X12_goOn l D cA s0 z b μ0 _ hG q15 hq16) ⟨rfl, rfl, nb rfl, nb rfl⟩ rfl (M_obj hw.2.2.2.2) rfl ⟨rfl, hw⟩ (nb rfl) ⟨Nat.zero_le _, Nat.zero_le _⟩ dX12_number_64) hS (xA_le hS) (fun H locs hw hz hk hS => ?_)
      have hw : RX D cA s0 z b q15 H := hw
      refine x_iload_n C dX12_number_67 rfl ?_
      exact x_iretM2 C rfl dX12_number_68  (rm_i hF) (rm_m (W := fun m => RX D cA s0 z b m _) hF hw) hS (nb rfl) (nb rfl)
  have h_J20 : ∀ (μ0 : Mm) (H : Heap) (locs : List Loc) (hw : RX D cA s0 z b μ0 H) (hS : va_S (xA b 8 s.heap.size) s.heap H locs), g_X12_number_J20 ν a1 a2 μ0 = some r → xW p l e { frames := 3, cells := 0, slots := 0, locals := 66 } s m args below meth c 4 (MQ below (xQm (some (.int r.1)) (fun H => RX D cA s0 z b r.2 H) (xA b 8 s.heap.size)) args s 0 0 (xA b 8 s.heap.size)) H locs 0 0 20 [(0, .ref b), (1, .int a1), (2, .int a2)] [] := by
    intro μ0 H locs hw hS hF
    refine x_aload_n C dX12_number_20 rfl ?_
    obtain ⟨q5, hq6, hF⟩ := bnd_e hF
    have hq6 := Option.some.inj hq6
    have K7 := c_X12_good l D cA s0 b μ0 
    rw [hq6] at K7
    refine x_goR (fun ls h => x_runV (As := []) [] h C ml_X12_73 K7 ⟨rfl, rfl, nb rfl, nb rfl⟩ rfl (M_obj hw.2.2.2.2) rfl hw.2.2.2.2 (nb rfl) ⟨Nat.zero_le _, Nat.zero_le _⟩ dX12_number_21) ?_
    refine x_ifB_eq 47 C dX12_number_24 (by decide) (fun c8 => ?_) (fun c8 => ?_)
    · have hF := ite_f hF (nbt c8)
      refine x_sub [(0, .ref b), (1, .int a1)] [0, 1] rfl ?_
      exact h_J47 μ0 _ _ hw hS hF
    · have hF := ite_t hF c8
      refine x_aload_n C dX12_number_27 rfl ?_
      refine x_get (.int (μ0.1 0 11)) C fl_X12_101 (M_obj hw.2.2.2.2) rfl dX12_number_28 ?_
      refine x_i2l C dX12_number_31 ?_
      refine x_iload_n C dX12_number_32 rfl ?_
      refine x_i2l C dX12_number_33 ?_
      refine x_iload_n C dX12_number_34 rfl ?_
      refine x_i2l C dX12_number_35 ?_
      obtain ⟨q17, hq18, hF⟩ := bnd_e hF
      have hq18 := Option.some.inj hq18
      have K19 := c_X12_in l D cA s0 ((μ0.1 0 11).toInt64) a1.toInt64 a2.toInt64 
      rw [hq18] at K19
      refine x_goR (fun ls h => x_runS (As := [.long ((μ0.1 0 11).toInt64), .long a1.toInt64, .long a2.toInt64]) [] h C ml_X12_47 K19 ⟨rfl, rfl, nb rfl, nb rfl⟩ rfl trivial (nb rfl) ⟨Nat.zero_le _, Nat.zero_le _⟩ dX12_number_36) ?_
      refine x_ifB_ne 47 C dX12_number_39 (by decide) (fun c20 => ?_) (fun c20 => ?_)
      · have hF := ite_t hF c20
        refine x_sub [(0, .ref b), (1, .int a1)] [0, 1] rfl ?_
        exact h_J47 μ0 _ _ hw hS hF
      · have hF := ite_f hF (nbt c20)
        refine x_aload_n C dX12_number_42 rfl ?_
        refine x_iconst (2 : Int32) C dX12_number_43 rfl ?_
        obtain ⟨q21, hq22, hF⟩ := bnd_e hF
        refine x_goM (fun ls h => x_runV (As := [.int (2 : Int32)]) [] h C ml_X12_161 (k_X12_errs l D cA s0 z b μ0 _ hG (2 : Int32) q21 hq22) ⟨rfl, rfl, nb rfl, nb rfl⟩ rfl (M_obj hw.2.2.2.2) rfl ⟨rfl, hw⟩ (nb rfl) ⟨Nat.zero_le _, Nat.zero_le _⟩ dX12_number_44) hS (xA_le hS) (fun H locs hw hz hk hS => ?_)
        have hw : RX D cA s0 z b q21 H := hw
        refine x_sub [(0, .ref b), (1, .int a1)] [0, 1] rfl ?_
        exact h_J47 q21 _ _ hw hS hF
  refine x_aload_n C dX12_number_0 rfl ?_
  obtain ⟨q1, hq2, hF⟩ := bnd_e hF
  have hq2 := Option.some.inj hq2
  have K3 := c_X12_good l D cA s0 b ν 
  rw [hq2] at K3
  refine x_goR (fun ls h => x_runV (As := []) [] h C ml_X12_73 K3 ⟨rfl, rfl, nb rfl, nb rfl⟩ rfl (M_obj hw.2.2.2.2) rfl hw.2.2.2.2 (nb rfl) ⟨Nat.zero_le _, Nat.zero_le _⟩ dX12_number_1) ?_
  refine x_ifB_eq 20 C dX12_number_4 (by decide) (fun c4 => ?_) (fun c4 => ?_)
  · have hF := ite_f hF (nbt c4)
    exact h_J20 ν _ _ hw hS hF
  · have hF := ite_t hF c4
    refine x_aload_n C dX12_number_7 rfl ?_
    refine x_get (.int (ν.1 0 10)) C fl_X12_90 (M_obj hw.2.2.2.2) rfl dX12_number_8 ?_
    refine x_iconst (2 : Int32) C dX12_number_11 rfl ?_
    refine x_icmp_eq 20 C dX12_number_12 (by decide) (fun c23 => ?_) (fun c23 => ?_)
    · have hF := ite_t hF c23
      exact h_J20 ν _ _ hw hS hF
    · have hF := ite_f hF c23
      refine x_aload_n C dX12_number_15 rfl ?_
      refine x_iconst (1 : Int32) C dX12_number_16 rfl ?_
      obtain ⟨q24, hq25, hF⟩ := bnd_e hF
      refine x_goM (fun ls h => x_runV (As := [.int (1 : Int32)]) [] h C ml_X12_161 (k_X12_errs l D cA s0 z b ν _ hG (1 : Int32) q24 hq25) ⟨rfl, rfl, nb rfl, nb rfl⟩ rfl (M_obj hw.2.2.2.2) rfl ⟨rfl, hw⟩ (nb rfl) ⟨Nat.zero_le _, Nat.zero_le _⟩ dX12_number_17) hS (xA_le hS) (fun H locs hw hz hk hS => ?_)
      have hw : RX D cA s0 z b q24 H := hw
      exact h_J20 q24 _ _ hw hS hF
noncomputable def g_X12_numberAfter (ν : Mm) (a1 : Nat) (a2 : Int32) (a3 : Int32) : Option (Int32 × Mm) := bnd (g_X12_word ν a1) (fun q1 => bnd (g_X12_number q1 a2 a3) (fun q3 => some (q3.1, q3.2)))
set_option maxRecDepth 20000 in
set_option maxHeartbeats 4000000 in
theorem k_X12_numberAfter (l : Launch) (D : va_G) (cA : Nat → ClassId) (s0 : State) (z : Nat) (b : Nat) (ν : Mm) (sz : Nat) (hG : xG l D cA s0) (a1r : Nat) (a1 : Nat) (a2 : Int32) (a3 : Int32) (r : Int32 × Mm) (hF : g_X12_numberAfter ν a1 a2 a3 = some r) : Met l yX12_numberAfter (wsG yX12_numberAfter cX12_numberAfter 4 (some (FieldType.int))) { frames := 7, cells := 0, slots := 0, locals := 150 } (xP D cA s0 [.ref b, .ref a1r, .int a2, .int a3] (fun H => H.size = sz ∧ RX D cA s0 z b ν H ∧ Str D cA s0 z a1r a1 H)) (xQm (some (.int r.1)) (fun H => RX D cA s0 z b r.2 H) (xA b 8 sz)) 0 0 (xA b 8 sz) := by
  refine x_start (own := RX12) [(0, .ref b), (1, .ref a1r), (2, .int a2), (3, .int a3)] rfl rfl (by decide) (nb rfl) ?_
  intro p e s m args below meth c C hw
  obtain ⟨hsz, hw, hst0_a1⟩ := hw
  subst hsz
  have hS : va_S (xA b 8 s.heap.size) s.heap s.heap [] := va_S.rf
  refine x_aload_n C dX12_numberAfter_0 rfl ?_
  refine x_aload_n C dX12_numberAfter_1 rfl ?_
  obtain ⟨q1, hq2, hF⟩ := bnd_e hF
  refine x_goM (fun ls h => x_runV (As := [.ref a1r]) [] h C ml_X12_167 (k_X12_word l D cA s0 z b ν _ hG a1r a1 q1 hq2) ⟨rfl, rfl, nb rfl, nb rfl⟩ rfl (M_obj hw.2.2.2.2) rfl ⟨rfl, hw, (Str.now hst0_a1 hw.1 hw.2.1 hS)⟩ (nb rfl) ⟨Nat.zero_le _, Nat.zero_le _⟩ dX12_numberAfter_2) hS (xA_le hS) (fun H locs hw hz hk hS => ?_)
  have hw : RX D cA s0 z b q1 H := hw
  refine x_aload_n C dX12_numberAfter_5 rfl ?_
  refine x_iload_n C dX12_numberAfter_6 rfl ?_
  refine x_iload_n C dX12_numberAfter_7 rfl ?_
  obtain ⟨q3, hq4, hF⟩ := bnd_e hF
  refine x_goM (fun ls h => x_runV (As := [.int a2, .int a3]) [] h C ml_X12_171 (k_X12_number l D cA s0 z b q1 _ hG a2 a3 q3 hq4) ⟨rfl, rfl, nb rfl, nb rfl⟩ rfl (M_obj hw.2.2.2.2) rfl ⟨rfl, hw⟩ (nb rfl) ⟨Nat.zero_le _, Nat.zero_le _⟩ dX12_numberAfter_8) hS (xA_le hS) (fun H locs hw hz hk hS => ?_)
  have hw : RX D cA s0 z b q3.2 H := hw
  exact x_iretM2 C rfl dX12_numberAfter_11  (rm_i hF) (rm_m (W := fun m => RX D cA s0 z b m _) hF hw) hS (nb rfl) (nb rfl)
noncomputable def g_X12_semicolon (ν : Mm) : Option (Mm) := bnd (some (f_X12_good ν)) (fun q1 => (if q1 = true then (if (ν.1 0 10) = (3 : Int32) then (if (ν.1 0 11) = (59 : Int32) then bnd (g_X12_goOn ν) (fun q15 => some q15) else bnd (g_X12_errs ν (1 : Int32)) (fun q17 => bnd (g_X12_goOn q17) (fun q19 => some q19))) else bnd (g_X12_errs ν (1 : Int32)) (fun q10 => bnd (g_X12_goOn q10) (fun q12 => some q12))) else bnd (g_X12_errs ν (1 : Int32)) (fun q5 => bnd (g_X12_goOn q5) (fun q7 => some q7))))
set_option maxRecDepth 20000 in
set_option maxHeartbeats 4000000 in
theorem k_X12_semicolon (l : Launch) (D : va_G) (cA : Nat → ClassId) (s0 : State) (z : Nat) (b : Nat) (ν : Mm) (sz : Nat) (hG : xG l D cA s0) (r : Mm) (hF : g_X12_semicolon ν = some r) : Met l yX12_semicolon (wsG yX12_semicolon cX12_semicolon 1 none) { frames := 3, cells := 0, slots := 0, locals := 66 } (xP D cA s0 [.ref b] (fun H => H.size = sz ∧ RX D cA s0 z b ν H)) (xQm none (fun H => RX D cA s0 z b r H) (xA b 8 sz)) 0 0 (xA b 8 sz) := by
  refine x_start (own := RX12) [(0, .ref b)] rfl rfl (by decide) (nb rfl) ?_
  intro p e s m args below meth c C hw
  obtain ⟨hsz, hw⟩ := hw
  subst hsz
  have hS : va_S (xA b 8 s.heap.size) s.heap s.heap [] := va_S.rf
  refine x_aload_n C dX12_semicolon_0 rfl ?_
  obtain ⟨q1, hq2, hF⟩ := bnd_e hF
  have hq2 := Option.some.inj hq2
  have K3 := c_X12_good l D cA s0 b ν 
  rw [hq2] at K3
  refine x_goR (fun ls h => x_runV (As := []) [] h C ml_X12_73 K3 ⟨rfl, rfl, nb rfl, nb rfl⟩ rfl (M_obj hw.2.2.2.2) rfl hw.2.2.2.2 (nb rfl) ⟨Nat.zero_le _, Nat.zero_le _⟩ dX12_semicolon_1) ?_
  refine x_ifB_eq 24 C dX12_semicolon_4 (by decide) (fun c4 => ?_) (fun c4 => ?_)
  · have hF := ite_f hF (nbt c4)
    refine x_aload_n C dX12_semicolon_24 rfl ?_
    refine x_iconst (1 : Int32) C dX12_semicolon_25 rfl ?_
    obtain ⟨q5, hq6, hF⟩ := bnd_e hF
    refine x_goM (fun ls h => x_runV (As := [.int (1 : Int32)]) [] h C ml_X12_161 (k_X12_errs l D cA s0 z b ν _ hG (1 : Int32) q5 hq6) ⟨rfl, rfl, nb rfl, nb rfl⟩ rfl (M_obj hw.2.2.2.2) rfl ⟨rfl, hw⟩ (nb rfl) ⟨Nat.zero_le _, Nat.zero_le _⟩ dX12_semicolon_26) hS (xA_le hS) (fun H locs hw hz hk hS => ?_)
    have hw : RX D cA s0 z b q5 H := hw
    refine x_aload_n C dX12_semicolon_29 rfl ?_
    obtain ⟨q7, hq8, hF⟩ := bnd_e hF
    refine x_goM (fun ls h => x_runV (As := []) [] h C ml_X12_164 (k_X12_goOn l D cA s0 z b q5 _ hG q7 hq8) ⟨rfl, rfl, nb rfl, nb rfl⟩ rfl (M_obj hw.2.2.2.2) rfl ⟨rfl, hw⟩ (nb rfl) ⟨Nat.zero_le _, Nat.zero_le _⟩ dX12_semicolon_30) hS (xA_le hS) (fun H locs hw hz hk hS => ?_)
    have hw : RX D cA s0 z b q7 H := hw
    exact x_vretM2 C rfl dX12_semicolon_33 rfl (rv_m (W := fun m => RX D cA s0 z b m _) hF hw) hS (nb rfl) (nb rfl)
  · have hF := ite_t hF c4
    refine x_aload_n C dX12_semicolon_7 rfl ?_
    refine x_get (.int (ν.1 0 10)) C fl_X12_90 (M_obj hw.2.2.2.2) rfl dX12_semicolon_8 ?_
    refine x_iconst (3 : Int32) C dX12_semicolon_11 rfl ?_
    refine x_icmp_ne 24 C dX12_semicolon_12 (by decide) (fun c9 => ?_) (fun c9 => ?_)
    · have hF := ite_f hF c9
      refine x_aload_n C dX12_semicolon_24 rfl ?_
      refine x_iconst (1 : Int32) C dX12_semicolon_25 rfl ?_
      obtain ⟨q10, hq11, hF⟩ := bnd_e hF
      refine x_goM (fun ls h => x_runV (As := [.int (1 : Int32)]) [] h C ml_X12_161 (k_X12_errs l D cA s0 z b ν _ hG (1 : Int32) q10 hq11) ⟨rfl, rfl, nb rfl, nb rfl⟩ rfl (M_obj hw.2.2.2.2) rfl ⟨rfl, hw⟩ (nb rfl) ⟨Nat.zero_le _, Nat.zero_le _⟩ dX12_semicolon_26) hS (xA_le hS) (fun H locs hw hz hk hS => ?_)
      have hw : RX D cA s0 z b q10 H := hw
      refine x_aload_n C dX12_semicolon_29 rfl ?_
      obtain ⟨q12, hq13, hF⟩ := bnd_e hF
      refine x_goM (fun ls h => x_runV (As := []) [] h C ml_X12_164 (k_X12_goOn l D cA s0 z b q10 _ hG q12 hq13) ⟨rfl, rfl, nb rfl, nb rfl⟩ rfl (M_obj hw.2.2.2.2) rfl ⟨rfl, hw⟩ (nb rfl) ⟨Nat.zero_le _, Nat.zero_le _⟩ dX12_semicolon_30) hS (xA_le hS) (fun H locs hw hz hk hS => ?_)
      have hw : RX D cA s0 z b q12 H := hw
      exact x_vretM2 C rfl dX12_semicolon_33 rfl (rv_m (W := fun m => RX D cA s0 z b m _) hF hw) hS (nb rfl) (nb rfl)
    · have hF := ite_t hF c9
      refine x_aload_n C dX12_semicolon_15 rfl ?_
      refine x_get (.int (ν.1 0 11)) C fl_X12_101 (M_obj hw.2.2.2.2) rfl dX12_semicolon_16 ?_
      refine x_bipush (59 : Int32) C dX12_semicolon_19 rfl ?_
      refine x_icmp_eq 29 C dX12_semicolon_21 (by decide) (fun c14 => ?_) (fun c14 => ?_)
      · have hF := ite_t hF c14
        refine x_aload_n C dX12_semicolon_29 rfl ?_
        obtain ⟨q15, hq16, hF⟩ := bnd_e hF
        refine x_goM (fun ls h => x_runV (As := []) [] h C ml_X12_164 (k_X12_goOn l D cA s0 z b ν _ hG q15 hq16) ⟨rfl, rfl, nb rfl, nb rfl⟩ rfl (M_obj hw.2.2.2.2) rfl ⟨rfl, hw⟩ (nb rfl) ⟨Nat.zero_le _, Nat.zero_le _⟩ dX12_semicolon_30) hS (xA_le hS) (fun H locs hw hz hk hS => ?_)
        have hw : RX D cA s0 z b q15 H := hw
        exact x_vretM2 C rfl dX12_semicolon_33 rfl (rv_m (W := fun m => RX D cA s0 z b m _) hF hw) hS (nb rfl) (nb rfl)
      · have hF := ite_f hF c14
        refine x_aload_n C dX12_semicolon_24 rfl ?_
        refine x_iconst (1 : Int32) C dX12_semicolon_25 rfl ?_
        obtain ⟨q17, hq18, hF⟩ := bnd_e hF
        refine x_goM (fun ls h => x_runV (As := [.int (1 : Int32)]) [] h C ml_X12_161 (k_X12_errs l D cA s0 z b ν _ hG (1 : Int32) q17 hq18) ⟨rfl, rfl, nb rfl, nb rfl⟩ rfl (M_obj hw.2.2.2.2) rfl ⟨rfl, hw⟩ (nb rfl) ⟨Nat.zero_le _, Nat.zero_le _⟩ dX12_semicolon_26) hS (xA_le hS) (fun H locs hw hz hk hS => ?_)
        have hw : RX D cA s0 z b q17 H := hw
        refine x_aload_n C dX12_semicolon_29 rfl ?_
        obtain ⟨q19, hq20, hF⟩ := bnd_e hF
        refine x_goM (fun ls h => x_runV (As := []) [] h C ml_X12_164 (k_X12_goOn l D cA s0 z b q17 _ hG q19 hq20) ⟨rfl, rfl, nb rfl, nb rfl⟩ rfl (M_obj hw.2.2.2.2) rfl ⟨rfl, hw⟩ (nb rfl) ⟨Nat.zero_le _, Nat.zero_le _⟩ dX12_semicolon_30) hS (xA_le hS) (fun H locs hw hz hk hS => ?_)
        have hw : RX D cA s0 z b q19 H := hw
        exact x_vretM2 C rfl dX12_semicolon_33 rfl (rv_m (W := fun m => RX D cA s0 z b m _) hF hw) hS (nb rfl) (nb rfl)
noncomputable def g_X12_letter (ν : Mm) (a1 : Int32) : Option (Int32) := (if ((ν.1 0 8) - (ν.1 0 9)) ≤ a1 then some (0 : Int32) else asr (vp_in ((ν.1 0 9) + a1) 800) (some (ν.1 4 (cl ((ν.1 0 9) + a1)))))
set_option maxRecDepth 20000 in
set_option maxHeartbeats 4000000 in
theorem k_X12_letter (l : Launch) (D : va_G) (cA : Nat → ClassId) (s0 : State) (z : Nat) (b : Nat) (ν : Mm) (hG : xG l D cA s0) (a1 : Int32) (r : Int32) (hF : g_X12_letter ν a1 = some r) : Met l yX12_letter (wsG yX12_letter cX12_letter 2 (some (FieldType.int))) { frames := 0, cells := 0, slots := 0, locals := 0 } (xP D cA s0 [.ref b, .int a1] (RX D cA s0 z b ν)) (xQr (some (.int r))) 0 0 xN := by
  refine x_start (own := RX12) [(0, .ref b), (1, .int a1)] rfl rfl (by decide) (nb rfl) ?_
  intro p e s m args below meth c C hw
  refine x_iload_n C dX12_letter_0 rfl ?_
  refine x_aload_n C dX12_letter_1 rfl ?_
  refine x_get (.int (ν.1 0 8)) C fl_X12_83 (M_obj hw.2.2.2.2) rfl dX12_letter_2 ?_
  refine x_aload_n C dX12_letter_5 rfl ?_
  refine x_get (.int (ν.1 0 9)) C fl_X12_77 (M_obj hw.2.2.2.2) rfl dX12_letter_6 ?_
  refine x_isub C dX12_letter_9 ?_
  refine x_icmp_ge 27 C dX12_letter_10 (by decide) (fun c1 => ?_) (fun c1 => ?_)
  · have hF := ite_t hF c1
    refine x_iconst (0 : Int32) C dX12_letter_27 rfl ?_
    exact x_iretR C rfl dX12_letter_28  (r_i hF)
  · have hF := ite_f hF c1
    refine x_aload_n C dX12_letter_13 rfl ?_
    refine x_get (.ref (b + 4)) C fl_X12_31 (M_obj hw.2.2.2.2) rfl dX12_letter_14 ?_
    refine x_aload_n C dX12_letter_17 rfl ?_
    refine x_get (.int (ν.1 0 9)) C fl_X12_77 (M_obj hw.2.2.2.2) rfl dX12_letter_18 ?_
    refine x_iload_n C dX12_letter_21 rfl ?_
    refine x_iadd C dX12_letter_22 ?_
    obtain ⟨h2, hF⟩ := asr_e hF
    obtain ⟨hn3, hl4⟩ := vpn h2 (by decide)
    refine x_baldN C (M_a4 hw.2.2.2.2) hn3 hl4 (by decide) dX12_letter_23 ?_
    refine x_goto 28 C dX12_letter_24 (by decide) ?_
    exact x_iretR C rfl dX12_letter_28  (r_i hF)
noncomputable def g_X12_named_L34 (ν : Mm) : Nat → Int32 → Bool → Int32 → Option (Bool)
  | 0, _, _, _ => none
  | n + 1, x1, x2, x3 => (if (6 : Int32) ≤ x3 then some x2 else (if x2 = true then asr (isRow (ν.2.2 0 3)) (asr (vp_in ((((274 : Int32) + ((7 : Int32) * x1)) + (1 : Int32)) + x3) 1377) (bnd (g_X12_letter ν x3) (fun q10 => (if (ν.1 (ν.2.2 0 3) (cl ((((274 : Int32) + ((7 : Int32) * x1)) + (1 : Int32)) + x3))) = q10 then (g_X12_named_L34 ν n x1 true (x3 + (1 : Int32))) else (g_X12_named_L34 ν n x1 false (x3 + (1 : Int32))))))) else some x2))
noncomputable def g_X12_named_L2 (ν : Mm) : Nat → Int32 → Option (Int32)
  | 0, _ => none
  | n + 1, x1 => asr (isRow (ν.2.2 0 3)) ((if (ν.1 (ν.2.2 0 3) 0) ≤ x1 then some (-1 : Int32) else (if (6 : Int32) < ((ν.1 0 8) - (ν.1 0 9)) then bnd (g_X12_named_L34 ν 10000 x1 false (0 : Int32)) (fun q13 => (if q13 = true then some x1 else (g_X12_named_L2 ν n (x1 + (1 : Int32))))) else bnd (g_X12_named_L34 ν 10000 x1 true (0 : Int32)) (fun q16 => (if q16 = true then some x1 else (g_X12_named_L2 ν n (x1 + (1 : Int32))))))))
noncomputable def g_X12_named (ν : Mm) : Option (Int32) := (g_X12_named_L2 ν 10000 (0 : Int32))
set_option maxRecDepth 20000 in
set_option maxHeartbeats 4000000 in
theorem k_X12_named (l : Launch) (D : va_G) (cA : Nat → ClassId) (s0 : State) (z : Nat) (b : Nat) (ν : Mm) (hG : xG l D cA s0) (r : Int32) (hF : g_X12_named ν = some r) : Met l yX12_named (wsG yX12_named cX12_named 4 (some (FieldType.int))) { frames := 1, cells := 0, slots := 0, locals := 21 } (xP D cA s0 [.ref b] (RX D cA s0 z b ν)) (xQr (some (.int r))) 0 0 xN := by
  refine x_start (own := RX12) [(0, .ref b)] rfl rfl (by decide) (nb rfl) ?_
  intro p e s m args below meth c C hw
  have h_L34 : ∀ (n : Nat) (x1 : Int32) (x2 : Bool) (x3 : Int32) (t : Bool), g_X12_named_L34 ν n x1 x2 x3 = some t → (xW p l e { frames := 1, cells := 0, slots := 0, locals := 21 } s m args below meth c 4 (MQ below (xQr (some (.int r))) args s 0 0 xN) s.heap [] 0 0 81 [(0, .ref b), (1, .int x1), (2, .int (bI t))] []) → xW p l e { frames := 1, cells := 0, slots := 0, locals := 21 } s m args below meth c 4 (MQ below (xQr (some (.int r))) args s 0 0 xN) s.heap [] 0 0 34 [(0, .ref b), (1, .int x1), (2, .int (bI x2)), (3, .int x3)] [] := by
    intro n
    induction n with
    | zero =>
      intro x1 x2 x3 t hF kk
      exact no_some hF
    | succ n ih =>
      intro x1 x2 x3 t hF kk
      have ih34 := ih
      refine x_iload_n C dX12_named_34 rfl ?_
      refine x_bipush (6 : Int32) C dX12_named_35 rfl ?_
      refine x_icmp_ge 81 C dX12_named_37 (by decide) (fun c4 => ?_) (fun c4 => ?_)
      · have hF := ite_t hF c4
        cases hF
        refine x_sub [(0, .ref b), (1, .int x1), (2, .int (bI x2))] [0, 1, 2] rfl ?_
        exact kk
      · have hF := ite_f hF c4
        refine x_iload_n C dX12_named_40 rfl ?_
        refine x_ifB_eq 81 C dX12_named_41 (by decide) (fun c5 => ?_) (fun c5 => ?_)
        · have hF := ite_f hF (nbt c5)
          cases hF
          refine x_sub [(0, .ref b), (1, .int x1), (2, .int (bI x2))] [0, 1, 2] rfl ?_
          exact kk
        · have hF := ite_t hF c5
          refine x_aload_n C dX12_named_44 rfl ?_
          obtain ⟨h6, hF⟩ := asr_e hF
          refine x_get (.ref (b + ν.2.2 0 3)) C fl_X12_24 (M_obj hw.2.2.2.2) rfl dX12_named_45 ?_
          refine x_sipush (274 : Int32) C dX12_named_48 rfl ?_
          refine x_bipush (7 : Int32) C dX12_named_51 rfl ?_
          refine x_iload_n C dX12_named_53 rfl ?_
          refine x_imul C dX12_named_54 ?_
          refine x_iadd C dX12_named_55 ?_
          refine x_iconst (1 : Int32) C dX12_named_56 rfl ?_
          refine x_iadd C dX12_named_57 ?_
          refine x_iload_n C dX12_named_58 rfl ?_
          refine x_iadd C dX12_named_59 ?_
          obtain ⟨h7, hF⟩ := asr_e hF
          obtain ⟨hn8, hl9⟩ := vpn h7 (by decide)
          refine x_ialdN C (M_row h6 hw.2.2.2.2) hn8 hl9 (by decide) dX12_named_60 ?_
          refine x_aload_n C dX12_named_61 rfl ?_
          refine x_iload_n C dX12_named_62 rfl ?_
          obtain ⟨q10, hq11, hF⟩ := bnd_e hF
          refine x_goR (fun ls h => x_runV (As := [.int x3]) [.int (ν.1 (ν.2.2 0 3) (cl ((((274 : Int32) + ((7 : Int32) * x1)) + (1 : Int32)) + x3)))] h C ml_X12_174 (k_X12_letter l D cA s0 z b ν hG x3 q10 hq11) ⟨rfl, rfl, nb rfl, nb rfl⟩ rfl (M_obj hw.2.2.2.2) rfl hw (nb rfl) ⟨Nat.zero_le _, Nat.zero_le _⟩ dX12_named_63) ?_
          refine x_icmp_ne 73 C dX12_named_66 (by decide) (fun c12 => ?_) (fun c12 => ?_)
          · have hF := ite_f hF c12
            refine x_iconst (0 : Int32) C dX12_named_73 rfl ?_
            refine x_istore_n [(2, .int (0 : Int32)), (0, .ref b), (1, .int x1), (3, .int x3)] C dX12_named_74 rfl (by decide) rfl ?_
            refine x_iinc (x3 + (1 : Int32)) [(3, .int (x3 + (1 : Int32))), (2, .int (0 : Int32)), (0, .ref b), (1, .int x1)] C dX12_named_75 rfl rfl (by decide) rfl ?_
            refine x_goto 34 C dX12_named_78 (by decide) ?_
            refine x_sub [(0, .ref b), (1, .int x1), (2, .int (0 : Int32)), (3, .int (x3 + (1 : Int32)))] [2, 3, 1, 0] rfl ?_
            exact ih34 x1 false (x3 + (1 : Int32)) t hF kk
          · have hF := ite_t hF c12
            refine x_iconst (1 : Int32) C dX12_named_69 rfl ?_
            refine x_goto 74 C dX12_named_70 (by decide) ?_
            refine x_istore_n [(2, .int (1 : Int32)), (0, .ref b), (1, .int x1), (3, .int x3)] C dX12_named_74 rfl (by decide) rfl ?_
            refine x_iinc (x3 + (1 : Int32)) [(3, .int (x3 + (1 : Int32))), (2, .int (1 : Int32)), (0, .ref b), (1, .int x1)] C dX12_named_75 rfl rfl (by decide) rfl ?_
            refine x_goto 34 C dX12_named_78 (by decide) ?_
            refine x_sub [(0, .ref b), (1, .int x1), (2, .int (1 : Int32)), (3, .int (x3 + (1 : Int32)))] [2, 3, 1, 0] rfl ?_
            exact ih34 x1 true (x3 + (1 : Int32)) t hF kk
  have h_L2 : ∀ (n : Nat) (x1 : Int32), g_X12_named_L2 ν n x1 = some r → xW p l e { frames := 1, cells := 0, slots := 0, locals := 21 } s m args below meth c 4 (MQ below (xQr (some (.int r))) args s 0 0 xN) s.heap [] 0 0 2 [(0, .ref b), (1, .int x1)] [] := by
    intro n
    induction n with
    | zero =>
      intro x1 hF
      exact no_some hF
    | succ n ih =>
      intro x1 hF
      have ih2 := ih
      refine x_iload_n C dX12_named_2 rfl ?_
      refine x_aload_n C dX12_named_3 rfl ?_
      obtain ⟨h1, hF⟩ := asr_e hF
      refine x_get (.ref (b + ν.2.2 0 3)) C fl_X12_24 (M_obj hw.2.2.2.2) rfl dX12_named_4 ?_
      refine x_iconst (0 : Int32) C dX12_named_7 rfl ?_
      refine x_ialdN C (M_row h1 hw.2.2.2.2) (ixl (x := (0 : Int32)) 0 rfl) (by decide) (by decide) dX12_named_8 ?_
      refine x_icmp_ge 93 C dX12_named_9 (by decide) (fun c2 => ?_) (fun c2 => ?_)
      · have hF := ite_t hF c2
        refine x_iconst (-1 : Int32) C dX12_named_93 rfl ?_
        exact x_iretR C rfl dX12_named_94  (r_i hF)
      · have hF := ite_f hF c2
        refine x_aload_n C dX12_named_12 rfl ?_
        refine x_get (.int (ν.1 0 8)) C fl_X12_83 (M_obj hw.2.2.2.2) rfl dX12_named_13 ?_
        refine x_aload_n C dX12_named_16 rfl ?_
        refine x_get (.int (ν.1 0 9)) C fl_X12_77 (M_obj hw.2.2.2.2) rfl dX12_named_17 ?_
        refine x_isub C dX12_named_20 ?_
        refine x_bipush (6 : Int32) C dX12_named_21 rfl ?_
        refine x_icmp_gt 30 C dX12_named_23 (by decide) (fun c3 => ?_) (fun c3 => ?_)
        · have hF := ite_t hF c3
          refine x_iconst (0 : Int32) C dX12_named_30 rfl ?_
          refine x_istore_n [(2, .int (0 : Int32)), (0, .ref b), (1, .int x1)] C dX12_named_31 rfl (by decide) rfl ?_
          refine x_iconst (0 : Int32) C dX12_named_32 rfl ?_
          refine x_istore_n [(3, .int (0 : Int32)), (2, .int (0 : Int32)), (0, .ref b), (1, .int x1)] C dX12_named_33 rfl (by decide) rfl ?_
          obtain ⟨q13, hq14, hF⟩ := bnd_e hF
          refine x_sub [(0, .ref b), (1, .int x1), (2, .int (0 : Int32)), (3, .int (0 : Int32))] [2, 3, 1, 0] rfl ?_
          refine h_L34 10000 x1 false (0 : Int32) q13 hq14 ?_
          refine x_iload_n C dX12_named_81 rfl ?_
          refine x_ifB_eq 87 C dX12_named_82 (by decide) (fun c15 => ?_) (fun c15 => ?_)
          · have hF := ite_f hF (nbt c15)
            refine x_iinc (x1 + (1 : Int32)) [(1, .int (x1 + (1 : Int32))), (0, .ref b), (2, .int (bI q13))] C dX12_named_87 rfl rfl (by decide) rfl ?_
            refine x_goto 2 C dX12_named_90 (by decide) ?_
            refine x_sub [(0, .ref b), (1, .int (x1 + (1 : Int32)))] [1, 0] rfl ?_
            exact ih2 (x1 + (1 : Int32)) hF
          · have hF := ite_t hF c15
            refine x_iload_n C dX12_named_85 rfl ?_
            exact x_iretR C rfl dX12_named_86  (r_i hF)
        · have hF := ite_f hF c3
          refine x_iconst (1 : Int32) C dX12_named_26 rfl ?_
          refine x_goto 31 C dX12_named_27 (by decide) ?_
          refine x_istore_n [(2, .int (1 : Int32)), (0, .ref b), (1, .int x1)] C dX12_named_31 rfl (by decide) rfl ?_
          refine x_iconst (0 : Int32) C dX12_named_32 rfl ?_
          refine x_istore_n [(3, .int (0 : Int32)), (2, .int (1 : Int32)), (0, .ref b), (1, .int x1)] C dX12_named_33 rfl (by decide) rfl ?_
          obtain ⟨q16, hq17, hF⟩ := bnd_e hF
          refine x_sub [(0, .ref b), (1, .int x1), (2, .int (1 : Int32)), (3, .int (0 : Int32))] [2, 3, 1, 0] rfl ?_
          refine h_L34 10000 x1 true (0 : Int32) q16 hq17 ?_
          refine x_iload_n C dX12_named_81 rfl ?_
          refine x_ifB_eq 87 C dX12_named_82 (by decide) (fun c18 => ?_) (fun c18 => ?_)
          · have hF := ite_f hF (nbt c18)
            refine x_iinc (x1 + (1 : Int32)) [(1, .int (x1 + (1 : Int32))), (0, .ref b), (2, .int (bI q16))] C dX12_named_87 rfl rfl (by decide) rfl ?_
            refine x_goto 2 C dX12_named_90 (by decide) ?_
            refine x_sub [(0, .ref b), (1, .int (x1 + (1 : Int32)))] [1, 0] rfl ?_
            exact ih2 (x1 + (1 : Int32)) hF
          · have hF := ite_t hF c18
            refine x_iload_n C dX12_named_85 rfl ?_
            exact x_iretR C rfl dX12_named_86  (r_i hF)
  refine x_iconst (0 : Int32) C dX12_named_0 rfl ?_
  refine x_istore_n [(1, .int (0 : Int32)), (0, .ref b)] C dX12_named_1 rfl (by decide) rfl ?_
  refine x_sub [(0, .ref b), (1, .int (0 : Int32))] [1, 0] rfl ?_
  exact h_L2 10000 (0 : Int32) hF
