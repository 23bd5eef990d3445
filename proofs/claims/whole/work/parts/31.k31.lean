noncomputable def g_X0_rebuiltLine (ν : Mm) (a1 : Nat) (a2 : Int32) : Option (Int32) := asr (isInv a1) (bnd (g_X4_stands ν a1 a2) (fun q1 => (if q1 = true then asr (vp_in (ν.1 a1 3) 21) ((if a2 = (3 : Int32) then asr (vp_in (ν.1 a1 1) 40) (bnd (g_X2_contestedDays ν (7 + (22 + (cl (ν.1 a1 1))))) (fun q15 => bnd (g_J6_bitCount_0f7a4 ((ν.1 a1 6) &&& (q15 ^^^ (-1 : Int32)))) (fun q17 => some ((ν.1 (7 + (222 + 5 * (cl (ν.1 a1 3)))) 11) * q17)))) else bnd (g_X5_rankOf ν 7 (ν.1 a1 1)) (fun q8 => bnd (g_X5_lineAtRank ν 7 (7 + (222 + 5 * (cl (ν.1 a1 3)))) (ν.1 a1 1) a2 q8) (fun q10 => some q10)))) else some (0 : Int32))))
set_option maxRecDepth 20000 in
set_option maxHeartbeats 4000000 in
theorem k_X0_rebuiltLine (l : Launch) (D : va_G) (cA : Nat → ClassId) (s0 : State) (z : Nat) (b : Nat) (ν : Mm) (hG : xG l D cA s0) (a1 : Nat) (a2 : Int32) (r : Int32) (hF : g_X0_rebuiltLine ν a1 a2 = some r) : Met l yX0_rebuiltLine (wsG yX0_rebuiltLine cX0_rebuiltLine 5 (some (FieldType.int))) { frames := 3, cells := 0, slots := 0, locals := 72 } (xP D cA s0 [.ref (b + 2626), .ref (b + a1), .int a2] (WC D cA s0 z b ν)) (xQr (some (.int r))) 0 0 xN := by
  refine x_start (own := RX0) [(0, .ref (b + 2626)), (1, .ref (b + a1)), (2, .int a2)] rfl rfl (by decide) (nb rfl) ?_
  intro p e s m args below meth c C hw
  obtain ⟨hpa1, hF⟩ := asr_e hF
  refine x_aload_n C dX0_rebuiltLine_0 rfl ?_
  refine x_iload_n C dX0_rebuiltLine_1 rfl ?_
  obtain ⟨q1, hq2, hF⟩ := bnd_e hF
  refine x_goR (fun ls h => x_runV (As := [.int a2]) [] h C ml_X0_43 (k_X4_stands l D cA s0 z b ν hG a1 a2 q1 hq2) ⟨rfl, rfl, nb rfl, nb rfl⟩ rfl (C_Inv hpa1 hw) rfl hw (nb rfl) ⟨Nat.zero_le _, Nat.zero_le _⟩ dX0_rebuiltLine_2) ?_
  refine x_ifB_ne 10 C dX0_rebuiltLine_5 (by decide) (fun c3 => ?_) (fun c3 => ?_)
  · have hF := ite_t hF c3
    refine x_aload_n C dX0_rebuiltLine_10 rfl ?_
    refine x_get (.ref (b + 7)) C fl_X0_9 (C_Acc hw) rfl dX0_rebuiltLine_11 ?_
    refine x_get (.ref (b + (7 + 5))) C fl_X0_114 (C_Led led7 hw) rfl dX0_rebuiltLine_14 ?_
    refine x_aload_n C dX0_rebuiltLine_17 rfl ?_
    refine x_get (.int (ν.1 a1 3)) C fl_X0_82 (C_Inv hpa1 hw) rfl dX0_rebuiltLine_18 ?_
    obtain ⟨h4, hF⟩ := asr_e hF
    obtain ⟨hn5, hl6⟩ := vpn h4 (by decide)
    refine x_aald 7 C (C_versions led7 hw) rfl hn5 hl6 (by decide) rfl dX0_rebuiltLine_21 ?_
    refine x_astore_n [(3, .ref (b + (7 + (222 + 5 * (cl (ν.1 a1 3)))))), (0, .ref (b + 2626)), (1, .ref (b + a1)), (2, .int a2)] C dX0_rebuiltLine_22 rfl (by decide) rfl ?_
    refine x_iload_n C dX0_rebuiltLine_23 rfl ?_
    refine x_iconst (3 : Int32) C dX0_rebuiltLine_24 rfl ?_
    refine x_icmp_ne 63 C dX0_rebuiltLine_25 (by decide) (fun c7 => ?_) (fun c7 => ?_)
    · have hF := ite_f hF c7
      refine x_aload_n C dX0_rebuiltLine_63 rfl ?_
      refine x_get (.ref (b + 7)) C fl_X0_9 (C_Acc hw) rfl dX0_rebuiltLine_64 ?_
      refine x_aload_n C dX0_rebuiltLine_67 rfl ?_
      refine x_get (.int (ν.1 a1 1)) C fl_X0_25 (C_Inv hpa1 hw) rfl dX0_rebuiltLine_68 ?_
      refine x_iload_n C dX0_rebuiltLine_71 rfl ?_
      refine x_aload_n C dX0_rebuiltLine_72 rfl ?_
      refine x_aload_n C dX0_rebuiltLine_73 rfl ?_
      refine x_get (.ref (b + 7)) C fl_X0_9 (C_Acc hw) rfl dX0_rebuiltLine_74 ?_
      refine x_aload_n C dX0_rebuiltLine_77 rfl ?_
      refine x_get (.int (ν.1 a1 1)) C fl_X0_25 (C_Inv hpa1 hw) rfl dX0_rebuiltLine_78 ?_
      obtain ⟨q8, hq9, hF⟩ := bnd_e hF
      refine x_goR (fun ls h => x_runV (As := [.int (ν.1 a1 1)]) [.ref (b + (7 + (222 + 5 * (cl (ν.1 a1 3))))), .int a2, .int (ν.1 a1 1), .ref (b + 7)] h C ml_X0_128 (k_X5_rankOf l D cA s0 z b ν hG 7 (ν.1 a1 1) q8 hq9) ⟨rfl, rfl, nb rfl, nb rfl⟩ rfl (C_Led led7 hw) rfl hw (nb rfl) ⟨Nat.zero_le _, Nat.zero_le _⟩ dX0_rebuiltLine_81) ?_
      obtain ⟨q10, hq11, hF⟩ := bnd_e hF
      refine x_goR (fun ls h => x_runV (As := [.int (ν.1 a1 1), .int a2, .ref (b + (7 + (222 + 5 * (cl (ν.1 a1 3))))), .int q8]) [] h C ml_X0_131 (k_X5_lineAtRank l D cA s0 z b ν hG 7 (7 + (222 + 5 * (cl (ν.1 a1 3)))) (ν.1 a1 1) a2 q8 q10 hq11) ⟨rfl, rfl, nb rfl, nb rfl⟩ rfl (C_Led led7 hw) rfl hw (nb rfl) ⟨Nat.zero_le _, Nat.zero_le _⟩ dX0_rebuiltLine_84) ?_
      exact x_iretR C rfl dX0_rebuiltLine_87  (r_i hF)
    · have hF := ite_t hF c7
      refine x_aload_n C dX0_rebuiltLine_28 rfl ?_
      refine x_get (.int (ν.1 a1 6)) C fl_X0_47 (C_Inv hpa1 hw) rfl dX0_rebuiltLine_29 ?_
      refine x_aload_n C dX0_rebuiltLine_32 rfl ?_
      refine x_get (.ref (b + 7)) C fl_X0_9 (C_Acc hw) rfl dX0_rebuiltLine_33 ?_
      refine x_get (.ref (b + (7 + 2))) C fl_X0_15 (C_Led led7 hw) rfl dX0_rebuiltLine_36 ?_
      refine x_aload_n C dX0_rebuiltLine_39 rfl ?_
      refine x_get (.int (ν.1 a1 1)) C fl_X0_25 (C_Inv hpa1 hw) rfl dX0_rebuiltLine_40 ?_
      obtain ⟨h12, hF⟩ := asr_e hF
      obtain ⟨hn13, hl14⟩ := vpn h12 (by decide)
      refine x_aald 4 C (C_calls led7 hw) rfl hn13 hl14 (by decide) rfl dX0_rebuiltLine_43 ?_
      obtain ⟨q15, hq16, hF⟩ := bnd_e hF
      refine x_goR (fun ls h => x_runV (As := []) [.int (ν.1 a1 6)] h C ml_X0_57 (k_X2_contestedDays l D cA s0 z b ν hG (7 + (22 + (cl (ν.1 a1 1)))) q15 hq16) ⟨rfl, rfl, nb rfl, nb rfl⟩ rfl (C_Cal (mk_Cal led7 hl14) hw) rfl hw (nb rfl) ⟨Nat.zero_le _, Nat.zero_le _⟩ dX0_rebuiltLine_44) ?_
      refine x_iconst (-1 : Int32) C dX0_rebuiltLine_47 rfl ?_
      refine x_ixor C dX0_rebuiltLine_48 ?_
      refine x_iand C dX0_rebuiltLine_49 ?_
      refine x_istore [(4, .int ((ν.1 a1 6) &&& (q15 ^^^ (-1 : Int32)))), (3, .ref (b + (7 + (222 + 5 * (cl (ν.1 a1 3)))))), (0, .ref (b + 2626)), (1, .ref (b + a1)), (2, .int a2)] C dX0_rebuiltLine_50 (by decide) rfl ?_
      refine x_aload_n C dX0_rebuiltLine_52 rfl ?_
      refine x_get (.int (ν.1 (7 + (222 + 5 * (cl (ν.1 a1 3)))) 11)) C fl_X0_118 (C_Tar (mk_Tar led7 hl6) hw) rfl dX0_rebuiltLine_53 ?_
      refine x_iload C dX0_rebuiltLine_56 rfl ?_
      obtain ⟨q17, hq18, hF⟩ := bnd_e hF
      refine x_goR (fun ls h => x_runS (As := [.int ((ν.1 a1 6) &&& (q15 ^^^ (-1 : Int32)))]) [.int (ν.1 (7 + (222 + 5 * (cl (ν.1 a1 3)))) 11)] h C ml_X0_123 (k_J6_bitCount_0f7a4 l D cA s0 z hG ((ν.1 a1 6) &&& (q15 ^^^ (-1 : Int32))) q17 hq18) ⟨rfl, rfl, nb rfl, nb rfl⟩ rfl trivial (nb rfl) ⟨Nat.zero_le _, Nat.zero_le _⟩ dX0_rebuiltLine_58) ?_
      refine x_imul C dX0_rebuiltLine_61 ?_
      exact x_iretR C rfl dX0_rebuiltLine_62  (r_i hF)
  · have hF := ite_f hF (nbt c3)
    refine x_iconst (0 : Int32) C dX0_rebuiltLine_8 rfl ?_
    exact x_iretR C rfl dX0_rebuiltLine_9  (r_i hF)
noncomputable def g_X0_newInvoice_L87 (ν : Mm) (a1 : Int32) : Nat → Mm → Nat → Int32 → Option (Int32 × Mm)
  | 0, _, _, _ => none
  | n + 1, μ0, x3, x4 => (if (4 : Int32) ≤ x4 then bnd (some (uI μ0 7 7 ((μ0.1 7 7) + (1 : Int32)))) (fun μ22 => some (μ0.1 7 7, μ22)) else bnd (g_X0_rebuiltLine μ0 x3 x4) (fun q24 => asr (vp_in x4 4) (bnd (some (uI μ0 (x3 + 1) (cl x4) q24)) (fun μ29 => (g_X0_newInvoice_L87 ν a1 n μ29 x3 (x4 + (1 : Int32)))))))
noncomputable def g_X0_newInvoice_J43 (ν : Mm) (a1 : Int32) (μ0 : Mm) (x2 : Int32) (x3 : Nat) (y0 : Int32) (y1 : Int32) (y2 : Nat) : Option (Int32 × Mm) := bnd (some (uI μ0 y2 4 (y1 ||| y0))) (fun μ9 => bnd (some (uI μ9 x3 1 a1)) (fun μ11 => bnd (some (uI μ11 x3 2 (μ11.1 7 10))) (fun μ13 => bnd (some (uI μ13 x3 3 (μ13.1 7 9))) (fun μ15 => bnd (some (uI μ15 x3 5 (0 : Int32))) (fun μ17 => bnd (some (uI μ17 x3 6 x2)) (fun μ19 => (g_X0_newInvoice_L87 ν a1 10000 μ19 x3 (0 : Int32))))))))
noncomputable def g_X0_newInvoice (ν : Mm) (a1 : Int32) : Option (Int32 × Mm) := bnd (g_X0_billableDaysOf ν a1) (fun q1 => asr (vp_in (ν.1 7 7) 60) (bnd (g_X0_billedLinesOf ν a1) (fun q6 => (if q1 = 0 then (g_X0_newInvoice_J43 ν a1 ν q1 (7 + (62 + 2 * (cl (ν.1 7 7)))) (0 : Int32) ((7 : Int32) &&& (q6 ^^^ (-1 : Int32))) (7 + (62 + 2 * (cl (ν.1 7 7))))) else (g_X0_newInvoice_J43 ν a1 ν q1 (7 + (62 + 2 * (cl (ν.1 7 7)))) (8 : Int32) ((7 : Int32) &&& (q6 ^^^ (-1 : Int32))) (7 + (62 + 2 * (cl (ν.1 7 7)))))))))
set_option maxRecDepth 20000 in
set_option maxHeartbeats 4000000 in
theorem k_X0_newInvoice (l : Launch) (D : va_G) (cA : Nat → ClassId) (s0 : State) (z : Nat) (b : Nat) (ν : Mm) (sz : Nat) (hG : xG l D cA s0) (a1 : Int32) (r : Int32 × Mm) (hF : g_X0_newInvoice ν a1 = some r) : Met l yX0_newInvoice (wsG yX0_newInvoice cX0_newInvoice 5 (some (FieldType.int))) { frames := 4, cells := 0, slots := 0, locals := 96 } (xP D cA s0 [.ref (b + 2626), .int a1] (fun H => H.size = sz ∧ WC D cA s0 z b ν H)) (xQm (some (.int r.1)) (fun H => WC D cA s0 z b r.2 H) (xA b 2628 sz)) 0 0 (xA b 2628 sz) := by
  refine x_start (own := RX0) [(0, .ref (b + 2626)), (1, .int a1)] rfl rfl (by decide) (nb rfl) ?_
  intro p e s m args below meth c C hw
  obtain ⟨hsz, hw⟩ := hw
  subst hsz
  have hS : va_S (xA b 2628 s.heap.size) s.heap s.heap [] := va_S.rf
  have h_L87 : ∀ (n : Nat) (μ0 : Mm) (x3 : Nat) (x4 : Int32) (hpx3 : isInv x3) (H : Heap) (locs : List Loc) (hw : WC D cA s0 z b μ0 H) (hS : va_S (xA b 2628 s.heap.size) s.heap H locs), g_X0_newInvoice_L87 ν a1 n μ0 x3 x4 = some r → xW p l e { frames := 4, cells := 0, slots := 0, locals := 96 } s m args below meth c 5 (MQ below (xQm (some (.int r.1)) (fun H => WC D cA s0 z b r.2 H) (xA b 2628 s.heap.size)) args s 0 0 (xA b 2628 s.heap.size)) H locs 0 0 87 [(0, .ref (b + 2626)), (3, .ref (b + x3)), (4, .int x4)] [] := by
    intro n
    induction n with
    | zero =>
      intro μ0 x3 x4 hpx3 H locs hw hS hF
      exact no_some hF
    | succ n ih =>
      intro μ0 x3 x4 hpx3 H locs hw hS hF
      have ih87 := ih
      refine x_iload C dX0_newInvoice_87 rfl ?_
      refine x_iconst (4 : Int32) C dX0_newInvoice_89 rfl ?_
      refine x_icmp_ge 113 C dX0_newInvoice_90 (by decide) (fun c21 => ?_) (fun c21 => ?_)
      · have hF := ite_t hF c21
        refine x_aload_n C dX0_newInvoice_113 rfl ?_
        refine x_get (.ref (b + 7)) C fl_X0_9 (C_Acc hw) rfl dX0_newInvoice_114 ?_
        refine x_dup C dX0_newInvoice_117 rfl ?_
        refine x_get (.int (μ0.1 7 7)) C fl_X0_36 (C_Led led7 hw) rfl dX0_newInvoice_118 ?_
        refine x_dup_x1 C dX0_newInvoice_121 rfl rfl ?_
        refine x_iconst (1 : Int32) C dX0_newInvoice_122 rfl ?_
        refine x_iadd C dX0_newInvoice_123 ?_
        refine y_putI (kk0 := 7) 7 C fl_X0_36 hw (l4 led7) (fun nm => S_Led led7) (fun nm => S_Led led7) rfl rfl (fun _ => nb rfl) dX0_newInvoice_124 hS (xA_in (l4 led7)) (fun H locs hw hS => ?_)
        obtain ⟨μ22, hm23, hF⟩ := bnd_e hF
        have hw : WC D cA s0 z b μ22 H := rv_m (W := fun m => WC D cA s0 z b m _) hm23 hw
        exact x_iretM2 C rfl dX0_newInvoice_127  (rm_i hF) (rm_m (W := fun m => WC D cA s0 z b m _) hF hw) hS (nb rfl) (nb rfl)
      · have hF := ite_f hF c21
        refine x_aload_n C dX0_newInvoice_93 rfl ?_
        refine x_get (.ref (b + (x3 + 1))) C fl_X0_86 (C_Inv hpx3 hw) rfl dX0_newInvoice_94 ?_
        refine x_iload C dX0_newInvoice_97 rfl ?_
        refine x_aload_n C dX0_newInvoice_99 rfl ?_
        refine x_aload_n C dX0_newInvoice_100 rfl ?_
        refine x_iload C dX0_newInvoice_101 rfl ?_
        obtain ⟨q24, hq25, hF⟩ := bnd_e hF
        refine x_goR (fun ls h => x_runV (As := [.ref (b + x3), .int x4]) [.int x4, .ref (b + (x3 + 1))] h C ml_X0_90 (k_X0_rebuiltLine l D cA s0 z b μ0 hG x3 x4 q24 hq25) ⟨rfl, rfl, nb rfl, nb rfl⟩ rfl (C_Acc hw) rfl hw (nb rfl) ⟨Nat.zero_le _, Nat.zero_le _⟩ dX0_newInvoice_103) ?_
        obtain ⟨h26, hF⟩ := asr_e hF
        obtain ⟨hn27, hl28⟩ := vpn h26 (by decide)
        refine y_iast (x3 + 1) C hw (la_amounts hpx3) (fun nm f => S_amounts hpx3) hn27 hl28 (by decide) dX0_newInvoice_106 hS (xA_in (la_amounts hpx3)) (fun H locs hw hS => ?_)
        obtain ⟨μ29, hm30, hF⟩ := bnd_e hF
        have hw : WC D cA s0 z b μ29 H := rv_m (W := fun m => WC D cA s0 z b m _) hm30 hw
        refine x_iinc (x4 + (1 : Int32)) [(4, .int (x4 + (1 : Int32))), (0, .ref (b + 2626)), (3, .ref (b + x3))] C dX0_newInvoice_107 rfl rfl (by decide) rfl ?_
        refine x_goto 87 C dX0_newInvoice_110 (by decide) ?_
        refine x_sub [(0, .ref (b + 2626)), (3, .ref (b + x3)), (4, .int (x4 + (1 : Int32)))] [1, 2, 0] rfl ?_
        exact ih87 μ29 x3 (x4 + (1 : Int32)) hpx3 _ _ hw hS hF
  have h_J43 : ∀ (μ0 : Mm) (x2 : Int32) (x3 : Nat) (y0 : Int32) (y1 : Int32) (y2 : Nat) (hpx3 : isInv x3) (hpy2 : isInv y2) (H : Heap) (locs : List Loc) (hw : WC D cA s0 z b μ0 H) (hS : va_S (xA b 2628 s.heap.size) s.heap H locs), g_X0_newInvoice_J43 ν a1 μ0 x2 x3 y0 y1 y2 = some r → xW p l e { frames := 4, cells := 0, slots := 0, locals := 96 } s m args below meth c 5 (MQ below (xQm (some (.int r.1)) (fun H => WC D cA s0 z b r.2 H) (xA b 2628 s.heap.size)) args s 0 0 (xA b 2628 s.heap.size)) H locs 0 0 43 [(0, .ref (b + 2626)), (1, .int a1), (2, .int x2), (3, .ref (b + x3))] [.int y0, .int y1, .ref (b + y2)] := by
    intro μ0 x2 x3 y0 y1 y2 hpx3 hpy2 H locs hw hS hF
    refine x_ior C dX0_newInvoice_43 ?_
    refine y_putI (kk0 := 4) y2 C fl_X0_70 hw (l2 (lt_Inv hpy2)) (fun nm => S_Inv hpy2) (fun nm => S_Inv hpy2) rfl rfl (fun _ => nb rfl) dX0_newInvoice_44 hS (xA_in (l2 (lt_Inv hpy2))) (fun H locs hw hS => ?_)
    obtain ⟨μ9, hm10, hF⟩ := bnd_e hF
    have hw : WC D cA s0 z b μ9 H := rv_m (W := fun m => WC D cA s0 z b m _) hm10 hw
    refine x_aload_n C dX0_newInvoice_47 rfl ?_
    refine x_iload_n C dX0_newInvoice_48 rfl ?_
    refine y_putI (kk0 := 1) x3 C fl_X0_25 hw (l2 (lt_Inv hpx3)) (fun nm => S_Inv hpx3) (fun nm => S_Inv hpx3) rfl rfl (fun _ => nb rfl) dX0_newInvoice_49 hS (xA_in (l2 (lt_Inv hpx3))) (fun H locs hw hS => ?_)
    obtain ⟨μ11, hm12, hF⟩ := bnd_e hF
    have hw : WC D cA s0 z b μ11 H := rv_m (W := fun m => WC D cA s0 z b m _) hm12 hw
    refine x_aload_n C dX0_newInvoice_52 rfl ?_
    refine x_aload_n C dX0_newInvoice_53 rfl ?_
    refine x_get (.ref (b + 7)) C fl_X0_9 (C_Acc hw) rfl dX0_newInvoice_54 ?_
    refine x_get (.int (μ11.1 7 10)) C fl_X0_73 (C_Led led7 hw) rfl dX0_newInvoice_57 ?_
    refine y_putI (kk0 := 2) x3 C fl_X0_76 hw (l2 (lt_Inv hpx3)) (fun nm => S_Inv hpx3) (fun nm => S_Inv hpx3) rfl rfl (fun _ => nb rfl) dX0_newInvoice_60 hS (xA_in (l2 (lt_Inv hpx3))) (fun H locs hw hS => ?_)
    obtain ⟨μ13, hm14, hF⟩ := bnd_e hF
    have hw : WC D cA s0 z b μ13 H := rv_m (W := fun m => WC D cA s0 z b m _) hm14 hw
    refine x_aload_n C dX0_newInvoice_63 rfl ?_
    refine x_aload_n C dX0_newInvoice_64 rfl ?_
    refine x_get (.ref (b + 7)) C fl_X0_9 (C_Acc hw) rfl dX0_newInvoice_65 ?_
    refine x_get (.int (μ13.1 7 9)) C fl_X0_79 (C_Led led7 hw) rfl dX0_newInvoice_68 ?_
    refine y_putI (kk0 := 3) x3 C fl_X0_82 hw (l2 (lt_Inv hpx3)) (fun nm => S_Inv hpx3) (fun nm => S_Inv hpx3) rfl rfl (fun _ => nb rfl) dX0_newInvoice_71 hS (xA_in (l2 (lt_Inv hpx3))) (fun H locs hw hS => ?_)
    obtain ⟨μ15, hm16, hF⟩ := bnd_e hF
    have hw : WC D cA s0 z b μ15 H := rv_m (W := fun m => WC D cA s0 z b m _) hm16 hw
    refine x_aload_n C dX0_newInvoice_74 rfl ?_
    refine x_iconst (0 : Int32) C dX0_newInvoice_75 rfl ?_
    refine y_putI (kk0 := 5) x3 C fl_X0_83 hw (l2 (lt_Inv hpx3)) (fun nm => S_Inv hpx3) (fun nm => S_Inv hpx3) rfl rfl (fun _ => nb rfl) dX0_newInvoice_76 hS (xA_in (l2 (lt_Inv hpx3))) (fun H locs hw hS => ?_)
    obtain ⟨μ17, hm18, hF⟩ := bnd_e hF
    have hw : WC D cA s0 z b μ17 H := rv_m (W := fun m => WC D cA s0 z b m _) hm18 hw
    refine x_aload_n C dX0_newInvoice_79 rfl ?_
    refine x_iload_n C dX0_newInvoice_80 rfl ?_
    refine y_putI (kk0 := 6) x3 C fl_X0_47 hw (l2 (lt_Inv hpx3)) (fun nm => S_Inv hpx3) (fun nm => S_Inv hpx3) rfl rfl (fun _ => nb rfl) dX0_newInvoice_81 hS (xA_in (l2 (lt_Inv hpx3))) (fun H locs hw hS => ?_)
    obtain ⟨μ19, hm20, hF⟩ := bnd_e hF
    have hw : WC D cA s0 z b μ19 H := rv_m (W := fun m => WC D cA s0 z b m _) hm20 hw
    refine x_iconst (0 : Int32) C dX0_newInvoice_84 rfl ?_
    refine x_istore [(4, .int (0 : Int32)), (0, .ref (b + 2626)), (1, .int a1), (2, .int x2), (3, .ref (b + x3))] C dX0_newInvoice_85 (by decide) rfl ?_
    refine x_sub [(0, .ref (b + 2626)), (3, .ref (b + x3)), (4, .int (0 : Int32))] [1, 4, 0] rfl ?_
    exact h_L87 10000 μ19 x3 (0 : Int32) hpx3 _ _ hw hS hF
  refine x_aload_n C dX0_newInvoice_0 rfl ?_
  refine x_iload_n C dX0_newInvoice_1 rfl ?_
  obtain ⟨q1, hq2, hF⟩ := bnd_e hF
  refine x_goR (fun ls h => x_runV (As := [.int a1]) [] h C ml_X0_67 (k_X0_billableDaysOf l D cA s0 z b ν hG a1 q1 hq2) ⟨rfl, rfl, nb rfl, nb rfl⟩ rfl (C_Acc hw) rfl hw (nb rfl) ⟨Nat.zero_le _, Nat.zero_le _⟩ dX0_newInvoice_2) ?_
  refine x_istore_n [(2, .int q1), (0, .ref (b + 2626)), (1, .int a1)] C dX0_newInvoice_5 rfl (by decide) rfl ?_
  refine x_aload_n C dX0_newInvoice_6 rfl ?_
  refine x_get (.ref (b + 7)) C fl_X0_9 (C_Acc hw) rfl dX0_newInvoice_7 ?_
  refine x_get (.ref (b + (7 + 3))) C fl_X0_21 (C_Led led7 hw) rfl dX0_newInvoice_10 ?_
  refine x_aload_n C dX0_newInvoice_13 rfl ?_
  refine x_get (.ref (b + 7)) C fl_X0_9 (C_Acc hw) rfl dX0_newInvoice_14 ?_
  refine x_get (.int (ν.1 7 7)) C fl_X0_36 (C_Led led7 hw) rfl dX0_newInvoice_17 ?_
  obtain ⟨h3, hF⟩ := asr_e hF
  obtain ⟨hn4, hl5⟩ := vpn h3 (by decide)
  refine x_aald 5 C (C_invoices led7 hw) rfl hn4 hl5 (by decide) rfl dX0_newInvoice_20 ?_
  refine x_astore_n [(3, .ref (b + (7 + (62 + 2 * (cl (ν.1 7 7)))))), (2, .int q1), (0, .ref (b + 2626)), (1, .int a1)] C dX0_newInvoice_21 rfl (by decide) rfl ?_
  refine x_aload_n C dX0_newInvoice_22 rfl ?_
  refine x_bipush (7 : Int32) C dX0_newInvoice_23 rfl ?_
  refine x_aload_n C dX0_newInvoice_25 rfl ?_
  refine x_iload_n C dX0_newInvoice_26 rfl ?_
  obtain ⟨q6, hq7, hF⟩ := bnd_e hF
  refine x_goR (fun ls h => x_runV (As := [.int a1]) [.int (7 : Int32), .ref (b + (7 + (62 + 2 * (cl (ν.1 7 7)))))] h C ml_X0_64 (k_X0_billedLinesOf l D cA s0 z b ν hG a1 q6 hq7) ⟨rfl, rfl, nb rfl, nb rfl⟩ rfl (C_Acc hw) rfl hw (nb rfl) ⟨Nat.zero_le _, Nat.zero_le _⟩ dX0_newInvoice_27) ?_
  refine x_iconst (-1 : Int32) C dX0_newInvoice_30 rfl ?_
  refine x_ixor C dX0_newInvoice_31 ?_
  refine x_iand C dX0_newInvoice_32 ?_
  refine x_iload_n C dX0_newInvoice_33 rfl ?_
  refine x_if_eq 42 C dX0_newInvoice_34 (by decide) (fun c8 => ?_) (fun c8 => ?_)
  · have hF := ite_t hF c8
    refine x_iconst (0 : Int32) C dX0_newInvoice_42 rfl ?_
    refine x_sub [(0, .ref (b + 2626)), (1, .int a1), (2, .int q1), (3, .ref (b + (7 + (62 + 2 * (cl (ν.1 7 7))))))] [2, 3, 1, 0] rfl ?_
    exact h_J43 ν q1 (7 + (62 + 2 * (cl (ν.1 7 7)))) (0 : Int32) ((7 : Int32) &&& (q6 ^^^ (-1 : Int32))) (7 + (62 + 2 * (cl (ν.1 7 7)))) (mk_Inv led7 hl5) (mk_Inv led7 hl5) _ _ hw hS hF
  · have hF := ite_f hF c8
    refine x_bipush (8 : Int32) C dX0_newInvoice_37 rfl ?_
    refine x_goto 43 C dX0_newInvoice_39 (by decide) ?_
    refine x_sub [(0, .ref (b + 2626)), (1, .int a1), (2, .int q1), (3, .ref (b + (7 + (62 + 2 * (cl (ν.1 7 7))))))] [2, 3, 1, 0] rfl ?_
    exact h_J43 ν q1 (7 + (62 + 2 * (cl (ν.1 7 7)))) (8 : Int32) ((7 : Int32) &&& (q6 ^^^ (-1 : Int32))) (7 + (62 + 2 * (cl (ν.1 7 7)))) (mk_Inv led7 hl5) (mk_Inv led7 hl5) _ _ hw hS hF
noncomputable def g_X4_sumOf_L4 (ν : Mm) (o : Nat) (a1 : Int32) : Nat → Int32 → Int32 → Option (Int32)
  | 0, _, _ => none
  | n + 1, x2, x3 => (if (4 : Int32) ≤ x3 then some x2 else bnd (g_X11_contains a1 x3) (fun q2 => (if q2 = true then asr (vp_in x3 4) ((g_X4_sumOf_L4 ν o a1 n (x2 + (ν.1 (o + 1) (cl x3))) (x3 + (1 : Int32)))) else (g_X4_sumOf_L4 ν o a1 n x2 (x3 + (1 : Int32))))))
noncomputable def g_X4_sumOf (ν : Mm) (o : Nat) (a1 : Int32) : Option (Int32) := asr (isInv o) ((g_X4_sumOf_L4 ν o a1 10000 (0 : Int32) (0 : Int32)))
set_option maxRecDepth 20000 in
set_option maxHeartbeats 4000000 in
theorem k_X4_sumOf (l : Launch) (D : va_G) (cA : Nat → ClassId) (s0 : State) (z : Nat) (b : Nat) (ν : Mm) (hG : xG l D cA s0) (o : Nat) (a1 : Int32) (r : Int32) (hF : g_X4_sumOf ν o a1 = some r) : Met l yX4_sumOf (wsG yX4_sumOf cX4_sumOf 4 (some (FieldType.int))) { frames := 1, cells := 0, slots := 0, locals := 21 } (xP D cA s0 [.ref (b + o), .int a1] (WC D cA s0 z b ν)) (xQr (some (.int r))) 0 0 xN := by
  refine x_start (own := RX4) [(0, .ref (b + o)), (1, .int a1)] rfl rfl (by decide) (nb rfl) ?_
  intro p e s m args below meth c C hw
  obtain ⟨hpo, hF⟩ := asr_e hF
  have h_L4 : ∀ (n : Nat) (x2 : Int32) (x3 : Int32), g_X4_sumOf_L4 ν o a1 n x2 x3 = some r → xW p l e { frames := 1, cells := 0, slots := 0, locals := 21 } s m args below meth c 4 (MQ below (xQr (some (.int r))) args s 0 0 xN) s.heap [] 0 0 4 [(0, .ref (b + o)), (1, .int a1), (2, .int x2), (3, .int x3)] [] := by
    intro n
    induction n with
    | zero =>
      intro x2 x3 hF
      exact no_some hF
    | succ n ih =>
      intro x2 x3 hF
      have ih4 := ih
      refine x_iload_n C dX4_sumOf_4 rfl ?_
      refine x_iconst (4 : Int32) C dX4_sumOf_5 rfl ?_
      refine x_icmp_ge 32 C dX4_sumOf_6 (by decide) (fun c1 => ?_) (fun c1 => ?_)
      · have hF := ite_t hF c1
        refine x_iload_n C dX4_sumOf_32 rfl ?_
        exact x_iretR C rfl dX4_sumOf_33  (r_i hF)
      · have hF := ite_f hF c1
        refine x_iload_n C dX4_sumOf_9 rfl ?_
        refine x_iload_n C dX4_sumOf_10 rfl ?_
        obtain ⟨q2, hq3, hF⟩ := bnd_e hF
        refine x_goR (fun ls h => x_runN (As := [.int a1, .int x3]) [] h C ml_X4_44 (k_X11_contains l D cA s0 z hG a1 x3 q2 hq3) ⟨rfl, rfl, nb rfl, nb rfl⟩ rfl trivial (nb rfl) ⟨Nat.zero_le _, Nat.zero_le _⟩ dX4_sumOf_11) ?_
        refine x_ifB_eq 26 C dX4_sumOf_14 (by decide) (fun c4 => ?_) (fun c4 => ?_)
        · have hF := ite_f hF (nbt c4)
          refine x_iinc (x3 + (1 : Int32)) [(3, .int (x3 + (1 : Int32))), (0, .ref (b + o)), (1, .int a1), (2, .int x2)] C dX4_sumOf_26 rfl rfl (by decide) rfl ?_
          refine x_goto 4 C dX4_sumOf_29 (by decide) ?_
          refine x_sub [(0, .ref (b + o)), (1, .int a1), (2, .int x2), (3, .int (x3 + (1 : Int32)))] [1, 2, 3, 0] rfl ?_
          exact ih4 x2 (x3 + (1 : Int32)) hF
        · have hF := ite_t hF c4
          refine x_iload_n C dX4_sumOf_17 rfl ?_
          refine x_aload_n C dX4_sumOf_18 rfl ?_
          refine x_get (.ref (b + (o + 1))) C fl_X4_9 (C_Inv hpo hw) rfl dX4_sumOf_19 ?_
          refine x_iload_n C dX4_sumOf_22 rfl ?_
          obtain ⟨h5, hF⟩ := asr_e hF
          obtain ⟨hn6, hl7⟩ := vpn h5 (by decide)
          refine x_ialdN C (C_amounts hpo hw) hn6 hl7 (by decide) dX4_sumOf_23 ?_
          refine x_iadd C dX4_sumOf_24 ?_
          refine x_istore_n [(2, .int (x2 + (ν.1 (o + 1) (cl x3)))), (0, .ref (b + o)), (1, .int a1), (3, .int x3)] C dX4_sumOf_25 rfl (by decide) rfl ?_
          refine x_iinc (x3 + (1 : Int32)) [(3, .int (x3 + (1 : Int32))), (2, .int (x2 + (ν.1 (o + 1) (cl x3)))), (0, .ref (b + o)), (1, .int a1)] C dX4_sumOf_26 rfl rfl (by decide) rfl ?_
          refine x_goto 4 C dX4_sumOf_29 (by decide) ?_
          refine x_sub [(0, .ref (b + o)), (1, .int a1), (2, .int (x2 + (ν.1 (o + 1) (cl x3)))), (3, .int (x3 + (1 : Int32)))] [2, 3, 1, 0] rfl ?_
          exact ih4 (x2 + (ν.1 (o + 1) (cl x3))) (x3 + (1 : Int32)) hF
  refine x_iconst (0 : Int32) C dX4_sumOf_0 rfl ?_
  refine x_istore_n [(2, .int (0 : Int32)), (0, .ref (b + o)), (1, .int a1)] C dX4_sumOf_1 rfl (by decide) rfl ?_
  refine x_iconst (0 : Int32) C dX4_sumOf_2 rfl ?_
  refine x_istore_n [(3, .int (0 : Int32)), (2, .int (0 : Int32)), (0, .ref (b + o)), (1, .int a1)] C dX4_sumOf_3 rfl (by decide) rfl ?_
  refine x_sub [(0, .ref (b + o)), (1, .int a1), (2, .int (0 : Int32)), (3, .int (0 : Int32))] [2, 3, 1, 0] rfl ?_
  exact h_L4 10000 (0 : Int32) (0 : Int32) hF
noncomputable def g_X0_newNote (ν : Mm) (a1 : Int32) (a2 : Int32) : Option (Int32 × Mm) := asr (vp_in a1 60) (bnd (some (uI ν (7 + (62 + 2 * (cl a1))) 5 ((ν.1 (7 + (62 + 2 * (cl a1))) 5) ||| a2))) (fun μ4 => asr (vp_in (μ4.1 7 8) 40) (bnd (some (uI μ4 (7 + (182 + (cl (μ4.1 7 8)))) 0 a1)) (fun μ9 => bnd (some (uI μ9 (7 + (182 + (cl (μ4.1 7 8)))) 1 a2)) (fun μ11 => bnd (some (uI μ11 (7 + (182 + (cl (μ4.1 7 8)))) 2 (μ11.1 7 10))) (fun μ13 => bnd (g_X4_sumOf μ13 (7 + (62 + 2 * (cl a1))) a2) (fun q15 => bnd (some (uI μ13 (7 + (182 + (cl (μ4.1 7 8)))) 3 (-q15))) (fun μ17 => bnd (some (uI μ17 7 8 ((μ17.1 7 8) + (1 : Int32)))) (fun μ19 => some (μ17.1 7 8, μ19))))))))))
set_option maxRecDepth 20000 in
set_option maxHeartbeats 4000000 in
theorem k_X0_newNote (l : Launch) (D : va_G) (cA : Nat → ClassId) (s0 : State) (z : Nat) (b : Nat) (ν : Mm) (sz : Nat) (hG : xG l D cA s0) (a1 : Int32) (a2 : Int32) (r : Int32 × Mm) (hF : g_X0_newNote ν a1 a2 = some r) : Met l yX0_newNote (wsG yX0_newNote cX0_newNote 5 (some (FieldType.int))) { frames := 2, cells := 0, slots := 0, locals := 44 } (xP D cA s0 [.ref (b + 2626), .int a1, .int a2] (fun H => H.size = sz ∧ WC D cA s0 z b ν H)) (xQm (some (.int r.1)) (fun H => WC D cA s0 z b r.2 H) (xA b 2628 sz)) 0 0 (xA b 2628 sz) := by
  refine x_start (own := RX0) [(0, .ref (b + 2626)), (1, .int a1), (2, .int a2)] rfl rfl (by decide) (nb rfl) ?_
  intro p e s m args below meth c C hw
  obtain ⟨hsz, hw⟩ := hw
  subst hsz
  have hS : va_S (xA b 2628 s.heap.size) s.heap s.heap [] := va_S.rf
  refine x_aload_n C dX0_newNote_0 rfl ?_
  refine x_get (.ref (b + 7)) C fl_X0_9 (C_Acc hw) rfl dX0_newNote_1 ?_
  refine x_get (.ref (b + (7 + 3))) C fl_X0_21 (C_Led led7 hw) rfl dX0_newNote_4 ?_
  refine x_iload_n C dX0_newNote_7 rfl ?_
  obtain ⟨h1, hF⟩ := asr_e hF
  obtain ⟨hn2, hl3⟩ := vpn h1 (by decide)
  refine x_aald 5 C (C_invoices led7 hw) rfl hn2 hl3 (by decide) rfl dX0_newNote_8 ?_
  refine x_astore_n [(3, .ref (b + (7 + (62 + 2 * (cl a1))))), (0, .ref (b + 2626)), (1, .int a1), (2, .int a2)] C dX0_newNote_9 rfl (by decide) rfl ?_
  refine x_aload_n C dX0_newNote_10 rfl ?_
  refine x_dup C dX0_newNote_11 rfl ?_
  refine x_get (.int (ν.1 (7 + (62 + 2 * (cl a1))) 5)) C fl_X0_83 (C_Inv (mk_Inv led7 hl3) hw) rfl dX0_newNote_12 ?_
  refine x_iload_n C dX0_newNote_15 rfl ?_
  refine x_ior C dX0_newNote_16 ?_
  refine y_putI (kk0 := 5) (7 + (62 + 2 * (cl a1))) C fl_X0_83 hw (l2 (lt_Inv (mk_Inv led7 hl3))) (fun nm => S_Inv (mk_Inv led7 hl3)) (fun nm => S_Inv (mk_Inv led7 hl3)) rfl rfl (fun _ => nb rfl) dX0_newNote_17 hS (xA_in (l2 (lt_Inv (mk_Inv led7 hl3)))) (fun H locs hw hS => ?_)
  obtain ⟨μ4, hm5, hF⟩ := bnd_e hF
  have hw : WC D cA s0 z b μ4 H := rv_m (W := fun m => WC D cA s0 z b m _) hm5 hw
  refine x_aload_n C dX0_newNote_20 rfl ?_
  refine x_get (.ref (b + 7)) C fl_X0_9 (C_Acc hw) rfl dX0_newNote_21 ?_
  refine x_get (.ref (b + (7 + 4))) C fl_X0_94 (C_Led led7 hw) rfl dX0_newNote_24 ?_
  refine x_aload_n C dX0_newNote_27 rfl ?_
  refine x_get (.ref (b + 7)) C fl_X0_9 (C_Acc hw) rfl dX0_newNote_28 ?_
  refine x_get (.int (μ4.1 7 8)) C fl_X0_98 (C_Led led7 hw) rfl dX0_newNote_31 ?_
  obtain ⟨h6, hF⟩ := asr_e hF
  obtain ⟨hn7, hl8⟩ := vpn h6 (by decide)
  refine x_aald 6 C (C_notes led7 hw) rfl hn7 hl8 (by decide) rfl dX0_newNote_34 ?_
  refine x_astore [(4, .ref (b + (7 + (182 + (cl (μ4.1 7 8)))))), (3, .ref (b + (7 + (62 + 2 * (cl a1))))), (0, .ref (b + 2626)), (1, .int a1), (2, .int a2)] C dX0_newNote_35 (by decide) rfl ?_
  refine x_aload C dX0_newNote_37 rfl ?_
  refine x_iload_n C dX0_newNote_39 rfl ?_
  refine y_putI (kk0 := 0) (7 + (182 + (cl (μ4.1 7 8)))) C fl_X0_101 hw (l2 (lt_Note (mk_Note led7 hl8))) (fun nm => S_Note (mk_Note led7 hl8)) (fun nm => S_Note (mk_Note led7 hl8)) rfl rfl (fun _ => nb rfl) dX0_newNote_40 hS (xA_in (l2 (lt_Note (mk_Note led7 hl8)))) (fun H locs hw hS => ?_)
  obtain ⟨μ9, hm10, hF⟩ := bnd_e hF
  have hw : WC D cA s0 z b μ9 H := rv_m (W := fun m => WC D cA s0 z b m _) hm10 hw
  refine x_aload C dX0_newNote_43 rfl ?_
  refine x_iload_n C dX0_newNote_45 rfl ?_
  refine y_putI (kk0 := 1) (7 + (182 + (cl (μ4.1 7 8)))) C fl_X0_106 hw (l2 (lt_Note (mk_Note led7 hl8))) (fun nm => S_Note (mk_Note led7 hl8)) (fun nm => S_Note (mk_Note led7 hl8)) rfl rfl (fun _ => nb rfl) dX0_newNote_46 hS (xA_in (l2 (lt_Note (mk_Note led7 hl8)))) (fun H locs hw hS => ?_)
  obtain ⟨μ11, hm12, hF⟩ := bnd_e hF
  have hw : WC D cA s0 z b μ11 H := rv_m (W := fun m => WC D cA s0 z b m _) hm12 hw
  refine x_aload C dX0_newNote_49 rfl ?_
  refine x_aload_n C dX0_newNote_51 rfl ?_
  refine x_get (.ref (b + 7)) C fl_X0_9 (C_Acc hw) rfl dX0_newNote_52 ?_
  refine x_get (.int (μ11.1 7 10)) C fl_X0_73 (C_Led led7 hw) rfl dX0_newNote_55 ?_
  refine y_putI (kk0 := 2) (7 + (182 + (cl (μ4.1 7 8)))) C fl_X0_107 hw (l2 (lt_Note (mk_Note led7 hl8))) (fun nm => S_Note (mk_Note led7 hl8)) (fun nm => S_Note (mk_Note led7 hl8)) rfl rfl (fun _ => nb rfl) dX0_newNote_58 hS (xA_in (l2 (lt_Note (mk_Note led7 hl8)))) (fun H locs hw hS => ?_)
  obtain ⟨μ13, hm14, hF⟩ := bnd_e hF
  have hw : WC D cA s0 z b μ13 H := rv_m (W := fun m => WC D cA s0 z b m _) hm14 hw
  refine x_aload C dX0_newNote_61 rfl ?_
  refine x_aload_n C dX0_newNote_63 rfl ?_
  refine x_iload_n C dX0_newNote_64 rfl ?_
  obtain ⟨q15, hq16, hF⟩ := bnd_e hF
  refine x_goR (fun ls h => x_runV (As := [.int a2]) [.ref (b + (7 + (182 + (cl (μ4.1 7 8)))))] h C ml_X0_108 (k_X4_sumOf l D cA s0 z b μ13 hG (7 + (62 + 2 * (cl a1))) a2 q15 hq16) ⟨rfl, rfl, nb rfl, nb rfl⟩ rfl (C_Inv (mk_Inv led7 hl3) hw) rfl hw (nb rfl) ⟨Nat.zero_le _, Nat.zero_le _⟩ dX0_newNote_65) ?_
  refine x_ineg C dX0_newNote_68 ?_
  refine y_putI (kk0 := 3) (7 + (182 + (cl (μ4.1 7 8)))) C fl_X0_111 hw (l2 (lt_Note (mk_Note led7 hl8))) (fun nm => S_Note (mk_Note led7 hl8)) (fun nm => S_Note (mk_Note led7 hl8)) rfl rfl (fun _ => nb rfl) dX0_newNote_69 hS (xA_in (l2 (lt_Note (mk_Note led7 hl8)))) (fun H locs hw hS => ?_)
  obtain ⟨μ17, hm18, hF⟩ := bnd_e hF
  have hw : WC D cA s0 z b μ17 H := rv_m (W := fun m => WC D cA s0 z b m _) hm18 hw
  refine x_aload_n C dX0_newNote_72 rfl ?_
  refine x_get (.ref (b + 7)) C fl_X0_9 (C_Acc hw) rfl dX0_newNote_73 ?_
  refine x_dup C dX0_newNote_76 rfl ?_
  refine x_get (.int (μ17.1 7 8)) C fl_X0_98 (C_Led led7 hw) rfl dX0_newNote_77 ?_
  refine x_dup_x1 C dX0_newNote_80 rfl rfl ?_
  refine x_iconst (1 : Int32) C dX0_newNote_81 rfl ?_
  refine x_iadd C dX0_newNote_82 ?_
  refine y_putI (kk0 := 8) 7 C fl_X0_98 hw (l4 led7) (fun nm => S_Led led7) (fun nm => S_Led led7) rfl rfl (fun _ => nb rfl) dX0_newNote_83 hS (xA_in (l4 led7)) (fun H locs hw hS => ?_)
  obtain ⟨μ19, hm20, hF⟩ := bnd_e hF
  have hw : WC D cA s0 z b μ19 H := rv_m (W := fun m => WC D cA s0 z b m _) hm20 hw
  exact x_iretM2 C rfl dX0_newNote_86  (rm_i hF) (rm_m (W := fun m => WC D cA s0 z b m _) hF hw) hS (nb rfl) (nb rfl)
noncomputable def g_X0_differsFromRebuilt_L12 (ν : Mm) (a1 : Int32) : Nat → Nat → Int32 → Option (Bool)
  | 0, _, _ => none
  | n + 1, x2, x3 => (if (4 : Int32) ≤ x3 then some false else bnd (g_X4_stands ν x2 x3) (fun q5 => (if q5 = true then asr (vp_in x3 4) (bnd (g_X0_rebuiltLine ν x2 x3) (fun q11 => (if (ν.1 (x2 + 1) (cl x3)) = q11 then (g_X0_differsFromRebuilt_L12 ν a1 n x2 (x3 + (1 : Int32))) else some true))) else (g_X0_differsFromRebuilt_L12 ν a1 n x2 (x3 + (1 : Int32))))))
noncomputable def g_X0_differsFromRebuilt (ν : Mm) (a1 : Int32) : Option (Bool) := asr (vp_in a1 60) ((g_X0_differsFromRebuilt_L12 ν a1 10000 (7 + (62 + 2 * (cl a1))) (0 : Int32)))
set_option maxRecDepth 20000 in
set_option maxHeartbeats 4000000 in
theorem k_X0_differsFromRebuilt (l : Launch) (D : va_G) (cA : Nat → ClassId) (s0 : State) (z : Nat) (b : Nat) (ν : Mm) (hG : xG l D cA s0) (a1 : Int32) (r : Bool) (hF : g_X0_differsFromRebuilt ν a1 = some r) : Met l yX0_differsFromRebuilt (wsG yX0_differsFromRebuilt cX0_differsFromRebuilt 4 (some (FieldType.boolean))) { frames := 4, cells := 0, slots := 0, locals := 96 } (xP D cA s0 [.ref (b + 2626), .int a1] (WC D cA s0 z b ν)) (xQr (some (.int (bI r)))) 0 0 xN := by
  refine x_start (own := RX0) [(0, .ref (b + 2626)), (1, .int a1)] rfl rfl (by decide) (nb rfl) ?_
  intro p e s m args below meth c C hw
  have h_L12 : ∀ (n : Nat) (x2 : Nat) (x3 : Int32) (hpx2 : isInv x2), g_X0_differsFromRebuilt_L12 ν a1 n x2 x3 = some r → xW p l e { frames := 4, cells := 0, slots := 0, locals := 96 } s m args below meth c 4 (MQ below (xQr (some (.int (bI r)))) args s 0 0 xN) s.heap [] 0 0 12 [(0, .ref (b + 2626)), (2, .ref (b + x2)), (3, .int x3)] [] := by
    intro n
    induction n with
    | zero =>
      intro x2 x3 hpx2 hF
      exact no_some hF
    | succ n ih =>
      intro x2 x3 hpx2 hF
      have ih12 := ih
      refine x_iload_n C dX0_differsFromRebuilt_12 rfl ?_
      refine x_iconst (4 : Int32) C dX0_differsFromRebuilt_13 rfl ?_
      refine x_icmp_ge 48 C dX0_differsFromRebuilt_14 (by decide) (fun c4 => ?_) (fun c4 => ?_)
      · have hF := ite_t hF c4
        refine x_iconst (0 : Int32) C dX0_differsFromRebuilt_48 rfl ?_
        exact x_zretR C rfl dX0_differsFromRebuilt_49 rfl (r_b0 hF)
      · have hF := ite_f hF c4
        refine x_aload_n C dX0_differsFromRebuilt_17 rfl ?_
        refine x_iload_n C dX0_differsFromRebuilt_18 rfl ?_
        obtain ⟨q5, hq6, hF⟩ := bnd_e hF
        refine x_goR (fun ls h => x_runV (As := [.int x3]) [] h C ml_X0_43 (k_X4_stands l D cA s0 z b ν hG x2 x3 q5 hq6) ⟨rfl, rfl, nb rfl, nb rfl⟩ rfl (C_Inv hpx2 hw) rfl hw (nb rfl) ⟨Nat.zero_le _, Nat.zero_le _⟩ dX0_differsFromRebuilt_19) ?_
        refine x_ifB_eq 42 C dX0_differsFromRebuilt_22 (by decide) (fun c7 => ?_) (fun c7 => ?_)
        · have hF := ite_f hF (nbt c7)
          refine x_iinc (x3 + (1 : Int32)) [(3, .int (x3 + (1 : Int32))), (0, .ref (b + 2626)), (2, .ref (b + x2))] C dX0_differsFromRebuilt_42 rfl rfl (by decide) rfl ?_
          refine x_goto 12 C dX0_differsFromRebuilt_45 (by decide) ?_
          refine x_sub [(0, .ref (b + 2626)), (2, .ref (b + x2)), (3, .int (x3 + (1 : Int32)))] [1, 2, 0] rfl ?_
          exact ih12 x2 (x3 + (1 : Int32)) hpx2 hF
        · have hF := ite_t hF c7
          refine x_aload_n C dX0_differsFromRebuilt_25 rfl ?_
          refine x_get (.ref (b + (x2 + 1))) C fl_X0_86 (C_Inv hpx2 hw) rfl dX0_differsFromRebuilt_26 ?_
          refine x_iload_n C dX0_differsFromRebuilt_29 rfl ?_
          obtain ⟨h8, hF⟩ := asr_e hF
          obtain ⟨hn9, hl10⟩ := vpn h8 (by decide)
          refine x_ialdN C (C_amounts hpx2 hw) hn9 hl10 (by decide) dX0_differsFromRebuilt_30 ?_
          refine x_aload_n C dX0_differsFromRebuilt_31 rfl ?_
          refine x_aload_n C dX0_differsFromRebuilt_32 rfl ?_
          refine x_iload_n C dX0_differsFromRebuilt_33 rfl ?_
          obtain ⟨q11, hq12, hF⟩ := bnd_e hF
          refine x_goR (fun ls h => x_runV (As := [.ref (b + x2), .int x3]) [.int (ν.1 (x2 + 1) (cl x3))] h C ml_X0_90 (k_X0_rebuiltLine l D cA s0 z b ν hG x2 x3 q11 hq12) ⟨rfl, rfl, nb rfl, nb rfl⟩ rfl (C_Acc hw) rfl hw (nb rfl) ⟨Nat.zero_le _, Nat.zero_le _⟩ dX0_differsFromRebuilt_34) ?_
          refine x_icmp_eq 42 C dX0_differsFromRebuilt_37 (by decide) (fun c13 => ?_) (fun c13 => ?_)
          · have hF := ite_t hF c13
            refine x_iinc (x3 + (1 : Int32)) [(3, .int (x3 + (1 : Int32))), (0, .ref (b + 2626)), (2, .ref (b + x2))] C dX0_differsFromRebuilt_42 rfl rfl (by decide) rfl ?_
            refine x_goto 12 C dX0_differsFromRebuilt_45 (by decide) ?_
            refine x_sub [(0, .ref (b + 2626)), (2, .ref (b + x2)), (3, .int (x3 + (1 : Int32)))] [1, 2, 0] rfl ?_
            exact ih12 x2 (x3 + (1 : Int32)) hpx2 hF
          · have hF := ite_f hF c13
            refine x_iconst (1 : Int32) C dX0_differsFromRebuilt_40 rfl ?_
            exact x_zretR C rfl dX0_differsFromRebuilt_41 rfl (r_b1 hF)
  refine x_aload_n C dX0_differsFromRebuilt_0 rfl ?_
  refine x_get (.ref (b + 7)) C fl_X0_9 (C_Acc hw) rfl dX0_differsFromRebuilt_1 ?_
  refine x_get (.ref (b + (7 + 3))) C fl_X0_21 (C_Led led7 hw) rfl dX0_differsFromRebuilt_4 ?_
  refine x_iload_n C dX0_differsFromRebuilt_7 rfl ?_
  obtain ⟨h1, hF⟩ := asr_e hF
  obtain ⟨hn2, hl3⟩ := vpn h1 (by decide)
  refine x_aald 5 C (C_invoices led7 hw) rfl hn2 hl3 (by decide) rfl dX0_differsFromRebuilt_8 ?_
  refine x_astore_n [(2, .ref (b + (7 + (62 + 2 * (cl a1))))), (0, .ref (b + 2626)), (1, .int a1)] C dX0_differsFromRebuilt_9 rfl (by decide) rfl ?_
  refine x_iconst (0 : Int32) C dX0_differsFromRebuilt_10 rfl ?_
  refine x_istore_n [(3, .int (0 : Int32)), (2, .ref (b + (7 + (62 + 2 * (cl a1))))), (0, .ref (b + 2626)), (1, .int a1)] C dX0_differsFromRebuilt_11 rfl (by decide) rfl ?_
  refine x_sub [(0, .ref (b + 2626)), (2, .ref (b + (7 + (62 + 2 * (cl a1))))), (3, .int (0 : Int32))] [2, 1, 0] rfl ?_
  exact h_L12 10000 (7 + (62 + 2 * (cl a1))) (0 : Int32) (mk_Inv led7 hl3) hF
noncomputable def g_X4_netAmount (ν : Mm) (o : Nat) : Option (Int32) := asr (isInv o) (bnd (g_X4_standing ν o) (fun q1 => bnd (g_X4_sumOf ν o q1) (fun q3 => some q3)))
set_option maxRecDepth 20000 in
set_option maxHeartbeats 4000000 in
theorem k_X4_netAmount (l : Launch) (D : va_G) (cA : Nat → ClassId) (s0 : State) (z : Nat) (b : Nat) (ν : Mm) (hG : xG l D cA s0) (o : Nat) (r : Int32) (hF : g_X4_netAmount ν o = some r) : Met l yX4_netAmount (wsG yX4_netAmount cX4_netAmount 1 (some (FieldType.int))) { frames := 2, cells := 0, slots := 0, locals := 44 } (xP D cA s0 [.ref (b + o)] (WC D cA s0 z b ν)) (xQr (some (.int r))) 0 0 xN := by
  refine x_start (own := RX4) [(0, .ref (b + o))] rfl rfl (by decide) (nb rfl) ?_
  intro p e s m args below meth c C hw
  obtain ⟨hpo, hF⟩ := asr_e hF
  refine x_aload_n C dX4_netAmount_0 rfl ?_
  refine x_aload_n C dX4_netAmount_1 rfl ?_
  obtain ⟨q1, hq2, hF⟩ := bnd_e hF
  refine x_goR (fun ls h => x_runV (As := []) [.ref (b + o)] h C ml_X4_40 (k_X4_standing l D cA s0 z b ν hG o q1 hq2) ⟨rfl, rfl, nb rfl, nb rfl⟩ rfl (C_Inv hpo hw) rfl hw (nb rfl) ⟨Nat.zero_le _, Nat.zero_le _⟩ dX4_netAmount_2) ?_
  obtain ⟨q3, hq4, hF⟩ := bnd_e hF
  refine x_goR (fun ls h => x_runV (As := [.int q1]) [] h C ml_X4_48 (k_X4_sumOf l D cA s0 z b ν hG o q1 q3 hq4) ⟨rfl, rfl, nb rfl, nb rfl⟩ rfl (C_Inv hpo hw) rfl hw (nb rfl) ⟨Nat.zero_le _, Nat.zero_le _⟩ dX4_netAmount_5) ?_
  exact x_iretR C rfl dX4_netAmount_8  (r_i hF)
noncomputable def g_X0_balanceOf_L17 (ν : Mm) (a1 : Int32) : Nat → Int64 → Int32 → Option (Int64)
  | 0, _, _ => none
  | n + 1, x2, x4 => (if (ν.1 7 7) ≤ x4 then some x2 else bnd (g_X0_shipOf ν x4) (fun q5 => (if q5 = a1 then asr (vp_in x4 60) (bnd (g_X4_netAmount ν (7 + (62 + 2 * (cl x4)))) (fun q11 => (g_X0_balanceOf_L17 ν a1 n (x2 + q11.toInt64) (x4 + (1 : Int32))))) else (g_X0_balanceOf_L17 ν a1 n x2 (x4 + (1 : Int32))))))
noncomputable def g_X0_balanceOf (ν : Mm) (a1 : Int32) : Option (Int64) := asr (vp_in a1 8) ((g_X0_balanceOf_L17 ν a1 10000 (-(ν.2.1 (7 + (6 + 2 * (cl a1))) 3)) (0 : Int32)))
set_option maxRecDepth 20000 in
set_option maxHeartbeats 4000000 in
theorem k_X0_balanceOf (l : Launch) (D : va_G) (cA : Nat → ClassId) (s0 : State) (z : Nat) (b : Nat) (ν : Mm) (hG : xG l D cA s0) (a1 : Int32) (r : Int64) (hF : g_X0_balanceOf ν a1 = some r) : Met l yX0_balanceOf (wsG yX0_balanceOf cX0_balanceOf 5 (some (FieldType.long))) { frames := 3, cells := 0, slots := 0, locals := 64 } (xP D cA s0 [.ref (b + 2626), .int a1] (WC D cA s0 z b ν)) (xQr (some (.long r))) 0 0 xN := by
  refine x_start (own := RX0) [(0, .ref (b + 2626)), (1, .int a1)] rfl rfl (by decide) (nb rfl) ?_
  intro p e s m args below meth c C hw
  have h_L17 : ∀ (n : Nat) (x2 : Int64) (x4 : Int32), g_X0_balanceOf_L17 ν a1 n x2 x4 = some r → xW p l e { frames := 3, cells := 0, slots := 0, locals := 64 } s m args below meth c 5 (MQ below (xQr (some (.long r))) args s 0 0 xN) s.heap [] 0 0 17 [(0, .ref (b + 2626)), (1, .int a1), (2, .long x2), (4, .int x4)] [] := by
    intro n
    induction n with
    | zero =>
      intro x2 x4 hF
      exact no_some hF
    | succ n ih =>
      intro x2 x4 hF
      have ih17 := ih
      refine x_iload C dX0_balanceOf_17 rfl ?_
      refine x_aload_n C dX0_balanceOf_19 rfl ?_
      refine x_get (.ref (b + 7)) C fl_X0_9 (C_Acc hw) rfl dX0_balanceOf_20 ?_
      refine x_get (.int (ν.1 7 7)) C fl_X0_36 (C_Led led7 hw) rfl dX0_balanceOf_23 ?_
      refine x_icmp_ge 62 C dX0_balanceOf_26 (by decide) (fun c4 => ?_) (fun c4 => ?_)
      · have hF := ite_t hF c4
        refine x_lload_n C dX0_balanceOf_62 rfl ?_
        exact x_lretR C rfl dX0_balanceOf_63  (r_l hF)
      · have hF := ite_f hF c4
        refine x_aload_n C dX0_balanceOf_29 rfl ?_
        refine x_iload C dX0_balanceOf_30 rfl ?_
        obtain ⟨q5, hq6, hF⟩ := bnd_e hF
        refine x_goR (fun ls h => x_runV (As := [.int x4]) [] h C ml_X0_145 (k_X0_shipOf l D cA s0 z b ν hG x4 q5 hq6) ⟨rfl, rfl, nb rfl, nb rfl⟩ rfl (C_Acc hw) rfl hw (nb rfl) ⟨Nat.zero_le _, Nat.zero_le _⟩ dX0_balanceOf_32) ?_
        refine x_iload_n C dX0_balanceOf_35 rfl ?_
        refine x_icmp_ne 56 C dX0_balanceOf_36 (by decide) (fun c7 => ?_) (fun c7 => ?_)
        · have hF := ite_f hF c7
          refine x_iinc (x4 + (1 : Int32)) [(4, .int (x4 + (1 : Int32))), (0, .ref (b + 2626)), (1, .int a1), (2, .long x2)] C dX0_balanceOf_56 rfl rfl (by decide) rfl ?_
          refine x_goto 17 C dX0_balanceOf_59 (by decide) ?_
          refine x_sub [(0, .ref (b + 2626)), (1, .int a1), (2, .long x2), (4, .int (x4 + (1 : Int32)))] [1, 2, 3, 0] rfl ?_
          exact ih17 x2 (x4 + (1 : Int32)) hF
        · have hF := ite_t hF c7
          refine x_lload_n C dX0_balanceOf_39 rfl ?_
          refine x_aload_n C dX0_balanceOf_40 rfl ?_
          refine x_get (.ref (b + 7)) C fl_X0_9 (C_Acc hw) rfl dX0_balanceOf_41 ?_
          refine x_get (.ref (b + (7 + 3))) C fl_X0_21 (C_Led led7 hw) rfl dX0_balanceOf_44 ?_
          refine x_iload C dX0_balanceOf_47 rfl ?_
          obtain ⟨h8, hF⟩ := asr_e hF
          obtain ⟨hn9, hl10⟩ := vpn h8 (by decide)
          refine x_aald 5 C (C_invoices led7 hw) rfl hn9 hl10 (by decide) rfl dX0_balanceOf_49 ?_
          obtain ⟨q11, hq12, hF⟩ := bnd_e hF
          refine x_goR (fun ls h => x_runV (As := []) [.long x2] h C ml_X0_148 (k_X4_netAmount l D cA s0 z b ν hG (7 + (62 + 2 * (cl x4))) q11 hq12) ⟨rfl, rfl, nb rfl, nb rfl⟩ rfl (C_Inv (mk_Inv led7 hl10) hw) rfl hw (nb rfl) ⟨Nat.zero_le _, Nat.zero_le _⟩ dX0_balanceOf_50) ?_
          refine x_i2l C dX0_balanceOf_53 ?_
          refine x_ladd C dX0_balanceOf_54 ?_
          refine x_lstore_n [(2, .long (x2 + q11.toInt64)), (0, .ref (b + 2626)), (1, .int a1), (4, .int x4)] C dX0_balanceOf_55 rfl (by decide) rfl ?_
          refine x_iinc (x4 + (1 : Int32)) [(4, .int (x4 + (1 : Int32))), (2, .long (x2 + q11.toInt64)), (0, .ref (b + 2626)), (1, .int a1)] C dX0_balanceOf_56 rfl rfl (by decide) rfl ?_
          refine x_goto 17 C dX0_balanceOf_59 (by decide) ?_
          refine x_sub [(0, .ref (b + 2626)), (1, .int a1), (2, .long (x2 + q11.toInt64)), (4, .int (x4 + (1 : Int32)))] [2, 3, 1, 0] rfl ?_
          exact ih17 (x2 + q11.toInt64) (x4 + (1 : Int32)) hF
  refine x_aload_n C dX0_balanceOf_0 rfl ?_
  refine x_get (.ref (b + 7)) C fl_X0_9 (C_Acc hw) rfl dX0_balanceOf_1 ?_
  refine x_get (.ref (b + (7 + 1))) C fl_X0_135 (C_Led led7 hw) rfl dX0_balanceOf_4 ?_
  refine x_iload_n C dX0_balanceOf_7 rfl ?_
  obtain ⟨h1, hF⟩ := asr_e hF
  obtain ⟨hn2, hl3⟩ := vpn h1 (by decide)
  refine x_aald 3 C (C_ships led7 hw) rfl hn2 hl3 (by decide) rfl dX0_balanceOf_8 ?_
  refine x_get (.long (ν.2.1 (7 + (6 + 2 * (cl a1))) 3)) C fl_X0_139 (C_Ship (mk_Ship led7 hl3) hw) rfl dX0_balanceOf_9 ?_
  refine x_lneg C dX0_balanceOf_12 ?_
  refine x_lstore_n [(2, .long (-(ν.2.1 (7 + (6 + 2 * (cl a1))) 3))), (0, .ref (b + 2626)), (1, .int a1)] C dX0_balanceOf_13 rfl (by decide) rfl ?_
  refine x_iconst (0 : Int32) C dX0_balanceOf_14 rfl ?_
  refine x_istore [(4, .int (0 : Int32)), (2, .long (-(ν.2.1 (7 + (6 + 2 * (cl a1))) 3))), (0, .ref (b + 2626)), (1, .int a1)] C dX0_balanceOf_15 (by decide) rfl ?_
  refine x_sub [(0, .ref (b + 2626)), (1, .int a1), (2, .long (-(ν.2.1 (7 + (6 + 2 * (cl a1))) 3))), (4, .int (0 : Int32))] [2, 3, 1, 0] rfl ?_
  exact h_L17 10000 (-(ν.2.1 (7 + (6 + 2 * (cl a1))) 3)) (0 : Int32) hF
noncomputable def g_X0_fundsOf_L16 (ν : Mm) (a1 : Int32) : Nat → Int64 → Int32 → Option (Int64)
  | 0, _, _ => none
  | n + 1, x2, x4 => (if (ν.1 7 7) ≤ x4 then some x2 else bnd (g_X0_shipOf ν x4) (fun q5 => (if q5 = a1 then asr (vp_in x4 60) (bnd (g_X4_netAmount ν (7 + (62 + 2 * (cl x4)))) (fun q11 => (g_X0_fundsOf_L16 ν a1 n (x2 + ((imax (-q11) (0 : Int32)).toInt64)) (x4 + (1 : Int32))))) else (g_X0_fundsOf_L16 ν a1 n x2 (x4 + (1 : Int32))))))
noncomputable def g_X0_fundsOf (ν : Mm) (a1 : Int32) : Option (Int64) := asr (vp_in a1 8) ((g_X0_fundsOf_L16 ν a1 10000 (ν.2.1 (7 + (6 + 2 * (cl a1))) 3) (0 : Int32)))
set_option maxRecDepth 20000 in
set_option maxHeartbeats 4000000 in
theorem k_X0_fundsOf (l : Launch) (D : va_G) (cA : Nat → ClassId) (s0 : State) (z : Nat) (b : Nat) (ν : Mm) (hG : xG l D cA s0) (a1 : Int32) (r : Int64) (hF : g_X0_fundsOf ν a1 = some r) : Met l yX0_fundsOf (wsG yX0_fundsOf cX0_fundsOf 5 (some (FieldType.long))) { frames := 3, cells := 0, slots := 0, locals := 64 } (xP D cA s0 [.ref (b + 2626), .int a1] (WC D cA s0 z b ν)) (xQr (some (.long r))) 0 0 xN := by
  refine x_start (own := RX0) [(0, .ref (b + 2626)), (1, .int a1)] rfl rfl (by decide) (nb rfl) ?_
  intro p e s m args below meth c C hw
  have h_L16 : ∀ (n : Nat) (x2 : Int64) (x4 : Int32), g_X0_fundsOf_L16 ν a1 n x2 x4 = some r → xW p l e { frames := 3, cells := 0, slots := 0, locals := 64 } s m args below meth c 5 (MQ below (xQr (some (.long r))) args s 0 0 xN) s.heap [] 0 0 16 [(0, .ref (b + 2626)), (1, .int a1), (2, .long x2), (4, .int x4)] [] := by
    intro n
    induction n with
    | zero =>
      intro x2 x4 hF
      exact no_some hF
    | succ n ih =>
      intro x2 x4 hF
      have ih16 := ih
      refine x_iload C dX0_fundsOf_16 rfl ?_
      refine x_aload_n C dX0_fundsOf_18 rfl ?_
      refine x_get (.ref (b + 7)) C fl_X0_9 (C_Acc hw) rfl dX0_fundsOf_19 ?_
      refine x_get (.int (ν.1 7 7)) C fl_X0_36 (C_Led led7 hw) rfl dX0_fundsOf_22 ?_
      refine x_icmp_ge 66 C dX0_fundsOf_25 (by decide) (fun c4 => ?_) (fun c4 => ?_)
      · have hF := ite_t hF c4
        refine x_lload_n C dX0_fundsOf_66 rfl ?_
        exact x_lretR C rfl dX0_fundsOf_67  (r_l hF)
      · have hF := ite_f hF c4
        refine x_aload_n C dX0_fundsOf_28 rfl ?_
        refine x_iload C dX0_fundsOf_29 rfl ?_
        obtain ⟨q5, hq6, hF⟩ := bnd_e hF
        refine x_goR (fun ls h => x_runV (As := [.int x4]) [] h C ml_X0_145 (k_X0_shipOf l D cA s0 z b ν hG x4 q5 hq6) ⟨rfl, rfl, nb rfl, nb rfl⟩ rfl (C_Acc hw) rfl hw (nb rfl) ⟨Nat.zero_le _, Nat.zero_le _⟩ dX0_fundsOf_31) ?_
        refine x_iload_n C dX0_fundsOf_34 rfl ?_
        refine x_icmp_ne 60 C dX0_fundsOf_35 (by decide) (fun c7 => ?_) (fun c7 => ?_)
        · have hF := ite_f hF c7
          refine x_iinc (x4 + (1 : Int32)) [(4, .int (x4 + (1 : Int32))), (0, .ref (b + 2626)), (1, .int a1), (2, .long x2)] C dX0_fundsOf_60 rfl rfl (by decide) rfl ?_
          refine x_goto 16 C dX0_fundsOf_63 (by decide) ?_
          refine x_sub [(0, .ref (b + 2626)), (1, .int a1), (2, .long x2), (4, .int (x4 + (1 : Int32)))] [1, 2, 3, 0] rfl ?_
          exact ih16 x2 (x4 + (1 : Int32)) hF
        · have hF := ite_t hF c7
          refine x_lload_n C dX0_fundsOf_38 rfl ?_
          refine x_aload_n C dX0_fundsOf_39 rfl ?_
          refine x_get (.ref (b + 7)) C fl_X0_9 (C_Acc hw) rfl dX0_fundsOf_40 ?_
          refine x_get (.ref (b + (7 + 3))) C fl_X0_21 (C_Led led7 hw) rfl dX0_fundsOf_43 ?_
          refine x_iload C dX0_fundsOf_46 rfl ?_
          obtain ⟨h8, hF⟩ := asr_e hF
          obtain ⟨hn9, hl10⟩ := vpn h8 (by decide)
          refine x_aald 5 C (C_invoices led7 hw) rfl hn9 hl10 (by decide) rfl dX0_fundsOf_48 ?_
          obtain ⟨q11, hq12, hF⟩ := bnd_e hF
          refine x_goR (fun ls h => x_runV (As := []) [.long x2] h C ml_X0_148 (k_X4_netAmount l D cA s0 z b ν hG (7 + (62 + 2 * (cl x4))) q11 hq12) ⟨rfl, rfl, nb rfl, nb rfl⟩ rfl (C_Inv (mk_Inv led7 hl10) hw) rfl hw (nb rfl) ⟨Nat.zero_le _, Nat.zero_le _⟩ dX0_fundsOf_49) ?_
          refine x_ineg C dX0_fundsOf_52 ?_
          refine x_iconst (0 : Int32) C dX0_fundsOf_53 rfl ?_
          refine x_mmax C ml_X0_164 (nb rfl) (nb rfl) ⟨Nat.zero_le _, Nat.zero_le _⟩ dX0_fundsOf_54 ?_
          refine x_i2l C dX0_fundsOf_57 ?_
          refine x_ladd C dX0_fundsOf_58 ?_
          refine x_lstore_n [(2, .long (x2 + ((imax (-q11) (0 : Int32)).toInt64))), (0, .ref (b + 2626)), (1, .int a1), (4, .int x4)] C dX0_fundsOf_59 rfl (by decide) rfl ?_
          refine x_iinc (x4 + (1 : Int32)) [(4, .int (x4 + (1 : Int32))), (2, .long (x2 + ((imax (-q11) (0 : Int32)).toInt64))), (0, .ref (b + 2626)), (1, .int a1)] C dX0_fundsOf_60 rfl rfl (by decide) rfl ?_
          refine x_goto 16 C dX0_fundsOf_63 (by decide) ?_
          refine x_sub [(0, .ref (b + 2626)), (1, .int a1), (2, .long (x2 + ((imax (-q11) (0 : Int32)).toInt64))), (4, .int (x4 + (1 : Int32)))] [2, 3, 1, 0] rfl ?_
          exact ih16 (x2 + ((imax (-q11) (0 : Int32)).toInt64)) (x4 + (1 : Int32)) hF
  refine x_aload_n C dX0_fundsOf_0 rfl ?_
  refine x_get (.ref (b + 7)) C fl_X0_9 (C_Acc hw) rfl dX0_fundsOf_1 ?_
  refine x_get (.ref (b + (7 + 1))) C fl_X0_135 (C_Led led7 hw) rfl dX0_fundsOf_4 ?_
  refine x_iload_n C dX0_fundsOf_7 rfl ?_
  obtain ⟨h1, hF⟩ := asr_e hF
  obtain ⟨hn2, hl3⟩ := vpn h1 (by decide)
  refine x_aald 3 C (C_ships led7 hw) rfl hn2 hl3 (by decide) rfl dX0_fundsOf_8 ?_
  refine x_get (.long (ν.2.1 (7 + (6 + 2 * (cl a1))) 3)) C fl_X0_139 (C_Ship (mk_Ship led7 hl3) hw) rfl dX0_fundsOf_9 ?_
  refine x_lstore_n [(2, .long (ν.2.1 (7 + (6 + 2 * (cl a1))) 3)), (0, .ref (b + 2626)), (1, .int a1)] C dX0_fundsOf_12 rfl (by decide) rfl ?_
  refine x_iconst (0 : Int32) C dX0_fundsOf_13 rfl ?_
  refine x_istore [(4, .int (0 : Int32)), (2, .long (ν.2.1 (7 + (6 + 2 * (cl a1))) 3)), (0, .ref (b + 2626)), (1, .int a1)] C dX0_fundsOf_14 (by decide) rfl ?_
  refine x_sub [(0, .ref (b + 2626)), (1, .int a1), (2, .long (ν.2.1 (7 + (6 + 2 * (cl a1))) 3)), (4, .int (0 : Int32))] [2, 3, 1, 0] rfl ?_
  exact h_L16 10000 (ν.2.1 (7 + (6 + 2 * (cl a1))) 3) (0 : Int32) hF
noncomputable def g_X0_claimsBefore_L5 (ν : Mm) (a1 : Int32) : Nat → Int64 → Int32 → Option (Int64)
  | 0, _, _ => none
  | n + 1, x2, x4 => (if a1 ≤ x4 then some x2 else bnd (g_X0_shipOf ν x4) (fun q2 => bnd (g_X0_shipOf ν a1) (fun q4 => (if q2 = q4 then asr (vp_in x4 60) (bnd (g_X4_netAmount ν (7 + (62 + 2 * (cl x4)))) (fun q10 => (g_X0_claimsBefore_L5 ν a1 n (x2 + ((imax q10 (0 : Int32)).toInt64)) (x4 + (1 : Int32))))) else (g_X0_claimsBefore_L5 ν a1 n x2 (x4 + (1 : Int32)))))))
noncomputable def g_X0_claimsBefore (ν : Mm) (a1 : Int32) : Option (Int64) := (g_X0_claimsBefore_L5 ν a1 10000 (0 : Int64) (0 : Int32))
set_option maxRecDepth 20000 in
set_option maxHeartbeats 4000000 in
theorem k_X0_claimsBefore (l : Launch) (D : va_G) (cA : Nat → ClassId) (s0 : State) (z : Nat) (b : Nat) (ν : Mm) (hG : xG l D cA s0) (a1 : Int32) (r : Int64) (hF : g_X0_claimsBefore ν a1 = some r) : Met l yX0_claimsBefore (wsG yX0_claimsBefore cX0_claimsBefore 5 (some (FieldType.long))) { frames := 3, cells := 0, slots := 0, locals := 64 } (xP D cA s0 [.ref (b + 2626), .int a1] (WC D cA s0 z b ν)) (xQr (some (.long r))) 0 0 xN := by
  refine x_start (own := RX0) [(0, .ref (b + 2626)), (1, .int a1)] rfl rfl (by decide) (nb rfl) ?_
  intro p e s m args below meth c C hw
  have h_L5 : ∀ (n : Nat) (x2 : Int64) (x4 : Int32), g_X0_claimsBefore_L5 ν a1 n x2 x4 = some r → xW p l e { frames := 3, cells := 0, slots := 0, locals := 64 } s m args below meth c 5 (MQ below (xQr (some (.long r))) args s 0 0 xN) s.heap [] 0 0 5 [(0, .ref (b + 2626)), (1, .int a1), (2, .long x2), (4, .int x4)] [] := by
    intro n
    induction n with
    | zero =>
      intro x2 x4 hF
      exact no_some hF
    | succ n ih =>
      intro x2 x4 hF
      have ih5 := ih
      refine x_iload C dX0_claimsBefore_5 rfl ?_
      refine x_iload_n C dX0_claimsBefore_7 rfl ?_
      refine x_icmp_ge 52 C dX0_claimsBefore_8 (by decide) (fun c1 => ?_) (fun c1 => ?_)
      · have hF := ite_t hF c1
        refine x_lload_n C dX0_claimsBefore_52 rfl ?_
        exact x_lretR C rfl dX0_claimsBefore_53  (r_l hF)
      · have hF := ite_f hF c1
        refine x_aload_n C dX0_claimsBefore_11 rfl ?_
        refine x_iload C dX0_claimsBefore_12 rfl ?_
        obtain ⟨q2, hq3, hF⟩ := bnd_e hF
        refine x_goR (fun ls h => x_runV (As := [.int x4]) [] h C ml_X0_145 (k_X0_shipOf l D cA s0 z b ν hG x4 q2 hq3) ⟨rfl, rfl, nb rfl, nb rfl⟩ rfl (C_Acc hw) rfl hw (nb rfl) ⟨Nat.zero_le _, Nat.zero_le _⟩ dX0_claimsBefore_14) ?_
        refine x_aload_n C dX0_claimsBefore_17 rfl ?_
        refine x_iload_n C dX0_claimsBefore_18 rfl ?_
        obtain ⟨q4, hq5, hF⟩ := bnd_e hF
        refine x_goR (fun ls h => x_runV (As := [.int a1]) [.int q2] h C ml_X0_145 (k_X0_shipOf l D cA s0 z b ν hG a1 q4 hq5) ⟨rfl, rfl, nb rfl, nb rfl⟩ rfl (C_Acc hw) rfl hw (nb rfl) ⟨Nat.zero_le _, Nat.zero_le _⟩ dX0_claimsBefore_19) ?_
        refine x_icmp_ne 46 C dX0_claimsBefore_22 (by decide) (fun c6 => ?_) (fun c6 => ?_)
        · have hF := ite_f hF c6
          refine x_iinc (x4 + (1 : Int32)) [(4, .int (x4 + (1 : Int32))), (0, .ref (b + 2626)), (1, .int a1), (2, .long x2)] C dX0_claimsBefore_46 rfl rfl (by decide) rfl ?_
          refine x_goto 5 C dX0_claimsBefore_49 (by decide) ?_
          refine x_sub [(0, .ref (b + 2626)), (1, .int a1), (2, .long x2), (4, .int (x4 + (1 : Int32)))] [1, 2, 3, 0] rfl ?_
          exact ih5 x2 (x4 + (1 : Int32)) hF
        · have hF := ite_t hF c6
          refine x_lload_n C dX0_claimsBefore_25 rfl ?_
          refine x_aload_n C dX0_claimsBefore_26 rfl ?_
          refine x_get (.ref (b + 7)) C fl_X0_9 (C_Acc hw) rfl dX0_claimsBefore_27 ?_
          refine x_get (.ref (b + (7 + 3))) C fl_X0_21 (C_Led led7 hw) rfl dX0_claimsBefore_30 ?_
          refine x_iload C dX0_claimsBefore_33 rfl ?_
          obtain ⟨h7, hF⟩ := asr_e hF
          obtain ⟨hn8, hl9⟩ := vpn h7 (by decide)
          refine x_aald 5 C (C_invoices led7 hw) rfl hn8 hl9 (by decide) rfl dX0_claimsBefore_35 ?_
          obtain ⟨q10, hq11, hF⟩ := bnd_e hF
          refine x_goR (fun ls h => x_runV (As := []) [.long x2] h C ml_X0_148 (k_X4_netAmount l D cA s0 z b ν hG (7 + (62 + 2 * (cl x4))) q10 hq11) ⟨rfl, rfl, nb rfl, nb rfl⟩ rfl (C_Inv (mk_Inv led7 hl9) hw) rfl hw (nb rfl) ⟨Nat.zero_le _, Nat.zero_le _⟩ dX0_claimsBefore_36) ?_
          refine x_iconst (0 : Int32) C dX0_claimsBefore_39 rfl ?_
          refine x_mmax C ml_X0_164 (nb rfl) (nb rfl) ⟨Nat.zero_le _, Nat.zero_le _⟩ dX0_claimsBefore_40 ?_
          refine x_i2l C dX0_claimsBefore_43 ?_
          refine x_ladd C dX0_claimsBefore_44 ?_
          refine x_lstore_n [(2, .long (x2 + ((imax q10 (0 : Int32)).toInt64))), (0, .ref (b + 2626)), (1, .int a1), (4, .int x4)] C dX0_claimsBefore_45 rfl (by decide) rfl ?_
          refine x_iinc (x4 + (1 : Int32)) [(4, .int (x4 + (1 : Int32))), (2, .long (x2 + ((imax q10 (0 : Int32)).toInt64))), (0, .ref (b + 2626)), (1, .int a1)] C dX0_claimsBefore_46 rfl rfl (by decide) rfl ?_
          refine x_goto 5 C dX0_claimsBefore_49 (by decide) ?_
          refine x_sub [(0, .ref (b + 2626)), (1, .int a1), (2, .long (x2 + ((imax q10 (0 : Int32)).toInt64))), (4, .int (x4 + (1 : Int32)))] [2, 3, 1, 0] rfl ?_
          exact ih5 (x2 + ((imax q10 (0 : Int32)).toInt64)) (x4 + (1 : Int32)) hF
  refine x_lconst (0 : Int64) C dX0_claimsBefore_0 rfl ?_
  refine x_lstore_n [(2, .long (0 : Int64)), (0, .ref (b + 2626)), (1, .int a1)] C dX0_claimsBefore_1 rfl (by decide) rfl ?_
  refine x_iconst (0 : Int32) C dX0_claimsBefore_2 rfl ?_
  refine x_istore [(4, .int (0 : Int32)), (2, .long (0 : Int64)), (0, .ref (b + 2626)), (1, .int a1)] C dX0_claimsBefore_3 (by decide) rfl ?_
  refine x_sub [(0, .ref (b + 2626)), (1, .int a1), (2, .long (0 : Int64)), (4, .int (0 : Int32))] [2, 3, 1, 0] rfl ?_
  exact h_L5 10000 (0 : Int64) (0 : Int32) hF
noncomputable def g_X0_openAmount (ν : Mm) (a1 : Int32) : Option (Int32) := asr (vp_in a1 60) (bnd (g_X4_netAmount ν (7 + (62 + 2 * (cl a1)))) (fun q4 => (if 0 < q4 then bnd (g_X0_shipOf ν a1) (fun q7 => bnd (g_X0_fundsOf ν q7) (fun q9 => bnd (g_X0_claimsBefore ν a1) (fun q11 => some ((lmax (q4.toInt64 - (lmax (q9 - q11) (0 : Int64))) (0 : Int64)).toInt32)))) else some (0 : Int32))))
set_option maxRecDepth 20000 in
set_option maxHeartbeats 4000000 in
theorem k_X0_openAmount (l : Launch) (D : va_G) (cA : Nat → ClassId) (s0 : State) (z : Nat) (b : Nat) (ν : Mm) (hG : xG l D cA s0) (a1 : Int32) (r : Int32) (hF : g_X0_openAmount ν a1 = some r) : Met l yX0_openAmount (wsG yX0_openAmount cX0_openAmount 5 (some (FieldType.int))) { frames := 4, cells := 0, slots := 0, locals := 88 } (xP D cA s0 [.ref (b + 2626), .int a1] (WC D cA s0 z b ν)) (xQr (some (.int r))) 0 0 xN := by
  refine x_start (own := RX0) [(0, .ref (b + 2626)), (1, .int a1)] rfl rfl (by decide) (nb rfl) ?_
  intro p e s m args below meth c C hw
  refine x_aload_n C dX0_openAmount_0 rfl ?_
  refine x_get (.ref (b + 7)) C fl_X0_9 (C_Acc hw) rfl dX0_openAmount_1 ?_
  refine x_get (.ref (b + (7 + 3))) C fl_X0_21 (C_Led led7 hw) rfl dX0_openAmount_4 ?_
  refine x_iload_n C dX0_openAmount_7 rfl ?_
  obtain ⟨h1, hF⟩ := asr_e hF
  obtain ⟨hn2, hl3⟩ := vpn h1 (by decide)
  refine x_aald 5 C (C_invoices led7 hw) rfl hn2 hl3 (by decide) rfl dX0_openAmount_8 ?_
  obtain ⟨q4, hq5, hF⟩ := bnd_e hF
  refine x_goR (fun ls h => x_runV (As := []) [] h C ml_X0_148 (k_X4_netAmount l D cA s0 z b ν hG (7 + (62 + 2 * (cl a1))) q4 hq5) ⟨rfl, rfl, nb rfl, nb rfl⟩ rfl (C_Inv (mk_Inv led7 hl3) hw) rfl hw (nb rfl) ⟨Nat.zero_le _, Nat.zero_le _⟩ dX0_openAmount_9) ?_
  refine x_istore_n [(2, .int q4), (0, .ref (b + 2626)), (1, .int a1)] C dX0_openAmount_12 rfl (by decide) rfl ?_
  refine x_iload_n C dX0_openAmount_13 rfl ?_
  refine x_if_gt 19 C dX0_openAmount_14 (by decide) (fun c6 => ?_) (fun c6 => ?_)
  · have hF := ite_t hF c6
    refine x_aload_n C dX0_openAmount_19 rfl ?_
    refine x_aload_n C dX0_openAmount_20 rfl ?_
    refine x_iload_n C dX0_openAmount_21 rfl ?_
    obtain ⟨q7, hq8, hF⟩ := bnd_e hF
    refine x_goR (fun ls h => x_runV (As := [.int a1]) [.ref (b + 2626)] h C ml_X0_145 (k_X0_shipOf l D cA s0 z b ν hG a1 q7 hq8) ⟨rfl, rfl, nb rfl, nb rfl⟩ rfl (C_Acc hw) rfl hw (nb rfl) ⟨Nat.zero_le _, Nat.zero_le _⟩ dX0_openAmount_22) ?_
    obtain ⟨q9, hq10, hF⟩ := bnd_e hF
    refine x_goR (fun ls h => x_runV (As := [.int q7]) [] h C ml_X0_151 (k_X0_fundsOf l D cA s0 z b ν hG q7 q9 hq10) ⟨rfl, rfl, nb rfl, nb rfl⟩ rfl (C_Acc hw) rfl hw (nb rfl) ⟨Nat.zero_le _, Nat.zero_le _⟩ dX0_openAmount_25) ?_
    refine x_aload_n C dX0_openAmount_28 rfl ?_
    refine x_iload_n C dX0_openAmount_29 rfl ?_
    obtain ⟨q11, hq12, hF⟩ := bnd_e hF
    refine x_goR (fun ls h => x_runV (As := [.int a1]) [.long q9] h C ml_X0_155 (k_X0_claimsBefore l D cA s0 z b ν hG a1 q11 hq12) ⟨rfl, rfl, nb rfl, nb rfl⟩ rfl (C_Acc hw) rfl hw (nb rfl) ⟨Nat.zero_le _, Nat.zero_le _⟩ dX0_openAmount_30) ?_
    refine x_lsub C dX0_openAmount_33 ?_
    refine x_lstore_n [(3, .long (q9 - q11)), (2, .int q4), (0, .ref (b + 2626)), (1, .int a1)] C dX0_openAmount_34 rfl (by decide) rfl ?_
    refine x_iload_n C dX0_openAmount_35 rfl ?_
    refine x_i2l C dX0_openAmount_36 ?_
    refine x_lload_n C dX0_openAmount_37 rfl ?_
    refine x_lconst (0 : Int64) C dX0_openAmount_38 rfl ?_
    refine x_mmaxL C ml_X0_158 (nb rfl) (nb rfl) ⟨Nat.zero_le _, Nat.zero_le _⟩ dX0_openAmount_39 ?_
    refine x_lsub C dX0_openAmount_42 ?_
    refine x_lconst (0 : Int64) C dX0_openAmount_43 rfl ?_
    refine x_mmaxL C ml_X0_158 (nb rfl) (nb rfl) ⟨Nat.zero_le _, Nat.zero_le _⟩ dX0_openAmount_44 ?_
    refine x_l2i C dX0_openAmount_47 ?_
    exact x_iretR C rfl dX0_openAmount_48  (r_i hF)
  · have hF := ite_f hF c6
    refine x_iconst (0 : Int32) C dX0_openAmount_17 rfl ?_
    exact x_iretR C rfl dX0_openAmount_18  (r_i hF)
noncomputable def g_X1_byteAt (ν : Mm) (o : Nat) (a1 : Int32) : Option (Int32) := asr (isByt o) ((if a1 < 0 then some (0 : Int32) else (if (ν.1 o 2) ≤ a1 then some (0 : Int32) else asr (vp_in a1 (szB o)) (some (ν.1 (o + 2) (cl a1))))))
set_option maxRecDepth 20000 in
set_option maxHeartbeats 4000000 in
theorem k_X1_byteAt (l : Launch) (D : va_G) (cA : Nat → ClassId) (s0 : State) (z : Nat) (b : Nat) (ν : Mm) (hG : xG l D cA s0) (o : Nat) (a1 : Int32) (r : Int32) (hF : g_X1_byteAt ν o a1 = some r) : Met l yX1_byteAt (wsG yX1_byteAt cX1_byteAt 2 (some (FieldType.int))) { frames := 0, cells := 0, slots := 0, locals := 0 } (xP D cA s0 [.ref (b + o), .int a1] (WC D cA s0 z b ν)) (xQr (some (.int r))) 0 0 xN := by
  refine x_start (own := RX1) [(0, .ref (b + o)), (1, .int a1)] rfl rfl (by decide) (nb rfl) ?_
  intro p e s m args below meth c C hw
  obtain ⟨hpo, hF⟩ := asr_e hF
  refine x_iload_n C dX1_byteAt_0 rfl ?_
  refine x_if_lt 21 C dX1_byteAt_1 (by decide) (fun c1 => ?_) (fun c1 => ?_)
  · have hF := ite_t hF c1
    refine x_iconst (0 : Int32) C dX1_byteAt_21 rfl ?_
    exact x_iretR C rfl dX1_byteAt_22  (r_i hF)
  · have hF := ite_f hF c1
    refine x_iload_n C dX1_byteAt_4 rfl ?_
    refine x_aload_n C dX1_byteAt_5 rfl ?_
    refine x_get (.int (ν.1 o 2)) C fl_X1_22 (C_Byt hpo hw) rfl dX1_byteAt_6 ?_
    refine x_icmp_ge 21 C dX1_byteAt_9 (by decide) (fun c2 => ?_) (fun c2 => ?_)
    · have hF := ite_t hF c2
      refine x_iconst (0 : Int32) C dX1_byteAt_21 rfl ?_
      exact x_iretR C rfl dX1_byteAt_22  (r_i hF)
    · have hF := ite_f hF c2
      refine x_aload_n C dX1_byteAt_12 rfl ?_
      refine x_get (.ref (b + (o + 2))) C fl_X1_19 (C_Byt hpo hw) rfl dX1_byteAt_13 ?_
      refine x_iload_n C dX1_byteAt_16 rfl ?_
      obtain ⟨h3, hF⟩ := asr_e hF
      obtain ⟨hn4, hl5⟩ := vpn h3 szB_31
      refine x_baldN C (C_data hpo hw) hn4 hl5 szB_31 dX1_byteAt_17 ?_
      refine x_goto 22 C dX1_byteAt_18 (by decide) ?_
      exact x_iretR C rfl dX1_byteAt_22  (r_i hF)
noncomputable def g_X1_isAt_L27 (ν : Mm) (o : Nat) (a1 : Int32) (a2 : Int32) (a3 : Nat) : Nat → Int32 → Option (Bool)
  | 0, _ => none
  | n + 1, x4 => (if (nI (slen a3)) ≤ x4 then some true else asr (vp_in (a1 + x4) (szB o)) (asr (vp_in x4 (slen a3)) ((if (ν.1 (o + 2) (cl (a1 + x4))) = (schar a3 (cl x4)) then (g_X1_isAt_L27 ν o a1 a2 a3 n (x4 + (1 : Int32))) else some false))))
noncomputable def g_X1_isAt (ν : Mm) (o : Nat) (a1 : Int32) (a2 : Int32) (a3 : Nat) : Option (Bool) := asr (isByt o) ((if a1 < 0 then some false else (if (ν.1 o 2) < a2 then some false else (if (a2 - a1) = (nI (slen a3)) then (g_X1_isAt_L27 ν o a1 a2 a3 10000 (0 : Int32)) else some false))))
set_option maxRecDepth 20000 in
set_option maxHeartbeats 4000000 in
theorem k_X1_isAt (l : Launch) (D : va_G) (cA : Nat → ClassId) (s0 : State) (z : Nat) (b : Nat) (ν : Mm) (hG : xG l D cA s0) (a3r : Nat) (o : Nat) (a1 : Int32) (a2 : Int32) (a3 : Nat) (r : Bool) (hF : g_X1_isAt ν o a1 a2 a3 = some r) : Met l yX1_isAt (wsG yX1_isAt cX1_isAt 5 (some (FieldType.boolean))) { frames := 4, cells := 0, slots := 0, locals := 85 } (xP D cA s0 [.ref (b + o), .int a1, .int a2, .ref a3r] (fun H => WC D cA s0 z b ν H ∧ Str D cA s0 z a3r a3 H)) (xQr (some (.int (bI r)))) 0 0 xN := by
  refine x_start (own := RX1) [(0, .ref (b + o)), (1, .int a1), (2, .int a2), (3, .ref a3r)] rfl rfl (by decide) (nb rfl) ?_
  intro p e s m args below meth c C hw
  obtain ⟨hw, hst0_a3⟩ := hw
  obtain ⟨hpo, hF⟩ := asr_e hF
  have h_L27 : ∀ (n : Nat) (x4 : Int32), g_X1_isAt_L27 ν o a1 a2 a3 n x4 = some r → xW p l e { frames := 4, cells := 0, slots := 0, locals := 85 } s m args below meth c 5 (MQ below (xQr (some (.int (bI r)))) args s 0 0 xN) s.heap [] 0 0 27 [(0, .ref (b + o)), (1, .int a1), (3, .ref a3r), (4, .int x4)] [] := by
    intro n
    induction n with
    | zero =>
      intro x4 hF
      exact no_some hF
    | succ n ih =>
      intro x4 hF
      have ih27 := ih
      refine x_iload C dX1_isAt_27 rfl ?_
      refine x_aload_n C dX1_isAt_29 rfl ?_
      have hx11 := hst0_a3
      obtain ⟨hk8, -, v9, -, hs10⟩ := hx11
      refine x_goR (fun ls h => x_runVS (As := []) [.int x4] h C ml_X1_26 (cJ_length l D cA s0 hG.2.2.1 a3r v9 a3) ⟨rfl, rfl, nb rfl, nb rfl⟩ rfl hs10 ⟨hw.2.2.2.1, hk8, hs10⟩ (nb rfl) ⟨Nat.zero_le _, Nat.zero_le _⟩ dX1_isAt_30) ?_
      refine x_icmp_ge 62 C dX1_isAt_33 (by decide) (fun c12 => ?_) (fun c12 => ?_)
      · have hF := ite_t hF c12
        refine x_iconst (1 : Int32) C dX1_isAt_62 rfl ?_
        exact x_zretR C rfl dX1_isAt_63 rfl (r_b1 hF)
      · have hF := ite_f hF c12
        refine x_aload_n C dX1_isAt_36 rfl ?_
        refine x_get (.ref (b + (o + 2))) C fl_X1_19 (C_Byt hpo hw) rfl dX1_isAt_37 ?_
        refine x_iload_n C dX1_isAt_40 rfl ?_
        refine x_iload C dX1_isAt_41 rfl ?_
        refine x_iadd C dX1_isAt_43 ?_
        obtain ⟨h13, hF⟩ := asr_e hF
        obtain ⟨hn14, hl15⟩ := vpn h13 szB_31
        refine x_baldN C (C_data hpo hw) hn14 hl15 szB_31 dX1_isAt_44 ?_
        refine x_aload_n C dX1_isAt_45 rfl ?_
        refine x_iload C dX1_isAt_46 rfl ?_
        have hx19 := hst0_a3
        obtain ⟨hk16, -, v17, -, hs18⟩ := hx19
        obtain ⟨h20, hF⟩ := asr_e hF
        obtain ⟨hn21, hl22⟩ := vpn h20 slen_31
        refine x_topi (nI (cl x4)) hn21 ?_
        refine x_goR (fun ls h => x_runVS (As := [.int (nI (cl x4))]) [.int (ν.1 (o + 2) (cl (a1 + x4)))] h C ml_X1_31 (cJ_charAt l D cA s0 hG.2.2.1 a3r v17 a3 (cl x4) hl22) ⟨rfl, rfl, nb rfl, nb rfl⟩ rfl hs18 ⟨hw.2.2.2.1, hk16, hs18⟩ (nb rfl) ⟨Nat.zero_le _, Nat.zero_le _⟩ dX1_isAt_48) ?_
        refine x_icmp_eq 56 C dX1_isAt_51 (by decide) (fun c23 => ?_) (fun c23 => ?_)
        · have hF := ite_t hF c23
          refine x_iinc (x4 + (1 : Int32)) [(4, .int (x4 + (1 : Int32))), (0, .ref (b + o)), (1, .int a1), (3, .ref a3r)] C dX1_isAt_56 rfl rfl (by decide) rfl ?_
          refine x_goto 27 C dX1_isAt_59 (by decide) ?_
          refine x_sub [(0, .ref (b + o)), (1, .int a1), (3, .ref a3r), (4, .int (x4 + (1 : Int32)))] [1, 2, 3, 0] rfl ?_
          exact ih27 (x4 + (1 : Int32)) hF
        · have hF := ite_f hF c23
          refine x_iconst (0 : Int32) C dX1_isAt_54 rfl ?_
          exact x_zretR C rfl dX1_isAt_55 rfl (r_b0 hF)
  refine x_iload_n C dX1_isAt_0 rfl ?_
  refine x_if_lt 22 C dX1_isAt_1 (by decide) (fun c1 => ?_) (fun c1 => ?_)
  · have hF := ite_t hF c1
    refine x_iconst (0 : Int32) C dX1_isAt_22 rfl ?_
    exact x_zretR C rfl dX1_isAt_23 rfl (r_b0 hF)
  · have hF := ite_f hF c1
    refine x_iload_n C dX1_isAt_4 rfl ?_
    refine x_aload_n C dX1_isAt_5 rfl ?_
    refine x_get (.int (ν.1 o 2)) C fl_X1_22 (C_Byt hpo hw) rfl dX1_isAt_6 ?_
    refine x_icmp_gt 22 C dX1_isAt_9 (by decide) (fun c2 => ?_) (fun c2 => ?_)
    · have hF := ite_t hF c2
      refine x_iconst (0 : Int32) C dX1_isAt_22 rfl ?_
      exact x_zretR C rfl dX1_isAt_23 rfl (r_b0 hF)
    · have hF := ite_f hF c2
      refine x_iload_n C dX1_isAt_12 rfl ?_
      refine x_iload_n C dX1_isAt_13 rfl ?_
      refine x_isub C dX1_isAt_14 ?_
      refine x_aload_n C dX1_isAt_15 rfl ?_
      have hx6 := hst0_a3
      obtain ⟨hk3, -, v4, -, hs5⟩ := hx6
      refine x_goR (fun ls h => x_runVS (As := []) [.int (a2 - a1)] h C ml_X1_26 (cJ_length l D cA s0 hG.2.2.1 a3r v4 a3) ⟨rfl, rfl, nb rfl, nb rfl⟩ rfl hs5 ⟨hw.2.2.2.1, hk3, hs5⟩ (nb rfl) ⟨Nat.zero_le _, Nat.zero_le _⟩ dX1_isAt_16) ?_
      refine x_icmp_eq 24 C dX1_isAt_19 (by decide) (fun c7 => ?_) (fun c7 => ?_)
      · have hF := ite_t hF c7
        refine x_iconst (0 : Int32) C dX1_isAt_24 rfl ?_
        refine x_istore [(4, .int (0 : Int32)), (0, .ref (b + o)), (1, .int a1), (2, .int a2), (3, .ref a3r)] C dX1_isAt_25 (by decide) rfl ?_
        refine x_sub [(0, .ref (b + o)), (1, .int a1), (3, .ref a3r), (4, .int (0 : Int32))] [1, 2, 4, 0] rfl ?_
        exact h_L27 10000 (0 : Int32) hF
      · have hF := ite_f hF c7
        refine x_iconst (0 : Int32) C dX1_isAt_22 rfl ?_
        exact x_zretR C rfl dX1_isAt_23 rfl (r_b0 hF)
noncomputable def g_X1_put (ν : Mm) (o : Nat) (a1 : Int32) : Option (Mm) := asr (isByt o) ((if (nI (szB o)) ≤ (ν.1 o 2) then some ν else asr (vp_in (ν.1 o 2) (szB o)) (bnd (some (uI ν (o + 2) (cl (ν.1 o 2)) (vp_nar .byte a1.toInt8.toInt32))) (fun μ5 => bnd (some (uI μ5 o 2 ((μ5.1 o 2) + (1 : Int32)))) (fun μ7 => some μ7)))))
set_option maxRecDepth 20000 in
set_option maxHeartbeats 4000000 in
theorem k_X1_put (l : Launch) (D : va_G) (cA : Nat → ClassId) (s0 : State) (z : Nat) (b : Nat) (ν : Mm) (sz : Nat) (hG : xG l D cA s0) (o : Nat) (a1 : Int32) (r : Mm) (hF : g_X1_put ν o a1 = some r) : Met l yX1_put (wsG yX1_put cX1_put 2 none) { frames := 0, cells := 0, slots := 0, locals := 0 } (xP D cA s0 [.ref (b + o), .int a1] (fun H => H.size = sz ∧ WC D cA s0 z b ν H)) (xQm none (fun H => WC D cA s0 z b r H) (xA b 2628 sz)) 0 0 (xA b 2628 sz) := by
  refine x_start (own := RX1) [(0, .ref (b + o)), (1, .int a1)] rfl rfl (by decide) (nb rfl) ?_
  intro p e s m args below meth c C hw
  obtain ⟨hsz, hw⟩ := hw
  subst hsz
  have hS : va_S (xA b 2628 s.heap.size) s.heap s.heap [] := va_S.rf
  obtain ⟨hpo, hF⟩ := asr_e hF
  refine x_aload_n C dX1_put_0 rfl ?_
  refine x_get (.int (ν.1 o 2)) C fl_X1_22 (C_Byt hpo hw) rfl dX1_put_1 ?_
  refine x_aload_n C dX1_put_4 rfl ?_
  refine x_get (.ref (b + (o + 2))) C fl_X1_19 (C_Byt hpo hw) rfl dX1_put_5 ?_
  refine x_alen (nI (szB o)) (t := 2) C (C_data hpo hw) rfl rfl dX1_put_8 ?_
  refine x_icmp_ge 33 C dX1_put_9 (by decide) (fun c1 => ?_) (fun c1 => ?_)
  · have hF := ite_t hF c1
    exact x_vretM2 C rfl dX1_put_33 rfl (rv_m (W := fun m => WC D cA s0 z b m _) hF hw) hS (nb rfl) (nb rfl)
  · have hF := ite_f hF c1
    refine x_aload_n C dX1_put_12 rfl ?_
    refine x_get (.ref (b + (o + 2))) C fl_X1_19 (C_Byt hpo hw) rfl dX1_put_13 ?_
    refine x_aload_n C dX1_put_16 rfl ?_
    refine x_get (.int (ν.1 o 2)) C fl_X1_22 (C_Byt hpo hw) rfl dX1_put_17 ?_
    refine x_iload_n C dX1_put_20 rfl ?_
    refine x_i2b C dX1_put_21 ?_
    obtain ⟨h2, hF⟩ := asr_e hF
    obtain ⟨hn3, hl4⟩ := vpn h2 szB_31
    refine y_bast (o + 2) C hw (la_data hpo) (fun nm f => S_data hpo) hn3 hl4 szB_31 dX1_put_22 hS (xA_in (la_data hpo)) (fun H locs hw hS => ?_)
    obtain ⟨μ5, hm6, hF⟩ := bnd_e hF
    have hw : WC D cA s0 z b μ5 H := rv_m (W := fun m => WC D cA s0 z b m _) hm6 hw
    refine x_aload_n C dX1_put_23 rfl ?_
    refine x_dup C dX1_put_24 rfl ?_
    refine x_get (.int (μ5.1 o 2)) C fl_X1_22 (C_Byt hpo hw) rfl dX1_put_25 ?_
    refine x_iconst (1 : Int32) C dX1_put_28 rfl ?_
    refine x_iadd C dX1_put_29 ?_
    refine y_putI (kk0 := 2) o C fl_X1_22 hw (l3 (lt_Byt hpo)) (fun nm => S_Byt hpo) (fun nm => S_Byt hpo) rfl rfl (fun _ => nb rfl) dX1_put_30 hS (xA_in (l3 (lt_Byt hpo))) (fun H locs hw hS => ?_)
    obtain ⟨μ7, hm8, hF⟩ := bnd_e hF
    have hw : WC D cA s0 z b μ7 H := rv_m (W := fun m => WC D cA s0 z b m _) hm8 hw
    exact x_vretM2 C rfl dX1_put_33 rfl (rv_m (W := fun m => WC D cA s0 z b m _) hF hw) hS (nb rfl) (nb rfl)
noncomputable def g_X1_putInt (ν : Mm) (o : Nat) (a1 : Int32) : Option (Mm) := asr (isByt o) (bnd (g_X1_put ν o ((a1.toUInt32 >>> ((24 : Int32).toUInt32 &&& Int32.toUInt32 31)).toInt32)) (fun q1 => bnd (g_X1_put q1 o ((a1.toUInt32 >>> ((16 : Int32).toUInt32 &&& Int32.toUInt32 31)).toInt32)) (fun q3 => bnd (g_X1_put q3 o ((a1.toUInt32 >>> ((8 : Int32).toUInt32 &&& Int32.toUInt32 31)).toInt32)) (fun q5 => bnd (g_X1_put q5 o a1) (fun q7 => some q7)))))
set_option maxRecDepth 20000 in
set_option maxHeartbeats 4000000 in
theorem k_X1_putInt (l : Launch) (D : va_G) (cA : Nat → ClassId) (s0 : State) (z : Nat) (b : Nat) (ν : Mm) (sz : Nat) (hG : xG l D cA s0) (o : Nat) (a1 : Int32) (r : Mm) (hF : g_X1_putInt ν o a1 = some r) : Met l yX1_putInt (wsG yX1_putInt cX1_putInt 2 none) { frames := 1, cells := 0, slots := 0, locals := 21 } (xP D cA s0 [.ref (b + o), .int a1] (fun H => H.size = sz ∧ WC D cA s0 z b ν H)) (xQm none (fun H => WC D cA s0 z b r H) (xA b 2628 sz)) 0 0 (xA b 2628 sz) := by
  refine x_start (own := RX1) [(0, .ref (b + o)), (1, .int a1)] rfl rfl (by decide) (nb rfl) ?_
  intro p e s m args below meth c C hw
  obtain ⟨hsz, hw⟩ := hw
  subst hsz
  have hS : va_S (xA b 2628 s.heap.size) s.heap s.heap [] := va_S.rf
  obtain ⟨hpo, hF⟩ := asr_e hF
  refine x_aload_n C dX1_putInt_0 rfl ?_
  refine x_iload_n C dX1_putInt_1 rfl ?_
  refine x_bipush (24 : Int32) C dX1_putInt_2 rfl ?_
  refine x_iushr C dX1_putInt_4 ?_
  obtain ⟨q1, hq2, hF⟩ := bnd_e hF
  refine x_goM (fun ls h => x_runV (As := [.int ((a1.toUInt32 >>> ((24 : Int32).toUInt32 &&& Int32.toUInt32 31)).toInt32)]) [] h C ml_X1_35 (k_X1_put l D cA s0 z b ν _ hG o ((a1.toUInt32 >>> ((24 : Int32).toUInt32 &&& Int32.toUInt32 31)).toInt32) q1 hq2) ⟨rfl, rfl, nb rfl, nb rfl⟩ rfl (C_Byt hpo hw) rfl ⟨rfl, hw⟩ (nb rfl) ⟨Nat.zero_le _, Nat.zero_le _⟩ dX1_putInt_5) hS (xA_le hS) (fun H locs hw hz hk hS => ?_)
  have hw : WC D cA s0 z b q1 H := hw
  refine x_aload_n C dX1_putInt_8 rfl ?_
  refine x_iload_n C dX1_putInt_9 rfl ?_
  refine x_bipush (16 : Int32) C dX1_putInt_10 rfl ?_
  refine x_iushr C dX1_putInt_12 ?_
  obtain ⟨q3, hq4, hF⟩ := bnd_e hF
  refine x_goM (fun ls h => x_runV (As := [.int ((a1.toUInt32 >>> ((16 : Int32).toUInt32 &&& Int32.toUInt32 31)).toInt32)]) [] h C ml_X1_35 (k_X1_put l D cA s0 z b q1 _ hG o ((a1.toUInt32 >>> ((16 : Int32).toUInt32 &&& Int32.toUInt32 31)).toInt32) q3 hq4) ⟨rfl, rfl, nb rfl, nb rfl⟩ rfl (C_Byt hpo hw) rfl ⟨rfl, hw⟩ (nb rfl) ⟨Nat.zero_le _, Nat.zero_le _⟩ dX1_putInt_13) hS (xA_le hS) (fun H locs hw hz hk hS => ?_)
  have hw : WC D cA s0 z b q3 H := hw
  refine x_aload_n C dX1_putInt_16 rfl ?_
  refine x_iload_n C dX1_putInt_17 rfl ?_
  refine x_bipush (8 : Int32) C dX1_putInt_18 rfl ?_
  refine x_iushr C dX1_putInt_20 ?_
  obtain ⟨q5, hq6, hF⟩ := bnd_e hF
  refine x_goM (fun ls h => x_runV (As := [.int ((a1.toUInt32 >>> ((8 : Int32).toUInt32 &&& Int32.toUInt32 31)).toInt32)]) [] h C ml_X1_35 (k_X1_put l D cA s0 z b q3 _ hG o ((a1.toUInt32 >>> ((8 : Int32).toUInt32 &&& Int32.toUInt32 31)).toInt32) q5 hq6) ⟨rfl, rfl, nb rfl, nb rfl⟩ rfl (C_Byt hpo hw) rfl ⟨rfl, hw⟩ (nb rfl) ⟨Nat.zero_le _, Nat.zero_le _⟩ dX1_putInt_21) hS (xA_le hS) (fun H locs hw hz hk hS => ?_)
  have hw : WC D cA s0 z b q5 H := hw
  refine x_aload_n C dX1_putInt_24 rfl ?_
  refine x_iload_n C dX1_putInt_25 rfl ?_
  obtain ⟨q7, hq8, hF⟩ := bnd_e hF
  refine x_goM (fun ls h => x_runV (As := [.int a1]) [] h C ml_X1_35 (k_X1_put l D cA s0 z b q5 _ hG o a1 q7 hq8) ⟨rfl, rfl, nb rfl, nb rfl⟩ rfl (C_Byt hpo hw) rfl ⟨rfl, hw⟩ (nb rfl) ⟨Nat.zero_le _, Nat.zero_le _⟩ dX1_putInt_26) hS (xA_le hS) (fun H locs hw hz hk hS => ?_)
  have hw : WC D cA s0 z b q7 H := hw
  exact x_vretM2 C rfl dX1_putInt_29 rfl (rv_m (W := fun m => WC D cA s0 z b m _) hF hw) hS (nb rfl) (nb rfl)
noncomputable def g_X1_putText_L2 (ν : Mm) (o : Nat) (a1 : Nat) : Nat → Mm → Int32 → Option (Mm)
  | 0, _, _ => none
  | n + 1, μ0, x2 => (if (nI (slen a1)) ≤ x2 then some μ0 else asr (vp_in x2 (slen a1)) (bnd (g_X1_put μ0 o (schar a1 (cl x2))) (fun q13 => (g_X1_putText_L2 ν o a1 n q13 (x2 + (1 : Int32))))))
noncomputable def g_X1_putText (ν : Mm) (o : Nat) (a1 : Nat) : Option (Mm) := asr (isByt o) ((g_X1_putText_L2 ν o a1 10000 ν (0 : Int32)))
set_option maxRecDepth 20000 in
set_option maxHeartbeats 4000000 in
theorem k_X1_putText (l : Launch) (D : va_G) (cA : Nat → ClassId) (s0 : State) (z : Nat) (b : Nat) (ν : Mm) (sz : Nat) (hG : xG l D cA s0) (a1r : Nat) (o : Nat) (a1 : Nat) (r : Mm) (hF : g_X1_putText ν o a1 = some r) : Met l yX1_putText (wsG yX1_putText cX1_putText 3 none) { frames := 4, cells := 0, slots := 0, locals := 85 } (xP D cA s0 [.ref (b + o), .ref a1r] (fun H => H.size = sz ∧ WC D cA s0 z b ν H ∧ Str D cA s0 z a1r a1 H)) (xQm none (fun H => WC D cA s0 z b r H) (xA b 2628 sz)) 0 0 (xA b 2628 sz) := by
  refine x_start (own := RX1) [(0, .ref (b + o)), (1, .ref a1r)] rfl rfl (by decide) (nb rfl) ?_
  intro p e s m args below meth c C hw
  obtain ⟨hsz, hw, hst0_a1⟩ := hw
  subst hsz
  have hS : va_S (xA b 2628 s.heap.size) s.heap s.heap [] := va_S.rf
  obtain ⟨hpo, hF⟩ := asr_e hF
  have h_L2 : ∀ (n : Nat) (μ0 : Mm) (x2 : Int32) (H : Heap) (locs : List Loc) (hw : WC D cA s0 z b μ0 H) (hS : va_S (xA b 2628 s.heap.size) s.heap H locs), g_X1_putText_L2 ν o a1 n μ0 x2 = some r → xW p l e { frames := 4, cells := 0, slots := 0, locals := 85 } s m args below meth c 3 (MQ below (xQm none (fun H => WC D cA s0 z b r H) (xA b 2628 s.heap.size)) args s 0 0 (xA b 2628 s.heap.size)) H locs 0 0 2 [(0, .ref (b + o)), (1, .ref a1r), (2, .int x2)] [] := by
    intro n
    induction n with
    | zero =>
      intro μ0 x2 H locs hw hS hF
      exact no_some hF
    | succ n ih =>
      intro μ0 x2 H locs hw hS hF
      have ih2 := ih
      refine x_iload_n C dX1_putText_2 rfl ?_
      refine x_aload_n C dX1_putText_3 rfl ?_
      have hx4 := (Str.now hst0_a1 hw.1 hw.2.1 hS)
      obtain ⟨hk1, -, v2, -, hs3⟩ := hx4
      refine x_goR (fun ls h => x_runVS (As := []) [.int x2] h C ml_X1_26 (cJ_length l D cA s0 hG.2.2.1 a1r v2 a1) ⟨rfl, rfl, nb rfl, nb rfl⟩ rfl hs3 ⟨hw.2.2.2.1, hk1, hs3⟩ (nb rfl) ⟨Nat.zero_le _, Nat.zero_le _⟩ dX1_putText_4) ?_
      refine x_icmp_ge 25 C dX1_putText_7 (by decide) (fun c5 => ?_) (fun c5 => ?_)
      · have hF := ite_t hF c5
        exact x_vretM2 C rfl dX1_putText_25 rfl (rv_m (W := fun m => WC D cA s0 z b m _) hF hw) hS (nb rfl) (nb rfl)
      · have hF := ite_f hF c5
        refine x_aload_n C dX1_putText_10 rfl ?_
        refine x_aload_n C dX1_putText_11 rfl ?_
        refine x_iload_n C dX1_putText_12 rfl ?_
        have hx9 := (Str.now hst0_a1 hw.1 hw.2.1 hS)
        obtain ⟨hk6, -, v7, -, hs8⟩ := hx9
        obtain ⟨h10, hF⟩ := asr_e hF
        obtain ⟨hn11, hl12⟩ := vpn h10 slen_31
        refine x_topi (nI (cl x2)) hn11 ?_
        refine x_goR (fun ls h => x_runVS (As := [.int (nI (cl x2))]) [.ref (b + o)] h C ml_X1_31 (cJ_charAt l D cA s0 hG.2.2.1 a1r v7 a1 (cl x2) hl12) ⟨rfl, rfl, nb rfl, nb rfl⟩ rfl hs8 ⟨hw.2.2.2.1, hk6, hs8⟩ (nb rfl) ⟨Nat.zero_le _, Nat.zero_le _⟩ dX1_putText_13) ?_
        obtain ⟨q13, hq14, hF⟩ := bnd_e hF
        refine x_goM (fun ls h => x_runV (As := [.int (schar a1 (cl x2))]) [] h C ml_X1_35 (k_X1_put l D cA s0 z b μ0 _ hG o (schar a1 (cl x2)) q13 hq14) ⟨rfl, rfl, nb rfl, nb rfl⟩ rfl (C_Byt hpo hw) rfl ⟨rfl, hw⟩ (nb rfl) ⟨Nat.zero_le _, Nat.zero_le _⟩ dX1_putText_16) hS (xA_le hS) (fun H locs hw hz hk hS => ?_)
        have hw : WC D cA s0 z b q13 H := hw
        refine x_iinc (x2 + (1 : Int32)) [(2, .int (x2 + (1 : Int32))), (0, .ref (b + o)), (1, .ref a1r)] C dX1_putText_19 rfl rfl (by decide) rfl ?_
        refine x_goto 2 C dX1_putText_22 (by decide) ?_
        refine x_sub [(0, .ref (b + o)), (1, .ref a1r), (2, .int (x2 + (1 : Int32)))] [1, 2, 0] rfl ?_
        exact ih2 q13 (x2 + (1 : Int32)) _ _ hw hS hF
  refine x_iconst (0 : Int32) C dX1_putText_0 rfl ?_
  refine x_istore_n [(2, .int (0 : Int32)), (0, .ref (b + o)), (1, .ref a1r)] C dX1_putText_1 rfl (by decide) rfl ?_
  refine x_sub [(0, .ref (b + o)), (1, .ref a1r), (2, .int (0 : Int32))] [1, 2, 0] rfl ?_
  exact h_L2 10000 ν (0 : Int32) _ _ hw hS hF
noncomputable def g_X1_putNumber_L74 (ν : Mm) (o : Nat) (a1 : Int64) : Nat → Mm → Int32 → Option (Mm)
  | 0, _, _ => none
  | n + 1, μ0, x6 => (if x6 < 0 then some μ0 else asr (vp_in x6 19) (bnd (g_X1_put μ0 o (μ0.1 (o + 1) (cl x6))) (fun q13 => (g_X1_putNumber_L74 ν o a1 n q13 (x6 + (-1 : Int32))))))
noncomputable def g_X1_putNumber_L28 (ν : Mm) (o : Nat) (a1 : Int64) : Nat → Mm → Int64 → Int32 → Option (Mm)
  | 0, _, _, _ => none
  | n + 1, μ0, x3, x5 => asr (vp_in x5 19) (bnd (some (uI μ0 (o + 1) (cl x5) (vp_nar .byte ((((48 : Int64) + (x3 - x3 / (10 : Int64) * (10 : Int64))).toInt32).toInt8.toInt32)))) (fun μ6 => (if (x3 / (10 : Int64)) ≤ (0 : Int64) then (g_X1_putNumber_L74 ν o a1 10000 μ6 ((x5 + (1 : Int32)) - (1 : Int32))) else (if (x5 + (1 : Int32)) < (19 : Int32) then (g_X1_putNumber_L28 ν o a1 n μ6 (x3 / (10 : Int64)) (x5 + (1 : Int32))) else (g_X1_putNumber_L74 ν o a1 10000 μ6 ((x5 + (1 : Int32)) - (1 : Int32)))))))
noncomputable def g_X1_putNumber_J12 (ν : Mm) (o : Nat) (a1 : Int64) (μ0 : Mm) : Option (Mm) := (if (0 : Int64) ≤ a1 then (g_X1_putNumber_L28 ν o a1 10000 μ0 a1 (0 : Int32)) else (g_X1_putNumber_L28 ν o a1 10000 μ0 (-a1) (0 : Int32)))
noncomputable def g_X1_putNumber (ν : Mm) (o : Nat) (a1 : Int64) : Option (Mm) := asr (isByt o) ((if (0 : Int64) ≤ a1 then (g_X1_putNumber_J12 ν o a1 ν) else bnd (g_X1_put ν o (45 : Int32)) (fun q16 => (g_X1_putNumber_J12 ν o a1 q16))))
set_option maxRecDepth 20000 in
set_option maxHeartbeats 4000000 in
theorem k_X1_putNumber (l : Launch) (D : va_G) (cA : Nat → ClassId) (s0 : State) (z : Nat) (b : Nat) (ν : Mm) (sz : Nat) (hG : xG l D cA s0) (o : Nat) (a1 : Int64) (r : Mm) (hF : g_X1_putNumber ν o a1 = some r) : Met l yX1_putNumber (wsG yX1_putNumber cX1_putNumber 7 none) { frames := 1, cells := 0, slots := 0, locals := 21 } (xP D cA s0 [.ref (b + o), .long a1] (fun H => H.size = sz ∧ WC D cA s0 z b ν H)) (xQm none (fun H => WC D cA s0 z b r H) (xA b 2628 sz)) 0 0 (xA b 2628 sz) := by
  refine x_start (own := RX1) [(0, .ref (b + o)), (1, .long a1)] rfl rfl (by decide) (nb rfl) ?_
  intro p e s m args below meth c C hw
  obtain ⟨hsz, hw⟩ := hw
  subst hsz
  have hS : va_S (xA b 2628 s.heap.size) s.heap s.heap [] := va_S.rf
  obtain ⟨hpo, hF⟩ := asr_e hF
  have h_L74 : ∀ (n : Nat) (μ0 : Mm) (x6 : Int32) (H : Heap) (locs : List Loc) (hw : WC D cA s0 z b μ0 H) (hS : va_S (xA b 2628 s.heap.size) s.heap H locs), g_X1_putNumber_L74 ν o a1 n μ0 x6 = some r → xW p l e { frames := 1, cells := 0, slots := 0, locals := 21 } s m args below meth c 7 (MQ below (xQm none (fun H => WC D cA s0 z b r H) (xA b 2628 s.heap.size)) args s 0 0 (xA b 2628 s.heap.size)) H locs 0 0 74 [(0, .ref (b + o)), (6, .int x6)] [] := by
    intro n
    induction n with
    | zero =>
      intro μ0 x6 H locs hw hS hF
      exact no_some hF
    | succ n ih =>
      intro μ0 x6 H locs hw hS hF
      have ih74 := ih
      refine x_iload C dX1_putNumber_74 rfl ?_
      refine x_if_lt 96 C dX1_putNumber_76 (by decide) (fun c9 => ?_) (fun c9 => ?_)
      · have hF := ite_t hF c9
        exact x_vretM2 C rfl dX1_putNumber_96 rfl (rv_m (W := fun m => WC D cA s0 z b m _) hF hw) hS (nb rfl) (nb rfl)
      · have hF := ite_f hF c9
        refine x_aload_n C dX1_putNumber_79 rfl ?_
        refine x_aload_n C dX1_putNumber_80 rfl ?_
        refine x_get (.ref (b + (o + 1))) C fl_X1_9 (C_Byt hpo hw) rfl dX1_putNumber_81 ?_
        refine x_iload C dX1_putNumber_84 rfl ?_
        obtain ⟨h10, hF⟩ := asr_e hF
        obtain ⟨hn11, hl12⟩ := vpn h10 (by decide)
        refine x_baldN C (C_digits hpo hw) hn11 hl12 (by decide) dX1_putNumber_86 ?_
        obtain ⟨q13, hq14, hF⟩ := bnd_e hF
        refine x_goM (fun ls h => x_runV (As := [.int (μ0.1 (o + 1) (cl x6))]) [] h C ml_X1_35 (k_X1_put l D cA s0 z b μ0 _ hG o (μ0.1 (o + 1) (cl x6)) q13 hq14) ⟨rfl, rfl, nb rfl, nb rfl⟩ rfl (C_Byt hpo hw) rfl ⟨rfl, hw⟩ (nb rfl) ⟨Nat.zero_le _, Nat.zero_le _⟩ dX1_putNumber_87) hS (xA_le hS) (fun H locs hw hz hk hS => ?_)
        have hw : WC D cA s0 z b q13 H := hw
        refine x_iinc (x6 + (-1 : Int32)) [(6, .int (x6 + (-1 : Int32))), (0, .ref (b + o))] C dX1_putNumber_90 rfl rfl (by decide) rfl ?_
        refine x_goto 74 C dX1_putNumber_93 (by decide) ?_
        refine x_sub [(0, .ref (b + o)), (6, .int (x6 + (-1 : Int32)))] [1, 0] rfl ?_
        exact ih74 q13 (x6 + (-1 : Int32)) _ _ hw hS hF
  have h_L28 : ∀ (n : Nat) (μ0 : Mm) (x3 : Int64) (x5 : Int32) (H : Heap) (locs : List Loc) (hw : WC D cA s0 z b μ0 H) (hS : va_S (xA b 2628 s.heap.size) s.heap H locs), g_X1_putNumber_L28 ν o a1 n μ0 x3 x5 = some r → xW p l e { frames := 1, cells := 0, slots := 0, locals := 21 } s m args below meth c 7 (MQ below (xQm none (fun H => WC D cA s0 z b r H) (xA b 2628 s.heap.size)) args s 0 0 (xA b 2628 s.heap.size)) H locs 0 0 28 [(0, .ref (b + o)), (3, .long x3), (5, .int x5)] [] := by
    intro n
    induction n with
    | zero =>
      intro μ0 x3 x5 H locs hw hS hF
      exact no_some hF
    | succ n ih =>
      intro μ0 x3 x5 H locs hw hS hF
      have ih28 := ih
      refine x_aload_n C dX1_putNumber_28 rfl ?_
      refine x_get (.ref (b + (o + 1))) C fl_X1_9 (C_Byt hpo hw) rfl dX1_putNumber_29 ?_
      refine x_iload C dX1_putNumber_32 rfl ?_
      refine x_ldc2 (48 : Int64) C cl_X1_39 dX1_putNumber_34 ?_
      refine x_lload_n C dX1_putNumber_37 rfl ?_
      refine x_ldc2 (10 : Int64) C cl_X1_41 dX1_putNumber_38 ?_
      refine x_lrem C dX1_putNumber_41 (by decide) ?_
      refine x_ladd C dX1_putNumber_42 ?_
      refine x_l2i C dX1_putNumber_43 ?_
      refine x_i2b C dX1_putNumber_44 ?_
      obtain ⟨h3, hF⟩ := asr_e hF
      obtain ⟨hn4, hl5⟩ := vpn h3 (by decide)
      refine y_bast (o + 1) C hw (la_digits hpo) (fun nm f => S_digits hpo) hn4 hl5 (by decide) dX1_putNumber_45 hS (xA_in (la_digits hpo)) (fun H locs hw hS => ?_)
      obtain ⟨μ6, hm7, hF⟩ := bnd_e hF
      have hw : WC D cA s0 z b μ6 H := rv_m (W := fun m => WC D cA s0 z b m _) hm7 hw
      refine x_lload_n C dX1_putNumber_46 rfl ?_
      refine x_ldc2 (10 : Int64) C cl_X1_41 dX1_putNumber_47 ?_
      refine x_ldiv C dX1_putNumber_50 (by decide) ?_
      refine x_lstore_n [(3, .long (x3 / (10 : Int64))), (0, .ref (b + o)), (5, .int x5)] C dX1_putNumber_51 rfl (by decide) rfl ?_
      refine x_iinc (x5 + (1 : Int32)) [(5, .int (x5 + (1 : Int32))), (3, .long (x3 / (10 : Int64))), (0, .ref (b + o))] C dX1_putNumber_52 rfl rfl (by decide) rfl ?_
      refine x_lload_n C dX1_putNumber_55 rfl ?_
      refine x_lconst (0 : Int64) C dX1_putNumber_56 rfl ?_
      refine x_lcmp_le 68 C dX1_putNumber_57 dX1_putNumber_58 (by decide) (fun c8 => ?_) (fun c8 => ?_)
      · have hF := ite_t hF c8
        refine x_iload C dX1_putNumber_68 rfl ?_
        refine x_iconst (1 : Int32) C dX1_putNumber_70 rfl ?_
        refine x_isub C dX1_putNumber_71 ?_
        refine x_istore [(6, .int ((x5 + (1 : Int32)) - (1 : Int32))), (5, .int (x5 + (1 : Int32))), (3, .long (x3 / (10 : Int64))), (0, .ref (b + o))] C dX1_putNumber_72 (by decide) rfl ?_
        refine x_sub [(0, .ref (b + o)), (6, .int ((x5 + (1 : Int32)) - (1 : Int32)))] [3, 0] rfl ?_
        exact h_L74 10000 μ6 ((x5 + (1 : Int32)) - (1 : Int32)) _ _ hw hS hF
      · have hF := ite_f hF c8
        refine x_iload C dX1_putNumber_61 rfl ?_
        refine x_bipush (19 : Int32) C dX1_putNumber_63 rfl ?_
        refine x_icmp_lt 28 C dX1_putNumber_65 (by decide) (fun c15 => ?_) (fun c15 => ?_)
        · have hF := ite_t hF c15
          refine x_sub [(0, .ref (b + o)), (3, .long (x3 / (10 : Int64))), (5, .int (x5 + (1 : Int32)))] [2, 1, 0] rfl ?_
          exact ih28 μ6 (x3 / (10 : Int64)) (x5 + (1 : Int32)) _ _ hw hS hF
        · have hF := ite_f hF c15
          refine x_iload C dX1_putNumber_68 rfl ?_
          refine x_iconst (1 : Int32) C dX1_putNumber_70 rfl ?_
          refine x_isub C dX1_putNumber_71 ?_
          refine x_istore [(6, .int ((x5 + (1 : Int32)) - (1 : Int32))), (5, .int (x5 + (1 : Int32))), (3, .long (x3 / (10 : Int64))), (0, .ref (b + o))] C dX1_putNumber_72 (by decide) rfl ?_
          refine x_sub [(0, .ref (b + o)), (6, .int ((x5 + (1 : Int32)) - (1 : Int32)))] [3, 0] rfl ?_
          exact h_L74 10000 μ6 ((x5 + (1 : Int32)) - (1 : Int32)) _ _ hw hS hF
  have h_J12 : ∀ (μ0 : Mm) (H : Heap) (locs : List Loc) (hw : WC D cA s0 z b μ0 H) (hS : va_S (xA b 2628 s.heap.size) s.heap H locs), g_X1_putNumber_J12 ν o a1 μ0 = some r → xW p l e { frames := 1, cells := 0, slots := 0, locals := 21 } s m args below meth c 7 (MQ below (xQm none (fun H => WC D cA s0 z b r H) (xA b 2628 s.heap.size)) args s 0 0 (xA b 2628 s.heap.size)) H locs 0 0 12 [(0, .ref (b + o)), (1, .long a1)] [] := by
    intro μ0 H locs hw hS hF
    refine x_lload_n C dX1_putNumber_12 rfl ?_
    refine x_lconst (0 : Int64) C dX1_putNumber_13 rfl ?_
    refine x_lcmp_ge 23 C dX1_putNumber_14 dX1_putNumber_15 (by decide) (fun c2 => ?_) (fun c2 => ?_)
    · have hF := ite_t hF c2
      refine x_lload_n C dX1_putNumber_23 rfl ?_
      refine x_lstore_n [(3, .long a1), (0, .ref (b + o)), (1, .long a1)] C dX1_putNumber_24 rfl (by decide) rfl ?_
      refine x_iconst (0 : Int32) C dX1_putNumber_25 rfl ?_
      refine x_istore [(5, .int (0 : Int32)), (3, .long a1), (0, .ref (b + o)), (1, .long a1)] C dX1_putNumber_26 (by decide) rfl ?_
      refine x_sub [(0, .ref (b + o)), (3, .long a1), (5, .int (0 : Int32))] [2, 1, 0] rfl ?_
      exact h_L28 10000 μ0 a1 (0 : Int32) _ _ hw hS hF
    · have hF := ite_f hF c2
      refine x_lload_n C dX1_putNumber_18 rfl ?_
      refine x_lneg C dX1_putNumber_19 ?_
      refine x_goto 24 C dX1_putNumber_20 (by decide) ?_
      refine x_lstore_n [(3, .long (-a1)), (0, .ref (b + o)), (1, .long a1)] C dX1_putNumber_24 rfl (by decide) rfl ?_
      refine x_iconst (0 : Int32) C dX1_putNumber_25 rfl ?_
      refine x_istore [(5, .int (0 : Int32)), (3, .long (-a1)), (0, .ref (b + o)), (1, .long a1)] C dX1_putNumber_26 (by decide) rfl ?_
      refine x_sub [(0, .ref (b + o)), (3, .long (-a1)), (5, .int (0 : Int32))] [2, 1, 0] rfl ?_
      exact h_L28 10000 μ0 (-a1) (0 : Int32) _ _ hw hS hF
  refine x_lload_n C dX1_putNumber_0 rfl ?_
  refine x_lconst (0 : Int64) C dX1_putNumber_1 rfl ?_
  refine x_lcmp_ge 12 C dX1_putNumber_2 dX1_putNumber_3 (by decide) (fun c1 => ?_) (fun c1 => ?_)
  · have hF := ite_t hF c1
    exact h_J12 ν _ _ hw hS hF
  · have hF := ite_f hF c1
    refine x_aload_n C dX1_putNumber_6 rfl ?_
    refine x_bipush (45 : Int32) C dX1_putNumber_7 rfl ?_
    obtain ⟨q16, hq17, hF⟩ := bnd_e hF
    refine x_goM (fun ls h => x_runV (As := [.int (45 : Int32)]) [] h C ml_X1_35 (k_X1_put l D cA s0 z b ν _ hG o (45 : Int32) q16 hq17) ⟨rfl, rfl, nb rfl, nb rfl⟩ rfl (C_Byt hpo hw) rfl ⟨rfl, hw⟩ (nb rfl) ⟨Nat.zero_le _, Nat.zero_le _⟩ dX1_putNumber_9) hS (xA_le hS) (fun H locs hw hz hk hS => ?_)
    have hw : WC D cA s0 z b q16 H := hw
    exact h_J12 q16 _ _ hw hS hF
noncomputable def g_X2_copyFrom (ν : Mm) (o : Nat) (a1 : Nat) : Option (Mm) := asr (isCal o) (asr (isCal a1) (bnd (some (uI ν o 0 (ν.1 a1 0))) (fun μ1 => bnd (some (uI μ1 o 1 (μ1.1 a1 1))) (fun μ3 => bnd (some (uI μ3 o 2 (μ3.1 a1 2))) (fun μ5 => bnd (some (uI μ5 o 3 (μ5.1 a1 3))) (fun μ7 => asr (isZ (μ7.1 a1 4)) (bnd (some (uI μ7 o 4 (μ7.1 a1 4))) (fun μ10 => bnd (some (uI μ10 o 5 (μ10.1 a1 5))) (fun μ12 => bnd (some (uI μ12 o 6 (μ12.1 a1 6))) (fun μ14 => some μ14))))))))))
set_option maxRecDepth 20000 in
set_option maxHeartbeats 4000000 in
theorem k_X2_copyFrom (l : Launch) (D : va_G) (cA : Nat → ClassId) (s0 : State) (z : Nat) (b : Nat) (ν : Mm) (sz : Nat) (hG : xG l D cA s0) (o : Nat) (a1 : Nat) (r : Mm) (hF : g_X2_copyFrom ν o a1 = some r) : Met l yX2_copyFrom (wsG yX2_copyFrom cX2_copyFrom 2 none) { frames := 0, cells := 0, slots := 0, locals := 0 } (xP D cA s0 [.ref (b + o), .ref (b + a1)] (fun H => H.size = sz ∧ WC D cA s0 z b ν H)) (xQm none (fun H => WC D cA s0 z b r H) (xA b 2628 sz)) 0 0 (xA b 2628 sz) := by
  refine x_start (own := RX2) [(0, .ref (b + o)), (1, .ref (b + a1))] rfl rfl (by decide) (nb rfl) ?_
  intro p e s m args below meth c C hw
  obtain ⟨hsz, hw⟩ := hw
  subst hsz
  have hS : va_S (xA b 2628 s.heap.size) s.heap s.heap [] := va_S.rf
  obtain ⟨hpo, hF⟩ := asr_e hF
  obtain ⟨hpa1, hF⟩ := asr_e hF
  refine x_aload_n C dX2_copyFrom_0 rfl ?_
  refine x_aload_n C dX2_copyFrom_1 rfl ?_
  refine x_get (.int (ν.1 a1 0)) C fl_X2_9 (C_Cal hpa1 hw) rfl dX2_copyFrom_2 ?_
  refine y_putI (kk0 := 0) o C fl_X2_9 hw (l2 (lt_Cal hpo)) (fun nm => S_Cal hpo) (fun nm => S_Cal hpo) rfl rfl (fun _ => nb rfl) dX2_copyFrom_5 hS (xA_in (l2 (lt_Cal hpo))) (fun H locs hw hS => ?_)
  obtain ⟨μ1, hm2, hF⟩ := bnd_e hF
  have hw : WC D cA s0 z b μ1 H := rv_m (W := fun m => WC D cA s0 z b m _) hm2 hw
  refine x_aload_n C dX2_copyFrom_8 rfl ?_
  refine x_aload_n C dX2_copyFrom_9 rfl ?_
  refine x_get (.int (μ1.1 a1 1)) C fl_X2_15 (C_Cal hpa1 hw) rfl dX2_copyFrom_10 ?_
  refine y_putI (kk0 := 1) o C fl_X2_15 hw (l2 (lt_Cal hpo)) (fun nm => S_Cal hpo) (fun nm => S_Cal hpo) rfl rfl (fun _ => nb rfl) dX2_copyFrom_13 hS (xA_in (l2 (lt_Cal hpo))) (fun H locs hw hS => ?_)
  obtain ⟨μ3, hm4, hF⟩ := bnd_e hF
  have hw : WC D cA s0 z b μ3 H := rv_m (W := fun m => WC D cA s0 z b m _) hm4 hw
  refine x_aload_n C dX2_copyFrom_16 rfl ?_
  refine x_aload_n C dX2_copyFrom_17 rfl ?_
  refine x_get (.int (μ3.1 a1 2)) C fl_X2_18 (C_Cal hpa1 hw) rfl dX2_copyFrom_18 ?_
  refine y_putI (kk0 := 2) o C fl_X2_18 hw (l2 (lt_Cal hpo)) (fun nm => S_Cal hpo) (fun nm => S_Cal hpo) rfl rfl (fun _ => nb rfl) dX2_copyFrom_21 hS (xA_in (l2 (lt_Cal hpo))) (fun H locs hw hS => ?_)
  obtain ⟨μ5, hm6, hF⟩ := bnd_e hF
  have hw : WC D cA s0 z b μ5 H := rv_m (W := fun m => WC D cA s0 z b m _) hm6 hw
  refine x_aload_n C dX2_copyFrom_24 rfl ?_
  refine x_aload_n C dX2_copyFrom_25 rfl ?_
  refine x_get (.int (μ5.1 a1 3)) C fl_X2_21 (C_Cal hpa1 hw) rfl dX2_copyFrom_26 ?_
  refine y_putI (kk0 := 3) o C fl_X2_21 hw (l2 (lt_Cal hpo)) (fun nm => S_Cal hpo) (fun nm => S_Cal hpo) rfl rfl (fun _ => nb rfl) dX2_copyFrom_29 hS (xA_in (l2 (lt_Cal hpo))) (fun H locs hw hS => ?_)
  obtain ⟨μ7, hm8, hF⟩ := bnd_e hF
  have hw : WC D cA s0 z b μ7 H := rv_m (W := fun m => WC D cA s0 z b m _) hm8 hw
  refine x_aload_n C dX2_copyFrom_32 rfl ?_
  refine x_aload_n C dX2_copyFrom_33 rfl ?_
  refine x_get (.int (μ7.1 a1 4)) C fl_X2_24 (C_Cal hpa1 hw) rfl dX2_copyFrom_34 ?_
  obtain ⟨h9, hF⟩ := asr_e hF
  refine y_putZ (kk0 := 4) o C fl_X2_24 hw (l2 (lt_Cal hpo)) (fun nm => S_Cal hpo) (fun nm => S_Cal hpo) rfl (isZ_nar h9) (isZ_fit h9) (fun _ => nb rfl) dX2_copyFrom_37 hS (xA_in (l2 (lt_Cal hpo))) (fun H locs hw hS => ?_)
  obtain ⟨μ10, hm11, hF⟩ := bnd_e hF
  have hw : WC D cA s0 z b μ10 H := rv_m (W := fun m => WC D cA s0 z b m _) hm11 hw
  refine x_aload_n C dX2_copyFrom_40 rfl ?_
  refine x_aload_n C dX2_copyFrom_41 rfl ?_
  refine x_get (.int (μ10.1 a1 5)) C fl_X2_28 (C_Cal hpa1 hw) rfl dX2_copyFrom_42 ?_
  refine y_putI (kk0 := 5) o C fl_X2_28 hw (l2 (lt_Cal hpo)) (fun nm => S_Cal hpo) (fun nm => S_Cal hpo) rfl rfl (fun _ => nb rfl) dX2_copyFrom_45 hS (xA_in (l2 (lt_Cal hpo))) (fun H locs hw hS => ?_)
  obtain ⟨μ12, hm13, hF⟩ := bnd_e hF
  have hw : WC D cA s0 z b μ12 H := rv_m (W := fun m => WC D cA s0 z b m _) hm13 hw
  refine x_aload_n C dX2_copyFrom_48 rfl ?_
  refine x_aload_n C dX2_copyFrom_49 rfl ?_
  refine x_get (.int (μ12.1 a1 6)) C fl_X2_31 (C_Cal hpa1 hw) rfl dX2_copyFrom_50 ?_
  refine y_putI (kk0 := 6) o C fl_X2_31 hw (l2 (lt_Cal hpo)) (fun nm => S_Cal hpo) (fun nm => S_Cal hpo) rfl rfl (fun _ => nb rfl) dX2_copyFrom_53 hS (xA_in (l2 (lt_Cal hpo))) (fun H locs hw hS => ?_)
  obtain ⟨μ14, hm15, hF⟩ := bnd_e hF
  have hw : WC D cA s0 z b μ14 H := rv_m (W := fun m => WC D cA s0 z b m _) hm15 hw
  exact x_vretM2 C rfl dX2_copyFrom_56 rfl (rv_m (W := fun m => WC D cA s0 z b m _) hF hw) hS (nb rfl) (nb rfl)
