noncomputable def g_X8_invoiceDays_L24 (ν : Mm) (a1 : Nat) : Nat → Mm → Nat → Int32 → Option (Mm)
  | 0, _, _, _ => none
  | n + 1, μ0, x2, x3 => (if (30 : Int32) ≤ x3 then some μ0 else bnd (g_X11_contains (μ0.1 a1 6) x3) (fun q9 => (if q9 = true then bnd (g_X8_wordAndNumber μ0 32 x3.toInt64) (fun q14 => bnd (g_X11_contains (q14.1 x2 5) x3) (fun q16 => (if q16 = true then bnd (g_X1_put q14 4 (63 : Int32)) (fun q24 => (g_X8_invoiceDays_L24 ν a1 n q24 x2 (x3 + (1 : Int32)))) else bnd (g_X11_contains (q14.1 x2 6) x3) (fun q19 => (if q19 = true then bnd (g_X1_put q14 4 (45 : Int32)) (fun q22 => (g_X8_invoiceDays_L24 ν a1 n q22 x2 (x3 + (1 : Int32)))) else (g_X8_invoiceDays_L24 ν a1 n q14 x2 (x3 + (1 : Int32)))))))) else (g_X8_invoiceDays_L24 ν a1 n μ0 x2 (x3 + (1 : Int32))))))
noncomputable def g_X8_invoiceDays (ν : Mm) (a1 : Nat) : Option (Mm) := asr (isInv a1) (asr (vp_in (ν.1 a1 1) 40) (bnd (g_X1_putText ν 4 495957664800) (fun q6 => (g_X8_invoiceDays_L24 ν a1 10000 q6 (7 + (22 + (cl (ν.1 a1 1)))) (0 : Int32)))))
set_option maxRecDepth 20000 in
set_option maxHeartbeats 4000000 in
theorem k_X8_invoiceDays (l : Launch) (D : va_G) (cA : Nat → ClassId) (s0 : State) (z : Nat) (b : Nat) (ν : Mm) (sz : Nat) (hG : xG l D cA s0) (a1 : Nat) (r : Mm) (hF : g_X8_invoiceDays ν a1 = some r) : Met l yX8_invoiceDays (wsG yX8_invoiceDays cX8_invoiceDays 4 none) { frames := 6, cells := 0, slots := 0, locals := 130 } (xP D cA s0 [.ref (b + 2627), .ref (b + a1)] (fun H => H.size = sz ∧ WC D cA s0 z b ν H)) (xQm none (fun H => WC D cA s0 z b r H) (xA b 2628 sz)) 0 0 (xA b 2628 sz) := by
  refine x_start (own := RX8) [(0, .ref (b + 2627)), (1, .ref (b + a1))] rfl rfl (by decide) (nb rfl) ?_
  intro p e s m args below meth c C hw
  obtain ⟨hsz, hw⟩ := hw
  subst hsz
  have hS : va_S (xA b 2628 s.heap.size) s.heap s.heap [] := va_S.rf
  obtain ⟨hpa1, hF⟩ := asr_e hF
  have h_L24 : ∀ (n : Nat) (μ0 : Mm) (x2 : Nat) (x3 : Int32) (hpx2 : isCal x2) (H : Heap) (locs : List Loc) (hw : WC D cA s0 z b μ0 H) (hS : va_S (xA b 2628 s.heap.size) s.heap H locs), g_X8_invoiceDays_L24 ν a1 n μ0 x2 x3 = some r → xW p l e { frames := 6, cells := 0, slots := 0, locals := 130 } s m args below meth c 4 (MQ below (xQm none (fun H => WC D cA s0 z b r H) (xA b 2628 s.heap.size)) args s 0 0 (xA b 2628 s.heap.size)) H locs 0 0 24 [(0, .ref (b + 2627)), (1, .ref (b + a1)), (2, .ref (b + x2)), (3, .int x3)] [] := by
    intro n
    induction n with
    | zero =>
      intro μ0 x2 x3 hpx2 H locs hw hS hF
      exact no_some hF
    | succ n ih =>
      intro μ0 x2 x3 hpx2 H locs hw hS hF
      have ih24 := ih
      refine x_iload_n C dX8_invoiceDays_24 rfl ?_
      refine x_bipush (30 : Int32) C dX8_invoiceDays_25 rfl ?_
      refine x_icmp_ge 98 C dX8_invoiceDays_27 (by decide) (fun c8 => ?_) (fun c8 => ?_)
      · have hF := ite_t hF c8
        exact x_vretM2 C rfl dX8_invoiceDays_98 rfl (rv_m (W := fun m => WC D cA s0 z b m _) hF hw) hS (nb rfl) (nb rfl)
      · have hF := ite_f hF c8
        refine x_aload_n C dX8_invoiceDays_30 rfl ?_
        refine x_get (.int (μ0.1 a1 6)) C fl_X8_150 (C_Inv hpa1 hw) rfl dX8_invoiceDays_31 ?_
        refine x_iload_n C dX8_invoiceDays_34 rfl ?_
        obtain ⟨q9, hq10, hF⟩ := bnd_e hF
        refine x_goR (fun ls h => x_runN (As := [.int (μ0.1 a1 6), .int x3]) [] h C ml_X8_100 (k_X11_contains l D cA s0 z hG (μ0.1 a1 6) x3 q9 hq10) ⟨rfl, rfl, nb rfl, nb rfl⟩ rfl trivial (nb rfl) ⟨Nat.zero_le _, Nat.zero_le _⟩ dX8_invoiceDays_35) ?_
        refine x_ifB_eq 92 C dX8_invoiceDays_38 (by decide) (fun c11 => ?_) (fun c11 => ?_)
        · have hF := ite_f hF (nbt c11)
          refine x_iinc (x3 + (1 : Int32)) [(3, .int (x3 + (1 : Int32))), (0, .ref (b + 2627)), (1, .ref (b + a1)), (2, .ref (b + x2))] C dX8_invoiceDays_92 rfl rfl (by decide) rfl ?_
          refine x_goto 24 C dX8_invoiceDays_95 (by decide) ?_
          refine x_sub [(0, .ref (b + 2627)), (1, .ref (b + a1)), (2, .ref (b + x2)), (3, .int (x3 + (1 : Int32)))] [1, 2, 3, 0] rfl ?_
          exact ih24 μ0 x2 (x3 + (1 : Int32)) hpx2 _ _ hw hS hF
        · have hF := ite_t hF c11
          refine x_aload_n C dX8_invoiceDays_41 rfl ?_
          refine x_ldcS (z := z) 32 C hG.2.2.2 xl_X8_56 hw.2.2.2.1 dX8_invoiceDays_42 (fun ra12 hst13 => ?_)
          refine x_iload_n C dX8_invoiceDays_44 rfl ?_
          refine x_i2l C dX8_invoiceDays_45 ?_
          obtain ⟨q14, hq15, hF⟩ := bnd_e hF
          refine x_goM (fun ls h => x_runV (As := [.ref ra12, .long x3.toInt64]) [] h C ml_X8_68 (k_X8_wordAndNumber l D cA s0 z b μ0 _ hG ra12 32 x3.toInt64 q14 hq15) ⟨rfl, rfl, nb rfl, nb rfl⟩ rfl (C_Rep hw) rfl ⟨rfl, hw, hst13⟩ (nb rfl) ⟨Nat.zero_le _, Nat.zero_le _⟩ dX8_invoiceDays_46) hS (xA_le hS) (fun H locs hw hz hk hS => ?_)
          have hw : WC D cA s0 z b q14 H := hw
          refine x_aload_n C dX8_invoiceDays_49 rfl ?_
          refine x_get (.int (q14.1 x2 5)) C fl_X8_153 (C_Cal hpx2 hw) rfl dX8_invoiceDays_50 ?_
          refine x_iload_n C dX8_invoiceDays_53 rfl ?_
          obtain ⟨q16, hq17, hF⟩ := bnd_e hF
          refine x_goR (fun ls h => x_runN (As := [.int (q14.1 x2 5), .int x3]) [] h C ml_X8_100 (k_X11_contains l D cA s0 z hG (q14.1 x2 5) x3 q16 hq17) ⟨rfl, rfl, nb rfl, nb rfl⟩ rfl trivial (nb rfl) ⟨Nat.zero_le _, Nat.zero_le _⟩ dX8_invoiceDays_54) ?_
          refine x_ifB_eq 72 C dX8_invoiceDays_57 (by decide) (fun c18 => ?_) (fun c18 => ?_)
          · have hF := ite_f hF (nbt c18)
            refine x_aload_n C dX8_invoiceDays_72 rfl ?_
            refine x_get (.int (q14.1 x2 6)) C fl_X8_158 (C_Cal hpx2 hw) rfl dX8_invoiceDays_73 ?_
            refine x_iload_n C dX8_invoiceDays_76 rfl ?_
            obtain ⟨q19, hq20, hF⟩ := bnd_e hF
            refine x_goR (fun ls h => x_runN (As := [.int (q14.1 x2 6), .int x3]) [] h C ml_X8_100 (k_X11_contains l D cA s0 z hG (q14.1 x2 6) x3 q19 hq20) ⟨rfl, rfl, nb rfl, nb rfl⟩ rfl trivial (nb rfl) ⟨Nat.zero_le _, Nat.zero_le _⟩ dX8_invoiceDays_77) ?_
            refine x_ifB_eq 92 C dX8_invoiceDays_80 (by decide) (fun c21 => ?_) (fun c21 => ?_)
            · have hF := ite_f hF (nbt c21)
              refine x_iinc (x3 + (1 : Int32)) [(3, .int (x3 + (1 : Int32))), (0, .ref (b + 2627)), (1, .ref (b + a1)), (2, .ref (b + x2))] C dX8_invoiceDays_92 rfl rfl (by decide) rfl ?_
              refine x_goto 24 C dX8_invoiceDays_95 (by decide) ?_
              refine x_sub [(0, .ref (b + 2627)), (1, .ref (b + a1)), (2, .ref (b + x2)), (3, .int (x3 + (1 : Int32)))] [1, 2, 3, 0] rfl ?_
              exact ih24 q14 x2 (x3 + (1 : Int32)) hpx2 _ _ hw hS hF
            · have hF := ite_t hF c21
              refine x_aload_n C dX8_invoiceDays_83 rfl ?_
              refine x_get (.ref (b + 4)) C fl_X8_19 (C_Rep hw) rfl dX8_invoiceDays_84 ?_
              refine x_bipush (45 : Int32) C dX8_invoiceDays_87 rfl ?_
              obtain ⟨q22, hq23, hF⟩ := bnd_e hF
              refine x_goM (fun ls h => x_runV (As := [.int (45 : Int32)]) [] h C ml_X8_39 (k_X1_put l D cA s0 z b q14 _ hG 4 (45 : Int32) q22 hq23) ⟨rfl, rfl, nb rfl, nb rfl⟩ rfl (C_Byt byt4 hw) rfl ⟨rfl, hw⟩ (nb rfl) ⟨Nat.zero_le _, Nat.zero_le _⟩ dX8_invoiceDays_89) hS (xA_le hS) (fun H locs hw hz hk hS => ?_)
              have hw : WC D cA s0 z b q22 H := hw
              refine x_iinc (x3 + (1 : Int32)) [(3, .int (x3 + (1 : Int32))), (0, .ref (b + 2627)), (1, .ref (b + a1)), (2, .ref (b + x2))] C dX8_invoiceDays_92 rfl rfl (by decide) rfl ?_
              refine x_goto 24 C dX8_invoiceDays_95 (by decide) ?_
              refine x_sub [(0, .ref (b + 2627)), (1, .ref (b + a1)), (2, .ref (b + x2)), (3, .int (x3 + (1 : Int32)))] [1, 2, 3, 0] rfl ?_
              exact ih24 q22 x2 (x3 + (1 : Int32)) hpx2 _ _ hw hS hF
          · have hF := ite_t hF c18
            refine x_aload_n C dX8_invoiceDays_60 rfl ?_
            refine x_get (.ref (b + 4)) C fl_X8_19 (C_Rep hw) rfl dX8_invoiceDays_61 ?_
            refine x_bipush (63 : Int32) C dX8_invoiceDays_64 rfl ?_
            obtain ⟨q24, hq25, hF⟩ := bnd_e hF
            refine x_goM (fun ls h => x_runV (As := [.int (63 : Int32)]) [] h C ml_X8_39 (k_X1_put l D cA s0 z b q14 _ hG 4 (63 : Int32) q24 hq25) ⟨rfl, rfl, nb rfl, nb rfl⟩ rfl (C_Byt byt4 hw) rfl ⟨rfl, hw⟩ (nb rfl) ⟨Nat.zero_le _, Nat.zero_le _⟩ dX8_invoiceDays_66) hS (xA_le hS) (fun H locs hw hz hk hS => ?_)
            have hw : WC D cA s0 z b q24 H := hw
            refine x_goto 92 C dX8_invoiceDays_69 (by decide) ?_
            refine x_iinc (x3 + (1 : Int32)) [(3, .int (x3 + (1 : Int32))), (0, .ref (b + 2627)), (1, .ref (b + a1)), (2, .ref (b + x2))] C dX8_invoiceDays_92 rfl rfl (by decide) rfl ?_
            refine x_goto 24 C dX8_invoiceDays_95 (by decide) ?_
            refine x_sub [(0, .ref (b + 2627)), (1, .ref (b + a1)), (2, .ref (b + x2)), (3, .int (x3 + (1 : Int32)))] [1, 2, 3, 0] rfl ?_
            exact ih24 q24 x2 (x3 + (1 : Int32)) hpx2 _ _ hw hS hF
  refine x_aload_n C dX8_invoiceDays_0 rfl ?_
  refine x_get (.ref (b + 7)) C fl_X8_9 (C_Rep hw) rfl dX8_invoiceDays_1 ?_
  refine x_get (.ref (b + (7 + 2))) C fl_X8_144 (C_Led led7 hw) rfl dX8_invoiceDays_4 ?_
  refine x_aload_n C dX8_invoiceDays_7 rfl ?_
  refine x_get (.int (ν.1 a1 1)) C fl_X8_89 (C_Inv hpa1 hw) rfl dX8_invoiceDays_8 ?_
  obtain ⟨h1, hF⟩ := asr_e hF
  obtain ⟨hn2, hl3⟩ := vpn h1 (by decide)
  refine x_aald 4 C (C_calls led7 hw) rfl hn2 hl3 (by decide) rfl dX8_invoiceDays_11 ?_
  refine x_astore_n [(2, .ref (b + (7 + (22 + (cl (ν.1 a1 1)))))), (0, .ref (b + 2627)), (1, .ref (b + a1))] C dX8_invoiceDays_12 rfl (by decide) rfl ?_
  refine x_aload_n C dX8_invoiceDays_13 rfl ?_
  refine x_get (.ref (b + 4)) C fl_X8_19 (C_Rep hw) rfl dX8_invoiceDays_14 ?_
  refine x_ldcS (z := z) 495957664800 C hG.2.2.2 xl_X8_148 hw.2.2.2.1 dX8_invoiceDays_17 (fun ra4 hst5 => ?_)
  obtain ⟨q6, hq7, hF⟩ := bnd_e hF
  refine x_goM (fun ls h => x_runV (As := [.ref ra4]) [] h C ml_X8_83 (k_X1_putText l D cA s0 z b ν _ hG ra4 4 495957664800 q6 hq7) ⟨rfl, rfl, nb rfl, nb rfl⟩ rfl (C_Byt byt4 hw) rfl ⟨rfl, hw, hst5⟩ (nb rfl) ⟨Nat.zero_le _, Nat.zero_le _⟩ dX8_invoiceDays_19) hS (xA_le hS) (fun H locs hw hz hk hS => ?_)
  have hw : WC D cA s0 z b q6 H := hw
  refine x_iconst (0 : Int32) C dX8_invoiceDays_22 rfl ?_
  refine x_istore_n [(3, .int (0 : Int32)), (2, .ref (b + (7 + (22 + (cl (ν.1 a1 1)))))), (0, .ref (b + 2627)), (1, .ref (b + a1))] C dX8_invoiceDays_23 rfl (by decide) rfl ?_
  refine x_sub [(0, .ref (b + 2627)), (1, .ref (b + a1)), (2, .ref (b + (7 + (22 + (cl (ν.1 a1 1)))))), (3, .int (0 : Int32))] [2, 3, 1, 0] rfl ?_
  exact h_L24 10000 q6 (7 + (22 + (cl (ν.1 a1 1)))) (0 : Int32) (mk_Cal led7 hl3) _ _ hw hS hF
noncomputable def g_X8_invoiceLine_J25 (ν : Mm) (a1 : Nat) (a2 : Int32) (μ0 : Mm) : Option (Mm) := bnd (g_X0_rebuiltLine μ0 a1 a2) (fun q11 => bnd (g_X4_stands μ0 a1 a2) (fun q13 => (if q13 = true then asr (vp_in a2 4) ((if q11 = (μ0.1 (a1 + 1) (cl a2)) then bnd (g_X1_put μ0 4 (10 : Int32)) (fun q20 => some q20) else bnd (g_X8_wordAndNumber μ0 139442744864 q11.toInt64) (fun q24 => bnd (g_X1_put q24 4 (10 : Int32)) (fun q26 => some q26)))) else bnd (g_X1_putText μ0 4 1851984991346003960608) (fun q30 => bnd (g_X1_put q30 4 (10 : Int32)) (fun q32 => some q32)))))
noncomputable def g_X8_invoiceLine (ν : Mm) (a1 : Nat) (a2 : Int32) : Option (Mm) := asr (isInv a1) (bnd (g_X8_lineWord ν a2) (fun q1 => asr (vp_in a2 4) (bnd (g_X8_wordAndNumber ν q1 ((ν.1 (a1 + 1) (cl a2)).toInt64)) (fun q8 => (if a2 = (3 : Int32) then bnd (g_X8_invoiceDays q8 a1) (fun q34 => (g_X8_invoiceLine_J25 ν a1 a2 q34)) else (g_X8_invoiceLine_J25 ν a1 a2 q8))))))
set_option maxRecDepth 20000 in
set_option maxHeartbeats 4000000 in
theorem k_X8_invoiceLine (l : Launch) (D : va_G) (cA : Nat → ClassId) (s0 : State) (z : Nat) (b : Nat) (ν : Mm) (sz : Nat) (hG : xG l D cA s0) (a1 : Nat) (a2 : Int32) (r : Mm) (hF : g_X8_invoiceLine ν a1 a2 = some r) : Met l yX8_invoiceLine (wsG yX8_invoiceLine cX8_invoiceLine 4 none) { frames := 7, cells := 0, slots := 0, locals := 153 } (xP D cA s0 [.ref (b + 2627), .ref (b + a1), .int a2] (fun H => H.size = sz ∧ WC D cA s0 z b ν H)) (xQm none (fun H => WC D cA s0 z b r H) (xA b 2628 sz)) 0 0 (xA b 2628 sz) := by
  refine x_start (own := RX8) [(0, .ref (b + 2627)), (1, .ref (b + a1)), (2, .int a2)] rfl rfl (by decide) (nb rfl) ?_
  intro p e s m args below meth c C hw
  obtain ⟨hsz, hw⟩ := hw
  subst hsz
  have hS : va_S (xA b 2628 s.heap.size) s.heap s.heap [] := va_S.rf
  obtain ⟨hpa1, hF⟩ := asr_e hF
  have h_J25 : ∀ (μ0 : Mm) (H : Heap) (locs : List Loc) (hw : WC D cA s0 z b μ0 H) (hS : va_S (xA b 2628 s.heap.size) s.heap H locs), g_X8_invoiceLine_J25 ν a1 a2 μ0 = some r → xW p l e { frames := 7, cells := 0, slots := 0, locals := 153 } s m args below meth c 4 (MQ below (xQm none (fun H => WC D cA s0 z b r H) (xA b 2628 s.heap.size)) args s 0 0 (xA b 2628 s.heap.size)) H locs 0 0 25 [(0, .ref (b + 2627)), (1, .ref (b + a1)), (2, .int a2)] [] := by
    intro μ0 H locs hw hS hF
    refine x_aload_n C dX8_invoiceLine_25 rfl ?_
    refine x_get (.ref (b + 2626)) C fl_X8_15 (C_Rep hw) rfl dX8_invoiceLine_26 ?_
    refine x_aload_n C dX8_invoiceLine_29 rfl ?_
    refine x_iload_n C dX8_invoiceLine_30 rfl ?_
    obtain ⟨q11, hq12, hF⟩ := bnd_e hF
    refine x_goR (fun ls h => x_runV (As := [.ref (b + a1), .int a2]) [] h C ml_X8_124 (k_X0_rebuiltLine l D cA s0 z b μ0 hG a1 a2 q11 hq12) ⟨rfl, rfl, nb rfl, nb rfl⟩ rfl (C_Acc hw) rfl hw (nb rfl) ⟨Nat.zero_le _, Nat.zero_le _⟩ dX8_invoiceLine_31) ?_
    refine x_istore_n [(3, .int q11), (0, .ref (b + 2627)), (1, .ref (b + a1)), (2, .int a2)] C dX8_invoiceLine_34 rfl (by decide) rfl ?_
    refine x_aload_n C dX8_invoiceLine_35 rfl ?_
    refine x_iload_n C dX8_invoiceLine_36 rfl ?_
    obtain ⟨q13, hq14, hF⟩ := bnd_e hF
    refine x_goR (fun ls h => x_runV (As := [.int a2]) [] h C ml_X8_128 (k_X4_stands l D cA s0 z b μ0 hG a1 a2 q13 hq14) ⟨rfl, rfl, nb rfl, nb rfl⟩ rfl (C_Inv hpa1 hw) rfl hw (nb rfl) ⟨Nat.zero_le _, Nat.zero_le _⟩ dX8_invoiceLine_37) ?_
    refine x_ifB_ne 55 C dX8_invoiceLine_40 (by decide) (fun c15 => ?_) (fun c15 => ?_)
    · have hF := ite_t hF c15
      refine x_iload_n C dX8_invoiceLine_55 rfl ?_
      refine x_aload_n C dX8_invoiceLine_56 rfl ?_
      refine x_get (.ref (b + (a1 + 1))) C fl_X8_116 (C_Inv hpa1 hw) rfl dX8_invoiceLine_57 ?_
      refine x_iload_n C dX8_invoiceLine_60 rfl ?_
      obtain ⟨h16, hF⟩ := asr_e hF
      obtain ⟨hn17, hl18⟩ := vpn h16 (by decide)
      refine x_ialdN C (C_amounts hpa1 hw) hn17 hl18 (by decide) dX8_invoiceLine_61 ?_
      refine x_icmp_eq 73 C dX8_invoiceLine_62 (by decide) (fun c19 => ?_) (fun c19 => ?_)
      · have hF := ite_t hF c19
        refine x_aload_n C dX8_invoiceLine_73 rfl ?_
        refine x_get (.ref (b + 4)) C fl_X8_19 (C_Rep hw) rfl dX8_invoiceLine_74 ?_
        refine x_bipush (10 : Int32) C dX8_invoiceLine_77 rfl ?_
        obtain ⟨q20, hq21, hF⟩ := bnd_e hF
        refine x_goM (fun ls h => x_runV (As := [.int (10 : Int32)]) [] h C ml_X8_39 (k_X1_put l D cA s0 z b μ0 _ hG 4 (10 : Int32) q20 hq21) ⟨rfl, rfl, nb rfl, nb rfl⟩ rfl (C_Byt byt4 hw) rfl ⟨rfl, hw⟩ (nb rfl) ⟨Nat.zero_le _, Nat.zero_le _⟩ dX8_invoiceLine_79) hS (xA_le hS) (fun H locs hw hz hk hS => ?_)
        have hw : WC D cA s0 z b q20 H := hw
        exact x_vretM2 C rfl dX8_invoiceLine_82 rfl (rv_m (W := fun m => WC D cA s0 z b m _) hF hw) hS (nb rfl) (nb rfl)
      · have hF := ite_f hF c19
        refine x_aload_n C dX8_invoiceLine_65 rfl ?_
        refine x_ldcS (z := z) 139442744864 C hG.2.2.2 xl_X8_134 hw.2.2.2.1 dX8_invoiceLine_66 (fun ra22 hst23 => ?_)
        refine x_iload_n C dX8_invoiceLine_68 rfl ?_
        refine x_i2l C dX8_invoiceLine_69 ?_
        obtain ⟨q24, hq25, hF⟩ := bnd_e hF
        refine x_goM (fun ls h => x_runV (As := [.ref ra22, .long q11.toInt64]) [] h C ml_X8_68 (k_X8_wordAndNumber l D cA s0 z b μ0 _ hG ra22 139442744864 q11.toInt64 q24 hq25) ⟨rfl, rfl, nb rfl, nb rfl⟩ rfl (C_Rep hw) rfl ⟨rfl, hw, hst23⟩ (nb rfl) ⟨Nat.zero_le _, Nat.zero_le _⟩ dX8_invoiceLine_70) hS (xA_le hS) (fun H locs hw hz hk hS => ?_)
        have hw : WC D cA s0 z b q24 H := hw
        refine x_aload_n C dX8_invoiceLine_73 rfl ?_
        refine x_get (.ref (b + 4)) C fl_X8_19 (C_Rep hw) rfl dX8_invoiceLine_74 ?_
        refine x_bipush (10 : Int32) C dX8_invoiceLine_77 rfl ?_
        obtain ⟨q26, hq27, hF⟩ := bnd_e hF
        refine x_goM (fun ls h => x_runV (As := [.int (10 : Int32)]) [] h C ml_X8_39 (k_X1_put l D cA s0 z b q24 _ hG 4 (10 : Int32) q26 hq27) ⟨rfl, rfl, nb rfl, nb rfl⟩ rfl (C_Byt byt4 hw) rfl ⟨rfl, hw⟩ (nb rfl) ⟨Nat.zero_le _, Nat.zero_le _⟩ dX8_invoiceLine_79) hS (xA_le hS) (fun H locs hw hz hk hS => ?_)
        have hw : WC D cA s0 z b q26 H := hw
        exact x_vretM2 C rfl dX8_invoiceLine_82 rfl (rv_m (W := fun m => WC D cA s0 z b m _) hF hw) hS (nb rfl) (nb rfl)
    · have hF := ite_f hF (nbt c15)
      refine x_aload_n C dX8_invoiceLine_43 rfl ?_
      refine x_get (.ref (b + 4)) C fl_X8_19 (C_Rep hw) rfl dX8_invoiceLine_44 ?_
      refine x_ldcS (z := z) 1851984991346003960608 C hG.2.2.2 xl_X8_132 hw.2.2.2.1 dX8_invoiceLine_47 (fun ra28 hst29 => ?_)
      obtain ⟨q30, hq31, hF⟩ := bnd_e hF
      refine x_goM (fun ls h => x_runV (As := [.ref ra28]) [] h C ml_X8_83 (k_X1_putText l D cA s0 z b μ0 _ hG ra28 4 1851984991346003960608 q30 hq31) ⟨rfl, rfl, nb rfl, nb rfl⟩ rfl (C_Byt byt4 hw) rfl ⟨rfl, hw, hst29⟩ (nb rfl) ⟨Nat.zero_le _, Nat.zero_le _⟩ dX8_invoiceLine_49) hS (xA_le hS) (fun H locs hw hz hk hS => ?_)
      have hw : WC D cA s0 z b q30 H := hw
      refine x_goto 73 C dX8_invoiceLine_52 (by decide) ?_
      refine x_aload_n C dX8_invoiceLine_73 rfl ?_
      refine x_get (.ref (b + 4)) C fl_X8_19 (C_Rep hw) rfl dX8_invoiceLine_74 ?_
      refine x_bipush (10 : Int32) C dX8_invoiceLine_77 rfl ?_
      obtain ⟨q32, hq33, hF⟩ := bnd_e hF
      refine x_goM (fun ls h => x_runV (As := [.int (10 : Int32)]) [] h C ml_X8_39 (k_X1_put l D cA s0 z b q30 _ hG 4 (10 : Int32) q32 hq33) ⟨rfl, rfl, nb rfl, nb rfl⟩ rfl (C_Byt byt4 hw) rfl ⟨rfl, hw⟩ (nb rfl) ⟨Nat.zero_le _, Nat.zero_le _⟩ dX8_invoiceLine_79) hS (xA_le hS) (fun H locs hw hz hk hS => ?_)
      have hw : WC D cA s0 z b q32 H := hw
      exact x_vretM2 C rfl dX8_invoiceLine_82 rfl (rv_m (W := fun m => WC D cA s0 z b m _) hF hw) hS (nb rfl) (nb rfl)
  refine x_aload_n C dX8_invoiceLine_0 rfl ?_
  refine x_iload_n C dX8_invoiceLine_1 rfl ?_
  obtain ⟨q1, hq2, hF⟩ := bnd_e hF
  refine x_goRS (fun ls h => x_runS (As := [.int a2]) [.ref (b + 2627)] h C ml_X8_112 (k_X8_lineWord l D cA s0 z b ν hG a2 q1 hq2) ⟨rfl, rfl, nb rfl, nb rfl⟩ rfl hw (nb rfl) ⟨Nat.zero_le _, Nat.zero_le _⟩ dX8_invoiceLine_2) (fun ra3 hst4 => ?_)
  refine x_aload_n C dX8_invoiceLine_5 rfl ?_
  refine x_get (.ref (b + (a1 + 1))) C fl_X8_116 (C_Inv hpa1 hw) rfl dX8_invoiceLine_6 ?_
  refine x_iload_n C dX8_invoiceLine_9 rfl ?_
  obtain ⟨h5, hF⟩ := asr_e hF
  obtain ⟨hn6, hl7⟩ := vpn h5 (by decide)
  refine x_ialdN C (C_amounts hpa1 hw) hn6 hl7 (by decide) dX8_invoiceLine_10 ?_
  refine x_i2l C dX8_invoiceLine_11 ?_
  obtain ⟨q8, hq9, hF⟩ := bnd_e hF
  refine x_goM (fun ls h => x_runV (As := [.ref ra3, .long ((ν.1 (a1 + 1) (cl a2)).toInt64)]) [] h C ml_X8_68 (k_X8_wordAndNumber l D cA s0 z b ν _ hG ra3 q1 ((ν.1 (a1 + 1) (cl a2)).toInt64) q8 hq9) ⟨rfl, rfl, nb rfl, nb rfl⟩ rfl (C_Rep hw) rfl ⟨rfl, hw, hst4⟩ (nb rfl) ⟨Nat.zero_le _, Nat.zero_le _⟩ dX8_invoiceLine_12) hS (xA_le hS) (fun H locs hw hz hk hS => ?_)
  have hw : WC D cA s0 z b q8 H := hw
  refine x_iload_n C dX8_invoiceLine_15 rfl ?_
  refine x_iconst (3 : Int32) C dX8_invoiceLine_16 rfl ?_
  refine x_icmp_ne 25 C dX8_invoiceLine_17 (by decide) (fun c10 => ?_) (fun c10 => ?_)
  · have hF := ite_f hF c10
    exact h_J25 q8 _ _ hw hS hF
  · have hF := ite_t hF c10
    refine x_aload_n C dX8_invoiceLine_20 rfl ?_
    refine x_aload_n C dX8_invoiceLine_21 rfl ?_
    obtain ⟨q34, hq35, hF⟩ := bnd_e hF
    refine x_goM (fun ls h => x_runV (As := [.ref (b + a1)]) [] h C ml_X8_120 (k_X8_invoiceDays l D cA s0 z b q8 _ hG a1 q34 hq35) ⟨rfl, rfl, nb rfl, nb rfl⟩ rfl (C_Rep hw) rfl ⟨rfl, hw⟩ (nb rfl) ⟨Nat.zero_le _, Nat.zero_le _⟩ dX8_invoiceLine_22) hS (xA_le hS) (fun H locs hw hz hk hS => ?_)
    have hw : WC D cA s0 z b q34 H := hw
    exact h_J25 q34 _ _ hw hS hF
noncomputable def g_X8_invoiceSheet_L88 (ν : Mm) (a1 : Int32) : Nat → Mm → Nat → Int32 → Option (Mm)
  | 0, _, _, _ => none
  | n + 1, μ0, x2, x3 => (if (4 : Int32) ≤ x3 then bnd (g_X4_netAmount μ0 x2) (fun q34 => bnd (g_X8_wordAndNumber μ0 544499054 q34.toInt64) (fun q36 => bnd (g_X0_openAmount q36 a1) (fun q40 => bnd (g_X8_wordAndNumber q36 35658520358688 q40.toInt64) (fun q42 => bnd (g_X1_put q42 4 (10 : Int32)) (fun q44 => some q44))))) else bnd (g_X11_contains (μ0.1 x2 4) x3) (fun q46 => (if q46 = true then bnd (g_X8_invoiceLine μ0 x2 x3) (fun q49 => (g_X8_invoiceSheet_L88 ν a1 n q49 x2 (x3 + (1 : Int32)))) else (g_X8_invoiceSheet_L88 ν a1 n μ0 x2 (x3 + (1 : Int32))))))
noncomputable def g_X8_invoiceSheet (ν : Mm) (a1 : Int32) : Option (Mm) := asr (vp_in a1 60) (bnd (some (uI ν 4 2 (0 : Int32))) (fun μ4 => bnd (g_X8_wordAndNumber μ4 2334381286354218601 a1.toInt64) (fun q8 => bnd (g_X1_putText q8 4 35667176878880) (fun q12 => bnd (g_X0_shipOf q12 a1) (fun q14 => asr (vp_in q14 8) (bnd (g_X8_shipName q12 (7 + (6 + 2 * (cl q14)))) (fun q19 => bnd (g_X8_wordAndNumber q19 35650046878496 ((q19.1 (7 + (62 + 2 * (cl a1))) 1).toInt64)) (fun q23 => bnd (g_X8_wordAndNumber q23 35620116325408 ((q23.1 (7 + (62 + 2 * (cl a1))) 2).toInt64)) (fun q27 => bnd (g_X1_put q27 4 (10 : Int32)) (fun q29 => (g_X8_invoiceSheet_L88 ν a1 10000 q29 (7 + (62 + 2 * (cl a1))) (0 : Int32))))))))))))
set_option maxRecDepth 20000 in
set_option maxHeartbeats 4000000 in
theorem k_X8_invoiceSheet (l : Launch) (D : va_G) (cA : Nat → ClassId) (s0 : State) (z : Nat) (b : Nat) (ν : Mm) (sz : Nat) (hG : xG l D cA s0) (a1 : Int32) (r : Mm) (hF : g_X8_invoiceSheet ν a1 = some r) : Met l yX8_invoiceSheet (wsG yX8_invoiceSheet cX8_invoiceSheet 4 none) { frames := 8, cells := 0, slots := 0, locals := 176 } (xP D cA s0 [.ref (b + 2627), .int a1] (fun H => H.size = sz ∧ WC D cA s0 z b ν H)) (xQm none (fun H => WC D cA s0 z b r H) (xA b 2628 sz)) 0 0 (xA b 2628 sz) := by
  refine x_start (own := RX8) [(0, .ref (b + 2627)), (1, .int a1)] rfl rfl (by decide) (nb rfl) ?_
  intro p e s m args below meth c C hw
  obtain ⟨hsz, hw⟩ := hw
  subst hsz
  have hS : va_S (xA b 2628 s.heap.size) s.heap s.heap [] := va_S.rf
  have h_L88 : ∀ (n : Nat) (μ0 : Mm) (x2 : Nat) (x3 : Int32) (hpx2 : isInv x2) (H : Heap) (locs : List Loc) (hw : WC D cA s0 z b μ0 H) (hS : va_S (xA b 2628 s.heap.size) s.heap H locs), g_X8_invoiceSheet_L88 ν a1 n μ0 x2 x3 = some r → xW p l e { frames := 8, cells := 0, slots := 0, locals := 176 } s m args below meth c 4 (MQ below (xQm none (fun H => WC D cA s0 z b r H) (xA b 2628 s.heap.size)) args s 0 0 (xA b 2628 s.heap.size)) H locs 0 0 88 [(0, .ref (b + 2627)), (1, .int a1), (2, .ref (b + x2)), (3, .int x3)] [] := by
    intro n
    induction n with
    | zero =>
      intro μ0 x2 x3 hpx2 H locs hw hS hF
      exact no_some hF
    | succ n ih =>
      intro μ0 x2 x3 hpx2 H locs hw hS hF
      have ih88 := ih
      refine x_iload_n C dX8_invoiceSheet_88 rfl ?_
      refine x_iconst (4 : Int32) C dX8_invoiceSheet_89 rfl ?_
      refine x_icmp_ge 116 C dX8_invoiceSheet_90 (by decide) (fun c31 => ?_) (fun c31 => ?_)
      · have hF := ite_t hF c31
        refine x_aload_n C dX8_invoiceSheet_116 rfl ?_
        refine x_ldcS (z := z) 544499054 C hG.2.2.2 xl_X8_108 hw.2.2.2.1 dX8_invoiceSheet_117 (fun ra32 hst33 => ?_)
        refine x_aload_n C dX8_invoiceSheet_119 rfl ?_
        obtain ⟨q34, hq35, hF⟩ := bnd_e hF
        refine x_goR (fun ls h => x_runV (As := []) [.ref ra32, .ref (b + 2627)] h C ml_X8_62 (k_X4_netAmount l D cA s0 z b μ0 hG x2 q34 hq35) ⟨rfl, rfl, nb rfl, nb rfl⟩ rfl (C_Inv hpx2 hw) rfl hw (nb rfl) ⟨Nat.zero_le _, Nat.zero_le _⟩ dX8_invoiceSheet_120) ?_
        refine x_i2l C dX8_invoiceSheet_123 ?_
        obtain ⟨q36, hq37, hF⟩ := bnd_e hF
        refine x_goM (fun ls h => x_runV (As := [.ref ra32, .long q34.toInt64]) [] h C ml_X8_68 (k_X8_wordAndNumber l D cA s0 z b μ0 _ hG ra32 544499054 q34.toInt64 q36 hq37) ⟨rfl, rfl, nb rfl, nb rfl⟩ rfl (C_Rep hw) rfl ⟨rfl, hw, hst33⟩ (nb rfl) ⟨Nat.zero_le _, Nat.zero_le _⟩ dX8_invoiceSheet_124) hS (xA_le hS) (fun H locs hw hz hk hS => ?_)
        have hw : WC D cA s0 z b q36 H := hw
        refine x_aload_n C dX8_invoiceSheet_127 rfl ?_
        refine x_ldcS (z := z) 35658520358688 C hG.2.2.2 xl_X8_110 hw.2.2.2.1 dX8_invoiceSheet_128 (fun ra38 hst39 => ?_)
        refine x_aload_n C dX8_invoiceSheet_130 rfl ?_
        refine x_get (.ref (b + 2626)) C fl_X8_15 (C_Rep hw) rfl dX8_invoiceSheet_131 ?_
        refine x_iload_n C dX8_invoiceSheet_134 rfl ?_
        obtain ⟨q40, hq41, hF⟩ := bnd_e hF
        refine x_goR (fun ls h => x_runV (As := [.int a1]) [.ref ra38, .ref (b + 2627)] h C ml_X8_72 (k_X0_openAmount l D cA s0 z b q36 hG a1 q40 hq41) ⟨rfl, rfl, nb rfl, nb rfl⟩ rfl (C_Acc hw) rfl hw (nb rfl) ⟨Nat.zero_le _, Nat.zero_le _⟩ dX8_invoiceSheet_135) ?_
        refine x_i2l C dX8_invoiceSheet_138 ?_
        obtain ⟨q42, hq43, hF⟩ := bnd_e hF
        refine x_goM (fun ls h => x_runV (As := [.ref ra38, .long q40.toInt64]) [] h C ml_X8_68 (k_X8_wordAndNumber l D cA s0 z b q36 _ hG ra38 35658520358688 q40.toInt64 q42 hq43) ⟨rfl, rfl, nb rfl, nb rfl⟩ rfl (C_Rep hw) rfl ⟨rfl, hw, hst39⟩ (nb rfl) ⟨Nat.zero_le _, Nat.zero_le _⟩ dX8_invoiceSheet_139) hS (xA_le hS) (fun H locs hw hz hk hS => ?_)
        have hw : WC D cA s0 z b q42 H := hw
        refine x_aload_n C dX8_invoiceSheet_142 rfl ?_
        refine x_get (.ref (b + 4)) C fl_X8_19 (C_Rep hw) rfl dX8_invoiceSheet_143 ?_
        refine x_bipush (10 : Int32) C dX8_invoiceSheet_146 rfl ?_
        obtain ⟨q44, hq45, hF⟩ := bnd_e hF
        refine x_goM (fun ls h => x_runV (As := [.int (10 : Int32)]) [] h C ml_X8_39 (k_X1_put l D cA s0 z b q42 _ hG 4 (10 : Int32) q44 hq45) ⟨rfl, rfl, nb rfl, nb rfl⟩ rfl (C_Byt byt4 hw) rfl ⟨rfl, hw⟩ (nb rfl) ⟨Nat.zero_le _, Nat.zero_le _⟩ dX8_invoiceSheet_148) hS (xA_le hS) (fun H locs hw hz hk hS => ?_)
        have hw : WC D cA s0 z b q44 H := hw
        exact x_vretM2 C rfl dX8_invoiceSheet_151 rfl (rv_m (W := fun m => WC D cA s0 z b m _) hF hw) hS (nb rfl) (nb rfl)
      · have hF := ite_f hF c31
        refine x_aload_n C dX8_invoiceSheet_93 rfl ?_
        refine x_get (.int (μ0.1 x2 4)) C fl_X8_97 (C_Inv hpx2 hw) rfl dX8_invoiceSheet_94 ?_
        refine x_iload_n C dX8_invoiceSheet_97 rfl ?_
        obtain ⟨q46, hq47, hF⟩ := bnd_e hF
        refine x_goR (fun ls h => x_runN (As := [.int (μ0.1 x2 4), .int x3]) [] h C ml_X8_100 (k_X11_contains l D cA s0 z hG (μ0.1 x2 4) x3 q46 hq47) ⟨rfl, rfl, nb rfl, nb rfl⟩ rfl trivial (nb rfl) ⟨Nat.zero_le _, Nat.zero_le _⟩ dX8_invoiceSheet_98) ?_
        refine x_ifB_eq 110 C dX8_invoiceSheet_101 (by decide) (fun c48 => ?_) (fun c48 => ?_)
        · have hF := ite_f hF (nbt c48)
          refine x_iinc (x3 + (1 : Int32)) [(3, .int (x3 + (1 : Int32))), (0, .ref (b + 2627)), (1, .int a1), (2, .ref (b + x2))] C dX8_invoiceSheet_110 rfl rfl (by decide) rfl ?_
          refine x_goto 88 C dX8_invoiceSheet_113 (by decide) ?_
          refine x_sub [(0, .ref (b + 2627)), (1, .int a1), (2, .ref (b + x2)), (3, .int (x3 + (1 : Int32)))] [1, 2, 3, 0] rfl ?_
          exact ih88 μ0 x2 (x3 + (1 : Int32)) hpx2 _ _ hw hS hF
        · have hF := ite_t hF c48
          refine x_aload_n C dX8_invoiceSheet_104 rfl ?_
          refine x_aload_n C dX8_invoiceSheet_105 rfl ?_
          refine x_iload_n C dX8_invoiceSheet_106 rfl ?_
          obtain ⟨q49, hq50, hF⟩ := bnd_e hF
          refine x_goM (fun ls h => x_runV (As := [.ref (b + x2), .int x3]) [] h C ml_X8_104 (k_X8_invoiceLine l D cA s0 z b μ0 _ hG x2 x3 q49 hq50) ⟨rfl, rfl, nb rfl, nb rfl⟩ rfl (C_Rep hw) rfl ⟨rfl, hw⟩ (nb rfl) ⟨Nat.zero_le _, Nat.zero_le _⟩ dX8_invoiceSheet_107) hS (xA_le hS) (fun H locs hw hz hk hS => ?_)
          have hw : WC D cA s0 z b q49 H := hw
          refine x_iinc (x3 + (1 : Int32)) [(3, .int (x3 + (1 : Int32))), (0, .ref (b + 2627)), (1, .int a1), (2, .ref (b + x2))] C dX8_invoiceSheet_110 rfl rfl (by decide) rfl ?_
          refine x_goto 88 C dX8_invoiceSheet_113 (by decide) ?_
          refine x_sub [(0, .ref (b + 2627)), (1, .int a1), (2, .ref (b + x2)), (3, .int (x3 + (1 : Int32)))] [1, 2, 3, 0] rfl ?_
          exact ih88 q49 x2 (x3 + (1 : Int32)) hpx2 _ _ hw hS hF
  refine x_aload_n C dX8_invoiceSheet_0 rfl ?_
  refine x_get (.ref (b + 7)) C fl_X8_9 (C_Rep hw) rfl dX8_invoiceSheet_1 ?_
  refine x_get (.ref (b + (7 + 3))) C fl_X8_58 (C_Led led7 hw) rfl dX8_invoiceSheet_4 ?_
  refine x_iload_n C dX8_invoiceSheet_7 rfl ?_
  obtain ⟨h1, hF⟩ := asr_e hF
  obtain ⟨hn2, hl3⟩ := vpn h1 (by decide)
  refine x_aald 5 C (C_invoices led7 hw) rfl hn2 hl3 (by decide) rfl dX8_invoiceSheet_8 ?_
  refine x_astore_n [(2, .ref (b + (7 + (62 + 2 * (cl a1))))), (0, .ref (b + 2627)), (1, .int a1)] C dX8_invoiceSheet_9 rfl (by decide) rfl ?_
  refine x_aload_n C dX8_invoiceSheet_10 rfl ?_
  refine x_get (.ref (b + 4)) C fl_X8_19 (C_Rep hw) rfl dX8_invoiceSheet_11 ?_
  refine x_iconst (0 : Int32) C dX8_invoiceSheet_14 rfl ?_
  refine y_putI (kk0 := 2) 4 C fl_X8_23 hw (l3 (lt_Byt byt4)) (fun nm => S_Byt byt4) (fun nm => S_Byt byt4) rfl rfl (fun _ => nb rfl) dX8_invoiceSheet_15 hS (xA_in (l3 (lt_Byt byt4))) (fun H locs hw hS => ?_)
  obtain ⟨μ4, hm5, hF⟩ := bnd_e hF
  have hw : WC D cA s0 z b μ4 H := rv_m (W := fun m => WC D cA s0 z b m _) hm5 hw
  refine x_aload_n C dX8_invoiceSheet_18 rfl ?_
  refine x_ldcS (z := z) 2334381286354218601 C hG.2.2.2 xl_X8_79 hw.2.2.2.1 dX8_invoiceSheet_19 (fun ra6 hst7 => ?_)
  refine x_iload_n C dX8_invoiceSheet_21 rfl ?_
  refine x_i2l C dX8_invoiceSheet_22 ?_
  obtain ⟨q8, hq9, hF⟩ := bnd_e hF
  refine x_goM (fun ls h => x_runV (As := [.ref ra6, .long a1.toInt64]) [] h C ml_X8_68 (k_X8_wordAndNumber l D cA s0 z b μ4 _ hG ra6 2334381286354218601 a1.toInt64 q8 hq9) ⟨rfl, rfl, nb rfl, nb rfl⟩ rfl (C_Rep hw) rfl ⟨rfl, hw, hst7⟩ (nb rfl) ⟨Nat.zero_le _, Nat.zero_le _⟩ dX8_invoiceSheet_23) hS (xA_le hS) (fun H locs hw hz hk hS => ?_)
  have hw : WC D cA s0 z b q8 H := hw
  refine x_aload_n C dX8_invoiceSheet_26 rfl ?_
  refine x_get (.ref (b + 4)) C fl_X8_19 (C_Rep hw) rfl dX8_invoiceSheet_27 ?_
  refine x_ldcS (z := z) 35667176878880 C hG.2.2.2 xl_X8_81 hw.2.2.2.1 dX8_invoiceSheet_30 (fun ra10 hst11 => ?_)
  obtain ⟨q12, hq13, hF⟩ := bnd_e hF
  refine x_goM (fun ls h => x_runV (As := [.ref ra10]) [] h C ml_X8_83 (k_X1_putText l D cA s0 z b q8 _ hG ra10 4 35667176878880 q12 hq13) ⟨rfl, rfl, nb rfl, nb rfl⟩ rfl (C_Byt byt4 hw) rfl ⟨rfl, hw, hst11⟩ (nb rfl) ⟨Nat.zero_le _, Nat.zero_le _⟩ dX8_invoiceSheet_32) hS (xA_le hS) (fun H locs hw hz hk hS => ?_)
  have hw : WC D cA s0 z b q12 H := hw
  refine x_aload_n C dX8_invoiceSheet_35 rfl ?_
  refine x_aload_n C dX8_invoiceSheet_36 rfl ?_
  refine x_get (.ref (b + 7)) C fl_X8_9 (C_Rep hw) rfl dX8_invoiceSheet_37 ?_
  refine x_get (.ref (b + (7 + 1))) C fl_X8_29 (C_Led led7 hw) rfl dX8_invoiceSheet_40 ?_
  refine x_aload_n C dX8_invoiceSheet_43 rfl ?_
  refine x_get (.ref (b + 2626)) C fl_X8_15 (C_Rep hw) rfl dX8_invoiceSheet_44 ?_
  refine x_iload_n C dX8_invoiceSheet_47 rfl ?_
  obtain ⟨q14, hq15, hF⟩ := bnd_e hF
  refine x_goR (fun ls h => x_runV (As := [.int a1]) [.ref (b + (7 + 1)), .ref (b + 2627)] h C ml_X8_46 (k_X0_shipOf l D cA s0 z b q12 hG a1 q14 hq15) ⟨rfl, rfl, nb rfl, nb rfl⟩ rfl (C_Acc hw) rfl hw (nb rfl) ⟨Nat.zero_le _, Nat.zero_le _⟩ dX8_invoiceSheet_48) ?_
  obtain ⟨h16, hF⟩ := asr_e hF
  obtain ⟨hn17, hl18⟩ := vpn h16 (by decide)
  refine x_aald 3 C (C_ships led7 hw) rfl hn17 hl18 (by decide) rfl dX8_invoiceSheet_51 ?_
  obtain ⟨q19, hq20, hF⟩ := bnd_e hF
  refine x_goM (fun ls h => x_runV (As := [.ref (b + (7 + (6 + 2 * (cl q14))))]) [] h C ml_X8_35 (k_X8_shipName l D cA s0 z b q12 _ hG (7 + (6 + 2 * (cl q14))) q19 hq20) ⟨rfl, rfl, nb rfl, nb rfl⟩ rfl (C_Rep hw) rfl ⟨rfl, hw⟩ (nb rfl) ⟨Nat.zero_le _, Nat.zero_le _⟩ dX8_invoiceSheet_52) hS (xA_le hS) (fun H locs hw hz hk hS => ?_)
  have hw : WC D cA s0 z b q19 H := hw
  refine x_aload_n C dX8_invoiceSheet_55 rfl ?_
  refine x_ldcS (z := z) 35650046878496 C hG.2.2.2 xl_X8_87 hw.2.2.2.1 dX8_invoiceSheet_56 (fun ra21 hst22 => ?_)
  refine x_aload_n C dX8_invoiceSheet_58 rfl ?_
  refine x_get (.int (q19.1 (7 + (62 + 2 * (cl a1))) 1)) C fl_X8_89 (C_Inv (mk_Inv led7 hl3) hw) rfl dX8_invoiceSheet_59 ?_
  refine x_i2l C dX8_invoiceSheet_62 ?_
  obtain ⟨q23, hq24, hF⟩ := bnd_e hF
  refine x_goM (fun ls h => x_runV (As := [.ref ra21, .long ((q19.1 (7 + (62 + 2 * (cl a1))) 1).toInt64)]) [] h C ml_X8_68 (k_X8_wordAndNumber l D cA s0 z b q19 _ hG ra21 35650046878496 ((q19.1 (7 + (62 + 2 * (cl a1))) 1).toInt64) q23 hq24) ⟨rfl, rfl, nb rfl, nb rfl⟩ rfl (C_Rep hw) rfl ⟨rfl, hw, hst22⟩ (nb rfl) ⟨Nat.zero_le _, Nat.zero_le _⟩ dX8_invoiceSheet_63) hS (xA_le hS) (fun H locs hw hz hk hS => ?_)
  have hw : WC D cA s0 z b q23 H := hw
  refine x_aload_n C dX8_invoiceSheet_66 rfl ?_
  refine x_ldcS (z := z) 35620116325408 C hG.2.2.2 xl_X8_92 hw.2.2.2.1 dX8_invoiceSheet_67 (fun ra25 hst26 => ?_)
  refine x_aload_n C dX8_invoiceSheet_69 rfl ?_
  refine x_get (.int (q23.1 (7 + (62 + 2 * (cl a1))) 2)) C fl_X8_94 (C_Inv (mk_Inv led7 hl3) hw) rfl dX8_invoiceSheet_70 ?_
  refine x_i2l C dX8_invoiceSheet_73 ?_
  obtain ⟨q27, hq28, hF⟩ := bnd_e hF
  refine x_goM (fun ls h => x_runV (As := [.ref ra25, .long ((q23.1 (7 + (62 + 2 * (cl a1))) 2).toInt64)]) [] h C ml_X8_68 (k_X8_wordAndNumber l D cA s0 z b q23 _ hG ra25 35620116325408 ((q23.1 (7 + (62 + 2 * (cl a1))) 2).toInt64) q27 hq28) ⟨rfl, rfl, nb rfl, nb rfl⟩ rfl (C_Rep hw) rfl ⟨rfl, hw, hst26⟩ (nb rfl) ⟨Nat.zero_le _, Nat.zero_le _⟩ dX8_invoiceSheet_74) hS (xA_le hS) (fun H locs hw hz hk hS => ?_)
  have hw : WC D cA s0 z b q27 H := hw
  refine x_aload_n C dX8_invoiceSheet_77 rfl ?_
  refine x_get (.ref (b + 4)) C fl_X8_19 (C_Rep hw) rfl dX8_invoiceSheet_78 ?_
  refine x_bipush (10 : Int32) C dX8_invoiceSheet_81 rfl ?_
  obtain ⟨q29, hq30, hF⟩ := bnd_e hF
  refine x_goM (fun ls h => x_runV (As := [.int (10 : Int32)]) [] h C ml_X8_39 (k_X1_put l D cA s0 z b q27 _ hG 4 (10 : Int32) q29 hq30) ⟨rfl, rfl, nb rfl, nb rfl⟩ rfl (C_Byt byt4 hw) rfl ⟨rfl, hw⟩ (nb rfl) ⟨Nat.zero_le _, Nat.zero_le _⟩ dX8_invoiceSheet_83) hS (xA_le hS) (fun H locs hw hz hk hS => ?_)
  have hw : WC D cA s0 z b q29 H := hw
  refine x_iconst (0 : Int32) C dX8_invoiceSheet_86 rfl ?_
  refine x_istore_n [(3, .int (0 : Int32)), (2, .ref (b + (7 + (62 + 2 * (cl a1))))), (0, .ref (b + 2627)), (1, .int a1)] C dX8_invoiceSheet_87 rfl (by decide) rfl ?_
  refine x_sub [(0, .ref (b + 2627)), (1, .int a1), (2, .ref (b + (7 + (62 + 2 * (cl a1))))), (3, .int (0 : Int32))] [2, 3, 1, 0] rfl ?_
  exact h_L88 10000 q29 (7 + (62 + 2 * (cl a1))) (0 : Int32) (mk_Inv led7 hl3) _ _ hw hS hF
noncomputable def g_X8_endTariffLine (ν : Mm) (a1 : Bool) : Option (Mm) := (if a1 = true then bnd (g_X1_putText ν 4 191701742837314380576) (fun q8 => some q8) else bnd (g_X1_putText ν 4 10) (fun q4 => some q4))
set_option maxRecDepth 20000 in
set_option maxHeartbeats 4000000 in
theorem k_X8_endTariffLine (l : Launch) (D : va_G) (cA : Nat → ClassId) (s0 : State) (z : Nat) (b : Nat) (ν : Mm) (sz : Nat) (hG : xG l D cA s0) (a1 : Bool) (r : Mm) (hF : g_X8_endTariffLine ν a1 = some r) : Met l yX8_endTariffLine (wsG yX8_endTariffLine cX8_endTariffLine 2 none) { frames := 5, cells := 0, slots := 0, locals := 107 } (xP D cA s0 [.ref (b + 2627), .int (bI a1)] (fun H => H.size = sz ∧ WC D cA s0 z b ν H)) (xQm none (fun H => WC D cA s0 z b r H) (xA b 2628 sz)) 0 0 (xA b 2628 sz) := by
  refine x_start (own := RX8) [(0, .ref (b + 2627)), (1, .int (bI a1))] rfl rfl (by decide) (nb rfl) ?_
  intro p e s m args below meth c C hw
  obtain ⟨hsz, hw⟩ := hw
  subst hsz
  have hS : va_S (xA b 2628 s.heap.size) s.heap s.heap [] := va_S.rf
  refine x_aload_n C dX8_endTariffLine_0 rfl ?_
  refine x_get (.ref (b + 4)) C fl_X8_19 (C_Rep hw) rfl dX8_endTariffLine_1 ?_
  refine x_iload_n C dX8_endTariffLine_4 rfl ?_
  refine x_ifB_eq 13 C dX8_endTariffLine_5 (by decide) (fun c1 => ?_) (fun c1 => ?_)
  · have hF := ite_f hF (nbt c1)
    refine x_ldcS (z := z) 10 C hG.2.2.2 xl_X8_236 hw.2.2.2.1 dX8_endTariffLine_13 (fun ra2 hst3 => ?_)
    obtain ⟨q4, hq5, hF⟩ := bnd_e hF
    refine x_goM (fun ls h => x_runV (As := [.ref ra2]) [] h C ml_X8_83 (k_X1_putText l D cA s0 z b ν _ hG ra2 4 10 q4 hq5) ⟨rfl, rfl, nb rfl, nb rfl⟩ rfl (C_Byt byt4 hw) rfl ⟨rfl, hw, hst3⟩ (nb rfl) ⟨Nat.zero_le _, Nat.zero_le _⟩ dX8_endTariffLine_15) hS (xA_le hS) (fun H locs hw hz hk hS => ?_)
    have hw : WC D cA s0 z b q4 H := hw
    exact x_vretM2 C rfl dX8_endTariffLine_18 rfl (rv_m (W := fun m => WC D cA s0 z b m _) hF hw) hS (nb rfl) (nb rfl)
  · have hF := ite_t hF c1
    refine x_ldcS (z := z) 191701742837314380576 C hG.2.2.2 xl_X8_234 hw.2.2.2.1 dX8_endTariffLine_8 (fun ra6 hst7 => ?_)
    refine x_goto 15 C dX8_endTariffLine_10 (by decide) ?_
    obtain ⟨q8, hq9, hF⟩ := bnd_e hF
    refine x_goM (fun ls h => x_runV (As := [.ref ra6]) [] h C ml_X8_83 (k_X1_putText l D cA s0 z b ν _ hG ra6 4 191701742837314380576 q8 hq9) ⟨rfl, rfl, nb rfl, nb rfl⟩ rfl (C_Byt byt4 hw) rfl ⟨rfl, hw, hst7⟩ (nb rfl) ⟨Nat.zero_le _, Nat.zero_le _⟩ dX8_endTariffLine_15) hS (xA_le hS) (fun H locs hw hz hk hS => ?_)
    have hw : WC D cA s0 z b q8 H := hw
    exact x_vretM2 C rfl dX8_endTariffLine_18 rfl (rv_m (W := fun m => WC D cA s0 z b m _) hF hw) hS (nb rfl) (nb rfl)
noncomputable def g_X8_tariffSheet_L138 (ν : Mm) (a1 : Int32) : Nat → Mm → Nat → Nat → Int32 → Option (Mm)
  | 0, _, _, _, _ => none
  | n + 1, μ0, x2, x3, x4 => (if (μ0.1 x2 5) ≤ x4 then bnd (g_X8_wordAndNumber μ0 10024892076463357237700813175 ((μ0.1 x2 7).toInt64)) (fun q22 => bnd (g_X8_wordAndNumber q22 35619865781792 ((q22.1 x2 8).toInt64)) (fun q26 => bnd (g_X8_wordAndNumber q26 9118676900016160 ((q26.1 x2 9).toInt64)) (fun q30 => bnd (g_X8_endTariffLine q30 false) (fun q32 => bnd (g_X8_wordAndNumber q32 597602182112141205868 ((q32.1 x2 10).toInt64)) (fun q36 => bnd (g_X8_wordAndNumber q36 35620116328992 ((q36.1 x2 11).toInt64)) (fun q40 => (if (q40.1 x2 10) = (q40.1 x3 10) then (if (q40.1 x2 11) = (q40.1 x3 11) then bnd (g_X8_endTariffLine q40 false) (fun q46 => some q46) else bnd (g_X8_endTariffLine q40 true) (fun q48 => some q48)) else bnd (g_X8_endTariffLine q40 true) (fun q43 => some q43)))))))) else asr (vp_in x4 4) (bnd (g_X8_wordAndNumber μ0 9118749779191154 ((μ0.1 (x2 + 3) (cl x4)).toInt64)) (fun q55 => bnd (g_X8_wordAndNumber q55 598685564992338882592 ((q55.1 (x2 + 4) (cl x4)).toInt64)) (fun q59 => (if (q59.1 (x2 + 4) (cl x4)) = (q59.1 (x3 + 4) (cl x4)) then bnd (g_X8_endTariffLine q59 false) (fun q62 => (g_X8_tariffSheet_L138 ν a1 n q62 x2 x3 (x4 + (1 : Int32)))) else bnd (g_X8_endTariffLine q59 true) (fun q64 => (g_X8_tariffSheet_L138 ν a1 n q64 x2 x3 (x4 + (1 : Int32)))))))))
noncomputable def g_X8_tariffSheet_L66 (ν : Mm) (a1 : Int32) : Nat → Mm → Nat → Nat → Int32 → Option (Mm)
  | 0, _, _, _, _ => none
  | n + 1, μ0, x2, x3, x4 => (if (μ0.1 x2 4) ≤ x4 then (g_X8_tariffSheet_L138 ν a1 10000 μ0 x2 x3 (0 : Int32)) else asr (vp_in x4 6) (bnd (g_X8_wordAndNumber μ0 139123908962 ((μ0.1 (x2 + 1) (cl x4)).toInt64)) (fun q71 => bnd (g_X8_wordAndNumber q71 35620116328992 ((q71.1 (x2 + 2) (cl x4)).toInt64)) (fun q75 => (if (q75.1 (x2 + 2) (cl x4)) = (q75.1 (x3 + 2) (cl x4)) then bnd (g_X8_endTariffLine q75 false) (fun q78 => (g_X8_tariffSheet_L66 ν a1 n q78 x2 x3 (x4 + (1 : Int32)))) else bnd (g_X8_endTariffLine q75 true) (fun q80 => (g_X8_tariffSheet_L66 ν a1 n q80 x2 x3 (x4 + (1 : Int32)))))))))
noncomputable def g_X8_tariffSheet (ν : Mm) (a1 : Int32) : Option (Mm) := asr (vp_in a1 21) (asr (vp_in (imax (a1 - (1 : Int32)) (0 : Int32)) 21) (bnd (some (uI ν 4 2 (0 : Int32))) (fun μ7 => bnd (g_X8_wordAndNumber μ7 2336927755350992246 a1.toInt64) (fun q11 => (if (q11.1 (7 + (222 + 5 * (cl a1))) 6) = 0 then bnd (g_X1_putText q11 4 753057040345887498) (fun q16 => (g_X8_tariffSheet_L66 ν a1 10000 q16 (7 + (222 + 5 * (cl a1))) (7 + (222 + 5 * (cl (imax (a1 - (1 : Int32)) (0 : Int32))))) (0 : Int32))) else bnd (g_X1_putText q11 4 11417657570058) (fun q84 => (g_X8_tariffSheet_L66 ν a1 10000 q84 (7 + (222 + 5 * (cl a1))) (7 + (222 + 5 * (cl (imax (a1 - (1 : Int32)) (0 : Int32))))) (0 : Int32))))))))
set_option maxRecDepth 20000 in
set_option maxHeartbeats 4000000 in
theorem k_X8_tariffSheet (l : Launch) (D : va_G) (cA : Nat → ClassId) (s0 : State) (z : Nat) (b : Nat) (ν : Mm) (sz : Nat) (hG : xG l D cA s0) (a1 : Int32) (r : Mm) (hF : g_X8_tariffSheet ν a1 = some r) : Met l yX8_tariffSheet (wsG yX8_tariffSheet cX8_tariffSheet 5 none) { frames := 6, cells := 0, slots := 0, locals := 130 } (xP D cA s0 [.ref (b + 2627), .int a1] (fun H => H.size = sz ∧ WC D cA s0 z b ν H)) (xQm none (fun H => WC D cA s0 z b r H) (xA b 2628 sz)) 0 0 (xA b 2628 sz) := by
  refine x_start (own := RX8) [(0, .ref (b + 2627)), (1, .int a1)] rfl rfl (by decide) (nb rfl) ?_
  intro p e s m args below meth c C hw
  obtain ⟨hsz, hw⟩ := hw
  subst hsz
  have hS : va_S (xA b 2628 s.heap.size) s.heap s.heap [] := va_S.rf
  have h_L138 : ∀ (n : Nat) (μ0 : Mm) (x2 : Nat) (x3 : Nat) (x4 : Int32) (hpx2 : isTar x2) (hpx3 : isTar x3) (H : Heap) (locs : List Loc) (hw : WC D cA s0 z b μ0 H) (hS : va_S (xA b 2628 s.heap.size) s.heap H locs), g_X8_tariffSheet_L138 ν a1 n μ0 x2 x3 x4 = some r → xW p l e { frames := 6, cells := 0, slots := 0, locals := 130 } s m args below meth c 5 (MQ below (xQm none (fun H => WC D cA s0 z b r H) (xA b 2628 s.heap.size)) args s 0 0 (xA b 2628 s.heap.size)) H locs 0 0 138 [(0, .ref (b + 2627)), (2, .ref (b + x2)), (3, .ref (b + x3)), (4, .int x4)] [] := by
    intro n
    induction n with
    | zero =>
      intro μ0 x2 x3 x4 hpx2 hpx3 H locs hw hS hF
      exact no_some hF
    | succ n ih =>
      intro μ0 x2 x3 x4 hpx2 hpx3 H locs hw hS hF
      have ih138 := ih
      refine x_iload C dX8_tariffSheet_138 rfl ?_
      refine x_aload_n C dX8_tariffSheet_140 rfl ?_
      refine x_get (.int (μ0.1 x2 5)) C fl_X8_200 (C_Tar hpx2 hw) rfl dX8_tariffSheet_141 ?_
      refine x_icmp_ge 207 C dX8_tariffSheet_144 (by decide) (fun c19 => ?_) (fun c19 => ?_)
      · have hF := ite_t hF c19
        refine x_aload_n C dX8_tariffSheet_207 rfl ?_
        refine x_ldcS (z := z) 10024892076463357237700813175 C hG.2.2.2 xl_X8_211 hw.2.2.2.1 dX8_tariffSheet_208 (fun ra20 hst21 => ?_)
        refine x_aload_n C dX8_tariffSheet_210 rfl ?_
        refine x_get (.int (μ0.1 x2 7)) C fl_X8_213 (C_Tar hpx2 hw) rfl dX8_tariffSheet_211 ?_
        refine x_i2l C dX8_tariffSheet_214 ?_
        obtain ⟨q22, hq23, hF⟩ := bnd_e hF
        refine x_goM (fun ls h => x_runV (As := [.ref ra20, .long ((μ0.1 x2 7).toInt64)]) [] h C ml_X8_68 (k_X8_wordAndNumber l D cA s0 z b μ0 _ hG ra20 10024892076463357237700813175 ((μ0.1 x2 7).toInt64) q22 hq23) ⟨rfl, rfl, nb rfl, nb rfl⟩ rfl (C_Rep hw) rfl ⟨rfl, hw, hst21⟩ (nb rfl) ⟨Nat.zero_le _, Nat.zero_le _⟩ dX8_tariffSheet_215) hS (xA_le hS) (fun H locs hw hz hk hS => ?_)
        have hw : WC D cA s0 z b q22 H := hw
        refine x_aload_n C dX8_tariffSheet_218 rfl ?_
        refine x_ldcS (z := z) 35619865781792 C hG.2.2.2 xl_X8_216 hw.2.2.2.1 dX8_tariffSheet_219 (fun ra24 hst25 => ?_)
        refine x_aload_n C dX8_tariffSheet_221 rfl ?_
        refine x_get (.int (q22.1 x2 8)) C fl_X8_218 (C_Tar hpx2 hw) rfl dX8_tariffSheet_222 ?_
        refine x_i2l C dX8_tariffSheet_225 ?_
        obtain ⟨q26, hq27, hF⟩ := bnd_e hF
        refine x_goM (fun ls h => x_runV (As := [.ref ra24, .long ((q22.1 x2 8).toInt64)]) [] h C ml_X8_68 (k_X8_wordAndNumber l D cA s0 z b q22 _ hG ra24 35619865781792 ((q22.1 x2 8).toInt64) q26 hq27) ⟨rfl, rfl, nb rfl, nb rfl⟩ rfl (C_Rep hw) rfl ⟨rfl, hw, hst25⟩ (nb rfl) ⟨Nat.zero_le _, Nat.zero_le _⟩ dX8_tariffSheet_226) hS (xA_le hS) (fun H locs hw hz hk hS => ?_)
        have hw : WC D cA s0 z b q26 H := hw
        refine x_aload_n C dX8_tariffSheet_229 rfl ?_
        refine x_ldcS (z := z) 9118676900016160 C hG.2.2.2 xl_X8_221 hw.2.2.2.1 dX8_tariffSheet_230 (fun ra28 hst29 => ?_)
        refine x_aload_n C dX8_tariffSheet_232 rfl ?_
        refine x_get (.int (q26.1 x2 9)) C fl_X8_223 (C_Tar hpx2 hw) rfl dX8_tariffSheet_233 ?_
        refine x_i2l C dX8_tariffSheet_236 ?_
        obtain ⟨q30, hq31, hF⟩ := bnd_e hF
        refine x_goM (fun ls h => x_runV (As := [.ref ra28, .long ((q26.1 x2 9).toInt64)]) [] h C ml_X8_68 (k_X8_wordAndNumber l D cA s0 z b q26 _ hG ra28 9118676900016160 ((q26.1 x2 9).toInt64) q30 hq31) ⟨rfl, rfl, nb rfl, nb rfl⟩ rfl (C_Rep hw) rfl ⟨rfl, hw, hst29⟩ (nb rfl) ⟨Nat.zero_le _, Nat.zero_le _⟩ dX8_tariffSheet_237) hS (xA_le hS) (fun H locs hw hz hk hS => ?_)
        have hw : WC D cA s0 z b q30 H := hw
        refine x_aload_n C dX8_tariffSheet_240 rfl ?_
        refine x_iconst (0 : Int32) C dX8_tariffSheet_241 rfl ?_
        obtain ⟨q32, hq33, hF⟩ := bnd_e hF
        refine x_goM (fun ls h => x_runV (As := [.int (bI false)]) [] h C ml_X8_196 (k_X8_endTariffLine l D cA s0 z b q30 _ hG false q32 hq33) ⟨rfl, rfl, nb rfl, nb rfl⟩ rfl (C_Rep hw) rfl ⟨rfl, hw⟩ (nb rfl) ⟨Nat.zero_le _, Nat.zero_le _⟩ dX8_tariffSheet_242) hS (xA_le hS) (fun H locs hw hz hk hS => ?_)
        have hw : WC D cA s0 z b q32 H := hw
        refine x_aload_n C dX8_tariffSheet_245 rfl ?_
        refine x_ldcS (z := z) 597602182112141205868 C hG.2.2.2 xl_X8_226 hw.2.2.2.1 dX8_tariffSheet_246 (fun ra34 hst35 => ?_)
        refine x_aload_n C dX8_tariffSheet_248 rfl ?_
        refine x_get (.int (q32.1 x2 10)) C fl_X8_228 (C_Tar hpx2 hw) rfl dX8_tariffSheet_249 ?_
        refine x_i2l C dX8_tariffSheet_252 ?_
        obtain ⟨q36, hq37, hF⟩ := bnd_e hF
        refine x_goM (fun ls h => x_runV (As := [.ref ra34, .long ((q32.1 x2 10).toInt64)]) [] h C ml_X8_68 (k_X8_wordAndNumber l D cA s0 z b q32 _ hG ra34 597602182112141205868 ((q32.1 x2 10).toInt64) q36 hq37) ⟨rfl, rfl, nb rfl, nb rfl⟩ rfl (C_Rep hw) rfl ⟨rfl, hw, hst35⟩ (nb rfl) ⟨Nat.zero_le _, Nat.zero_le _⟩ dX8_tariffSheet_253) hS (xA_le hS) (fun H locs hw hz hk hS => ?_)
        have hw : WC D cA s0 z b q36 H := hw
        refine x_aload_n C dX8_tariffSheet_256 rfl ?_
        refine x_ldcS (z := z) 35620116328992 C hG.2.2.2 xl_X8_191 hw.2.2.2.1 dX8_tariffSheet_257 (fun ra38 hst39 => ?_)
        refine x_aload_n C dX8_tariffSheet_259 rfl ?_
        refine x_get (.int (q36.1 x2 11)) C fl_X8_231 (C_Tar hpx2 hw) rfl dX8_tariffSheet_260 ?_
        refine x_i2l C dX8_tariffSheet_263 ?_
        obtain ⟨q40, hq41, hF⟩ := bnd_e hF
        refine x_goM (fun ls h => x_runV (As := [.ref ra38, .long ((q36.1 x2 11).toInt64)]) [] h C ml_X8_68 (k_X8_wordAndNumber l D cA s0 z b q36 _ hG ra38 35620116328992 ((q36.1 x2 11).toInt64) q40 hq41) ⟨rfl, rfl, nb rfl, nb rfl⟩ rfl (C_Rep hw) rfl ⟨rfl, hw, hst39⟩ (nb rfl) ⟨Nat.zero_le _, Nat.zero_le _⟩ dX8_tariffSheet_264) hS (xA_le hS) (fun H locs hw hz hk hS => ?_)
        have hw : WC D cA s0 z b q40 H := hw
        refine x_aload_n C dX8_tariffSheet_267 rfl ?_
        refine x_aload_n C dX8_tariffSheet_268 rfl ?_
        refine x_get (.int (q40.1 x2 10)) C fl_X8_228 (C_Tar hpx2 hw) rfl dX8_tariffSheet_269 ?_
        refine x_aload_n C dX8_tariffSheet_272 rfl ?_
        refine x_get (.int (q40.1 x3 10)) C fl_X8_228 (C_Tar hpx3 hw) rfl dX8_tariffSheet_273 ?_
        refine x_icmp_ne 290 C dX8_tariffSheet_276 (by decide) (fun c42 => ?_) (fun c42 => ?_)
        · have hF := ite_f hF c42
          refine x_iconst (1 : Int32) C dX8_tariffSheet_290 rfl ?_
          refine x_goto 295 C dX8_tariffSheet_291 (by decide) ?_
          obtain ⟨q43, hq44, hF⟩ := bnd_e hF
          refine x_goM (fun ls h => x_runV (As := [.int (bI true)]) [] h C ml_X8_196 (k_X8_endTariffLine l D cA s0 z b q40 _ hG true q43 hq44) ⟨rfl, rfl, nb rfl, nb rfl⟩ rfl (C_Rep hw) rfl ⟨rfl, hw⟩ (nb rfl) ⟨Nat.zero_le _, Nat.zero_le _⟩ dX8_tariffSheet_295) hS (xA_le hS) (fun H locs hw hz hk hS => ?_)
          have hw : WC D cA s0 z b q43 H := hw
          exact x_vretM2 C rfl dX8_tariffSheet_298 rfl (rv_m (W := fun m => WC D cA s0 z b m _) hF hw) hS (nb rfl) (nb rfl)
        · have hF := ite_t hF c42
          refine x_aload_n C dX8_tariffSheet_279 rfl ?_
          refine x_get (.int (q40.1 x2 11)) C fl_X8_231 (C_Tar hpx2 hw) rfl dX8_tariffSheet_280 ?_
          refine x_aload_n C dX8_tariffSheet_283 rfl ?_
          refine x_get (.int (q40.1 x3 11)) C fl_X8_231 (C_Tar hpx3 hw) rfl dX8_tariffSheet_284 ?_
          refine x_icmp_eq 294 C dX8_tariffSheet_287 (by decide) (fun c45 => ?_) (fun c45 => ?_)
          · have hF := ite_t hF c45
            refine x_iconst (0 : Int32) C dX8_tariffSheet_294 rfl ?_
            obtain ⟨q46, hq47, hF⟩ := bnd_e hF
            refine x_goM (fun ls h => x_runV (As := [.int (bI false)]) [] h C ml_X8_196 (k_X8_endTariffLine l D cA s0 z b q40 _ hG false q46 hq47) ⟨rfl, rfl, nb rfl, nb rfl⟩ rfl (C_Rep hw) rfl ⟨rfl, hw⟩ (nb rfl) ⟨Nat.zero_le _, Nat.zero_le _⟩ dX8_tariffSheet_295) hS (xA_le hS) (fun H locs hw hz hk hS => ?_)
            have hw : WC D cA s0 z b q46 H := hw
            exact x_vretM2 C rfl dX8_tariffSheet_298 rfl (rv_m (W := fun m => WC D cA s0 z b m _) hF hw) hS (nb rfl) (nb rfl)
          · have hF := ite_f hF c45
            refine x_iconst (1 : Int32) C dX8_tariffSheet_290 rfl ?_
            refine x_goto 295 C dX8_tariffSheet_291 (by decide) ?_
            obtain ⟨q48, hq49, hF⟩ := bnd_e hF
            refine x_goM (fun ls h => x_runV (As := [.int (bI true)]) [] h C ml_X8_196 (k_X8_endTariffLine l D cA s0 z b q40 _ hG true q48 hq49) ⟨rfl, rfl, nb rfl, nb rfl⟩ rfl (C_Rep hw) rfl ⟨rfl, hw⟩ (nb rfl) ⟨Nat.zero_le _, Nat.zero_le _⟩ dX8_tariffSheet_295) hS (xA_le hS) (fun H locs hw hz hk hS => ?_)
            have hw : WC D cA s0 z b q48 H := hw
            exact x_vretM2 C rfl dX8_tariffSheet_298 rfl (rv_m (W := fun m => WC D cA s0 z b m _) hF hw) hS (nb rfl) (nb rfl)
      · have hF := ite_f hF c19
        refine x_aload_n C dX8_tariffSheet_147 rfl ?_
        refine x_ldcS (z := z) 9118749779191154 C hG.2.2.2 xl_X8_138 hw.2.2.2.1 dX8_tariffSheet_148 (fun ra50 hst51 => ?_)
        refine x_aload_n C dX8_tariffSheet_150 rfl ?_
        refine x_get (.ref (b + (x2 + 3))) C fl_X8_203 (C_Tar hpx2 hw) rfl dX8_tariffSheet_151 ?_
        refine x_iload C dX8_tariffSheet_154 rfl ?_
        obtain ⟨h52, hF⟩ := asr_e hF
        obtain ⟨hn53, hl54⟩ := vpn h52 (by decide)
        refine x_ialdN C (C_rebateFrom hpx2 hw) hn53 hl54 (by decide) dX8_tariffSheet_156 ?_
        refine x_i2l C dX8_tariffSheet_157 ?_
        obtain ⟨q55, hq56, hF⟩ := bnd_e hF
        refine x_goM (fun ls h => x_runV (As := [.ref ra50, .long ((μ0.1 (x2 + 3) (cl x4)).toInt64)]) [] h C ml_X8_68 (k_X8_wordAndNumber l D cA s0 z b μ0 _ hG ra50 9118749779191154 ((μ0.1 (x2 + 3) (cl x4)).toInt64) q55 hq56) ⟨rfl, rfl, nb rfl, nb rfl⟩ rfl (C_Rep hw) rfl ⟨rfl, hw, hst51⟩ (nb rfl) ⟨Nat.zero_le _, Nat.zero_le _⟩ dX8_tariffSheet_158) hS (xA_le hS) (fun H locs hw hz hk hS => ?_)
        have hw : WC D cA s0 z b q55 H := hw
        refine x_aload_n C dX8_tariffSheet_161 rfl ?_
        refine x_ldcS (z := z) 598685564992338882592 C hG.2.2.2 xl_X8_206 hw.2.2.2.1 dX8_tariffSheet_162 (fun ra57 hst58 => ?_)
        refine x_aload_n C dX8_tariffSheet_164 rfl ?_
        refine x_get (.ref (b + (x2 + 4))) C fl_X8_208 (C_Tar hpx2 hw) rfl dX8_tariffSheet_165 ?_
        refine x_iload C dX8_tariffSheet_168 rfl ?_
        refine x_ialdN C (C_rebatePercent hpx2 hw) hn53 hl54 (by decide) dX8_tariffSheet_170 ?_
        refine x_i2l C dX8_tariffSheet_171 ?_
        obtain ⟨q59, hq60, hF⟩ := bnd_e hF
        refine x_goM (fun ls h => x_runV (As := [.ref ra57, .long ((q55.1 (x2 + 4) (cl x4)).toInt64)]) [] h C ml_X8_68 (k_X8_wordAndNumber l D cA s0 z b q55 _ hG ra57 598685564992338882592 ((q55.1 (x2 + 4) (cl x4)).toInt64) q59 hq60) ⟨rfl, rfl, nb rfl, nb rfl⟩ rfl (C_Rep hw) rfl ⟨rfl, hw, hst58⟩ (nb rfl) ⟨Nat.zero_le _, Nat.zero_le _⟩ dX8_tariffSheet_172) hS (xA_le hS) (fun H locs hw hz hk hS => ?_)
        have hw : WC D cA s0 z b q59 H := hw
        refine x_aload_n C dX8_tariffSheet_175 rfl ?_
        refine x_aload_n C dX8_tariffSheet_176 rfl ?_
        refine x_get (.ref (b + (x2 + 4))) C fl_X8_208 (C_Tar hpx2 hw) rfl dX8_tariffSheet_177 ?_
        refine x_iload C dX8_tariffSheet_180 rfl ?_
        refine x_ialdN C (C_rebatePercent hpx2 hw) hn53 hl54 (by decide) dX8_tariffSheet_182 ?_
        refine x_aload_n C dX8_tariffSheet_183 rfl ?_
        refine x_get (.ref (b + (x3 + 4))) C fl_X8_208 (C_Tar hpx3 hw) rfl dX8_tariffSheet_184 ?_
        refine x_iload C dX8_tariffSheet_187 rfl ?_
        refine x_ialdN C (C_rebatePercent hpx3 hw) hn53 hl54 (by decide) dX8_tariffSheet_189 ?_
        refine x_icmp_eq 197 C dX8_tariffSheet_190 (by decide) (fun c61 => ?_) (fun c61 => ?_)
        · have hF := ite_t hF c61
          refine x_iconst (0 : Int32) C dX8_tariffSheet_197 rfl ?_
          obtain ⟨q62, hq63, hF⟩ := bnd_e hF
          refine x_goM (fun ls h => x_runV (As := [.int (bI false)]) [] h C ml_X8_196 (k_X8_endTariffLine l D cA s0 z b q59 _ hG false q62 hq63) ⟨rfl, rfl, nb rfl, nb rfl⟩ rfl (C_Rep hw) rfl ⟨rfl, hw⟩ (nb rfl) ⟨Nat.zero_le _, Nat.zero_le _⟩ dX8_tariffSheet_198) hS (xA_le hS) (fun H locs hw hz hk hS => ?_)
          have hw : WC D cA s0 z b q62 H := hw
          refine x_iinc (x4 + (1 : Int32)) [(4, .int (x4 + (1 : Int32))), (0, .ref (b + 2627)), (2, .ref (b + x2)), (3, .ref (b + x3))] C dX8_tariffSheet_201 rfl rfl (by decide) rfl ?_
          refine x_goto 138 C dX8_tariffSheet_204 (by decide) ?_
          refine x_sub [(0, .ref (b + 2627)), (2, .ref (b + x2)), (3, .ref (b + x3)), (4, .int (x4 + (1 : Int32)))] [1, 2, 3, 0] rfl ?_
          exact ih138 q62 x2 x3 (x4 + (1 : Int32)) hpx2 hpx3 _ _ hw hS hF
        · have hF := ite_f hF c61
          refine x_iconst (1 : Int32) C dX8_tariffSheet_193 rfl ?_
          refine x_goto 198 C dX8_tariffSheet_194 (by decide) ?_
          obtain ⟨q64, hq65, hF⟩ := bnd_e hF
          refine x_goM (fun ls h => x_runV (As := [.int (bI true)]) [] h C ml_X8_196 (k_X8_endTariffLine l D cA s0 z b q59 _ hG true q64 hq65) ⟨rfl, rfl, nb rfl, nb rfl⟩ rfl (C_Rep hw) rfl ⟨rfl, hw⟩ (nb rfl) ⟨Nat.zero_le _, Nat.zero_le _⟩ dX8_tariffSheet_198) hS (xA_le hS) (fun H locs hw hz hk hS => ?_)
          have hw : WC D cA s0 z b q64 H := hw
          refine x_iinc (x4 + (1 : Int32)) [(4, .int (x4 + (1 : Int32))), (0, .ref (b + 2627)), (2, .ref (b + x2)), (3, .ref (b + x3))] C dX8_tariffSheet_201 rfl rfl (by decide) rfl ?_
          refine x_goto 138 C dX8_tariffSheet_204 (by decide) ?_
          refine x_sub [(0, .ref (b + 2627)), (2, .ref (b + x2)), (3, .ref (b + x3)), (4, .int (x4 + (1 : Int32)))] [1, 2, 3, 0] rfl ?_
          exact ih138 q64 x2 x3 (x4 + (1 : Int32)) hpx2 hpx3 _ _ hw hS hF
  have h_L66 : ∀ (n : Nat) (μ0 : Mm) (x2 : Nat) (x3 : Nat) (x4 : Int32) (hpx2 : isTar x2) (hpx3 : isTar x3) (H : Heap) (locs : List Loc) (hw : WC D cA s0 z b μ0 H) (hS : va_S (xA b 2628 s.heap.size) s.heap H locs), g_X8_tariffSheet_L66 ν a1 n μ0 x2 x3 x4 = some r → xW p l e { frames := 6, cells := 0, slots := 0, locals := 130 } s m args below meth c 5 (MQ below (xQm none (fun H => WC D cA s0 z b r H) (xA b 2628 s.heap.size)) args s 0 0 (xA b 2628 s.heap.size)) H locs 0 0 66 [(0, .ref (b + 2627)), (2, .ref (b + x2)), (3, .ref (b + x3)), (4, .int x4)] [] := by
    intro n
    induction n with
    | zero =>
      intro μ0 x2 x3 x4 hpx2 hpx3 H locs hw hS hF
      exact no_some hF
    | succ n ih =>
      intro μ0 x2 x3 x4 hpx2 hpx3 H locs hw hS hF
      have ih66 := ih
      refine x_iload C dX8_tariffSheet_66 rfl ?_
      refine x_aload_n C dX8_tariffSheet_68 rfl ?_
      refine x_get (.int (μ0.1 x2 4)) C fl_X8_183 (C_Tar hpx2 hw) rfl dX8_tariffSheet_69 ?_
      refine x_icmp_ge 135 C dX8_tariffSheet_72 (by decide) (fun c18 => ?_) (fun c18 => ?_)
      · have hF := ite_t hF c18
        refine x_iconst (0 : Int32) C dX8_tariffSheet_135 rfl ?_
        refine x_istore [(4, .int (0 : Int32)), (0, .ref (b + 2627)), (2, .ref (b + x2)), (3, .ref (b + x3))] C dX8_tariffSheet_136 (by decide) rfl ?_
        refine x_sub [(0, .ref (b + 2627)), (2, .ref (b + x2)), (3, .ref (b + x3)), (4, .int (0 : Int32))] [1, 2, 3, 0] rfl ?_
        exact h_L138 10000 μ0 x2 x3 (0 : Int32) hpx2 hpx3 _ _ hw hS hF
      · have hF := ite_f hF c18
        refine x_aload_n C dX8_tariffSheet_75 rfl ?_
        refine x_ldcS (z := z) 139123908962 C hG.2.2.2 xl_X8_186 hw.2.2.2.1 dX8_tariffSheet_76 (fun ra66 hst67 => ?_)
        refine x_aload_n C dX8_tariffSheet_78 rfl ?_
        refine x_get (.ref (b + (x2 + 1))) C fl_X8_188 (C_Tar hpx2 hw) rfl dX8_tariffSheet_79 ?_
        refine x_iload C dX8_tariffSheet_82 rfl ?_
        obtain ⟨h68, hF⟩ := asr_e hF
        obtain ⟨hn69, hl70⟩ := vpn h68 (by decide)
        refine x_ialdN C (C_bandFrom hpx2 hw) hn69 hl70 (by decide) dX8_tariffSheet_84 ?_
        refine x_i2l C dX8_tariffSheet_85 ?_
        obtain ⟨q71, hq72, hF⟩ := bnd_e hF
        refine x_goM (fun ls h => x_runV (As := [.ref ra66, .long ((μ0.1 (x2 + 1) (cl x4)).toInt64)]) [] h C ml_X8_68 (k_X8_wordAndNumber l D cA s0 z b μ0 _ hG ra66 139123908962 ((μ0.1 (x2 + 1) (cl x4)).toInt64) q71 hq72) ⟨rfl, rfl, nb rfl, nb rfl⟩ rfl (C_Rep hw) rfl ⟨rfl, hw, hst67⟩ (nb rfl) ⟨Nat.zero_le _, Nat.zero_le _⟩ dX8_tariffSheet_86) hS (xA_le hS) (fun H locs hw hz hk hS => ?_)
        have hw : WC D cA s0 z b q71 H := hw
        refine x_aload_n C dX8_tariffSheet_89 rfl ?_
        refine x_ldcS (z := z) 35620116328992 C hG.2.2.2 xl_X8_191 hw.2.2.2.1 dX8_tariffSheet_90 (fun ra73 hst74 => ?_)
        refine x_aload_n C dX8_tariffSheet_92 rfl ?_
        refine x_get (.ref (b + (x2 + 2))) C fl_X8_193 (C_Tar hpx2 hw) rfl dX8_tariffSheet_93 ?_
        refine x_iload C dX8_tariffSheet_96 rfl ?_
        refine x_ialdN C (C_bandRate hpx2 hw) hn69 hl70 (by decide) dX8_tariffSheet_98 ?_
        refine x_i2l C dX8_tariffSheet_99 ?_
        obtain ⟨q75, hq76, hF⟩ := bnd_e hF
        refine x_goM (fun ls h => x_runV (As := [.ref ra73, .long ((q71.1 (x2 + 2) (cl x4)).toInt64)]) [] h C ml_X8_68 (k_X8_wordAndNumber l D cA s0 z b q71 _ hG ra73 35620116328992 ((q71.1 (x2 + 2) (cl x4)).toInt64) q75 hq76) ⟨rfl, rfl, nb rfl, nb rfl⟩ rfl (C_Rep hw) rfl ⟨rfl, hw, hst74⟩ (nb rfl) ⟨Nat.zero_le _, Nat.zero_le _⟩ dX8_tariffSheet_100) hS (xA_le hS) (fun H locs hw hz hk hS => ?_)
        have hw : WC D cA s0 z b q75 H := hw
        refine x_aload_n C dX8_tariffSheet_103 rfl ?_
        refine x_aload_n C dX8_tariffSheet_104 rfl ?_
        refine x_get (.ref (b + (x2 + 2))) C fl_X8_193 (C_Tar hpx2 hw) rfl dX8_tariffSheet_105 ?_
        refine x_iload C dX8_tariffSheet_108 rfl ?_
        refine x_ialdN C (C_bandRate hpx2 hw) hn69 hl70 (by decide) dX8_tariffSheet_110 ?_
        refine x_aload_n C dX8_tariffSheet_111 rfl ?_
        refine x_get (.ref (b + (x3 + 2))) C fl_X8_193 (C_Tar hpx3 hw) rfl dX8_tariffSheet_112 ?_
        refine x_iload C dX8_tariffSheet_115 rfl ?_
        refine x_ialdN C (C_bandRate hpx3 hw) hn69 hl70 (by decide) dX8_tariffSheet_117 ?_
        refine x_icmp_eq 125 C dX8_tariffSheet_118 (by decide) (fun c77 => ?_) (fun c77 => ?_)
        · have hF := ite_t hF c77
          refine x_iconst (0 : Int32) C dX8_tariffSheet_125 rfl ?_
          obtain ⟨q78, hq79, hF⟩ := bnd_e hF
          refine x_goM (fun ls h => x_runV (As := [.int (bI false)]) [] h C ml_X8_196 (k_X8_endTariffLine l D cA s0 z b q75 _ hG false q78 hq79) ⟨rfl, rfl, nb rfl, nb rfl⟩ rfl (C_Rep hw) rfl ⟨rfl, hw⟩ (nb rfl) ⟨Nat.zero_le _, Nat.zero_le _⟩ dX8_tariffSheet_126) hS (xA_le hS) (fun H locs hw hz hk hS => ?_)
          have hw : WC D cA s0 z b q78 H := hw
          refine x_iinc (x4 + (1 : Int32)) [(4, .int (x4 + (1 : Int32))), (0, .ref (b + 2627)), (2, .ref (b + x2)), (3, .ref (b + x3))] C dX8_tariffSheet_129 rfl rfl (by decide) rfl ?_
          refine x_goto 66 C dX8_tariffSheet_132 (by decide) ?_
          refine x_sub [(0, .ref (b + 2627)), (2, .ref (b + x2)), (3, .ref (b + x3)), (4, .int (x4 + (1 : Int32)))] [1, 2, 3, 0] rfl ?_
          exact ih66 q78 x2 x3 (x4 + (1 : Int32)) hpx2 hpx3 _ _ hw hS hF
        · have hF := ite_f hF c77
          refine x_iconst (1 : Int32) C dX8_tariffSheet_121 rfl ?_
          refine x_goto 126 C dX8_tariffSheet_122 (by decide) ?_
          obtain ⟨q80, hq81, hF⟩ := bnd_e hF
          refine x_goM (fun ls h => x_runV (As := [.int (bI true)]) [] h C ml_X8_196 (k_X8_endTariffLine l D cA s0 z b q75 _ hG true q80 hq81) ⟨rfl, rfl, nb rfl, nb rfl⟩ rfl (C_Rep hw) rfl ⟨rfl, hw⟩ (nb rfl) ⟨Nat.zero_le _, Nat.zero_le _⟩ dX8_tariffSheet_126) hS (xA_le hS) (fun H locs hw hz hk hS => ?_)
          have hw : WC D cA s0 z b q80 H := hw
          refine x_iinc (x4 + (1 : Int32)) [(4, .int (x4 + (1 : Int32))), (0, .ref (b + 2627)), (2, .ref (b + x2)), (3, .ref (b + x3))] C dX8_tariffSheet_129 rfl rfl (by decide) rfl ?_
          refine x_goto 66 C dX8_tariffSheet_132 (by decide) ?_
          refine x_sub [(0, .ref (b + 2627)), (2, .ref (b + x2)), (3, .ref (b + x3)), (4, .int (x4 + (1 : Int32)))] [1, 2, 3, 0] rfl ?_
          exact ih66 q80 x2 x3 (x4 + (1 : Int32)) hpx2 hpx3 _ _ hw hS hF
  refine x_aload_n C dX8_tariffSheet_0 rfl ?_
  refine x_get (.ref (b + 7)) C fl_X8_9 (C_Rep hw) rfl dX8_tariffSheet_1 ?_
  refine x_get (.ref (b + (7 + 5))) C fl_X8_161 (C_Led led7 hw) rfl dX8_tariffSheet_4 ?_
  refine x_iload_n C dX8_tariffSheet_7 rfl ?_
  obtain ⟨h1, hF⟩ := asr_e hF
  obtain ⟨hn2, hl3⟩ := vpn h1 (by decide)
  refine x_aald 7 C (C_versions led7 hw) rfl hn2 hl3 (by decide) rfl dX8_tariffSheet_8 ?_
  refine x_astore_n [(2, .ref (b + (7 + (222 + 5 * (cl a1))))), (0, .ref (b + 2627)), (1, .int a1)] C dX8_tariffSheet_9 rfl (by decide) rfl ?_
  refine x_aload_n C dX8_tariffSheet_10 rfl ?_
  refine x_get (.ref (b + 7)) C fl_X8_9 (C_Rep hw) rfl dX8_tariffSheet_11 ?_
  refine x_get (.ref (b + (7 + 5))) C fl_X8_161 (C_Led led7 hw) rfl dX8_tariffSheet_14 ?_
  refine x_iload_n C dX8_tariffSheet_17 rfl ?_
  refine x_iconst (1 : Int32) C dX8_tariffSheet_18 rfl ?_
  refine x_isub C dX8_tariffSheet_19 ?_
  refine x_iconst (0 : Int32) C dX8_tariffSheet_20 rfl ?_
  refine x_mmax C ml_X8_165 (nb rfl) (nb rfl) ⟨Nat.zero_le _, Nat.zero_le _⟩ dX8_tariffSheet_21 ?_
  obtain ⟨h4, hF⟩ := asr_e hF
  obtain ⟨hn5, hl6⟩ := vpn h4 (by decide)
  refine x_aald 7 C (C_versions led7 hw) rfl hn5 hl6 (by decide) rfl dX8_tariffSheet_24 ?_
  refine x_astore_n [(3, .ref (b + (7 + (222 + 5 * (cl (imax (a1 - (1 : Int32)) (0 : Int32))))))), (2, .ref (b + (7 + (222 + 5 * (cl a1))))), (0, .ref (b + 2627)), (1, .int a1)] C dX8_tariffSheet_25 rfl (by decide) rfl ?_
  refine x_aload_n C dX8_tariffSheet_26 rfl ?_
  refine x_get (.ref (b + 4)) C fl_X8_19 (C_Rep hw) rfl dX8_tariffSheet_27 ?_
  refine x_iconst (0 : Int32) C dX8_tariffSheet_30 rfl ?_
  refine y_putI (kk0 := 2) 4 C fl_X8_23 hw (l3 (lt_Byt byt4)) (fun nm => S_Byt byt4) (fun nm => S_Byt byt4) rfl rfl (fun _ => nb rfl) dX8_tariffSheet_31 hS (xA_in (l3 (lt_Byt byt4))) (fun H locs hw hS => ?_)
  obtain ⟨μ7, hm8, hF⟩ := bnd_e hF
  have hw : WC D cA s0 z b μ7 H := rv_m (W := fun m => WC D cA s0 z b m _) hm8 hw
  refine x_aload_n C dX8_tariffSheet_34 rfl ?_
  refine x_ldcS (z := z) 2336927755350992246 C hG.2.2.2 xl_X8_171 hw.2.2.2.1 dX8_tariffSheet_35 (fun ra9 hst10 => ?_)
  refine x_iload_n C dX8_tariffSheet_37 rfl ?_
  refine x_i2l C dX8_tariffSheet_38 ?_
  obtain ⟨q11, hq12, hF⟩ := bnd_e hF
  refine x_goM (fun ls h => x_runV (As := [.ref ra9, .long a1.toInt64]) [] h C ml_X8_68 (k_X8_wordAndNumber l D cA s0 z b μ7 _ hG ra9 2336927755350992246 a1.toInt64 q11 hq12) ⟨rfl, rfl, nb rfl, nb rfl⟩ rfl (C_Rep hw) rfl ⟨rfl, hw, hst10⟩ (nb rfl) ⟨Nat.zero_le _, Nat.zero_le _⟩ dX8_tariffSheet_39) hS (xA_le hS) (fun H locs hw hz hk hS => ?_)
  have hw : WC D cA s0 z b q11 H := hw
  refine x_aload_n C dX8_tariffSheet_42 rfl ?_
  refine x_get (.ref (b + 4)) C fl_X8_19 (C_Rep hw) rfl dX8_tariffSheet_43 ?_
  refine x_aload_n C dX8_tariffSheet_46 rfl ?_
  refine x_get (.int (q11.1 (7 + (222 + 5 * (cl a1))) 6)) C fl_X8_173 (C_Tar (mk_Tar led7 hl3) hw) rfl dX8_tariffSheet_47 ?_
  refine x_if_eq 58 C dX8_tariffSheet_50 (by decide) (fun c13 => ?_) (fun c13 => ?_)
  · have hF := ite_t hF c13
    refine x_ldcS (z := z) 753057040345887498 C hG.2.2.2 xl_X8_181 hw.2.2.2.1 dX8_tariffSheet_58 (fun ra14 hst15 => ?_)
    obtain ⟨q16, hq17, hF⟩ := bnd_e hF
    refine x_goM (fun ls h => x_runV (As := [.ref ra14]) [] h C ml_X8_83 (k_X1_putText l D cA s0 z b q11 _ hG ra14 4 753057040345887498 q16 hq17) ⟨rfl, rfl, nb rfl, nb rfl⟩ rfl (C_Byt byt4 hw) rfl ⟨rfl, hw, hst15⟩ (nb rfl) ⟨Nat.zero_le _, Nat.zero_le _⟩ dX8_tariffSheet_60) hS (xA_le hS) (fun H locs hw hz hk hS => ?_)
    have hw : WC D cA s0 z b q16 H := hw
    refine x_iconst (0 : Int32) C dX8_tariffSheet_63 rfl ?_
    refine x_istore [(4, .int (0 : Int32)), (3, .ref (b + (7 + (222 + 5 * (cl (imax (a1 - (1 : Int32)) (0 : Int32))))))), (2, .ref (b + (7 + (222 + 5 * (cl a1))))), (0, .ref (b + 2627)), (1, .int a1)] C dX8_tariffSheet_64 (by decide) rfl ?_
    refine x_sub [(0, .ref (b + 2627)), (2, .ref (b + (7 + (222 + 5 * (cl a1))))), (3, .ref (b + (7 + (222 + 5 * (cl (imax (a1 - (1 : Int32)) (0 : Int32))))))), (4, .int (0 : Int32))] [3, 2, 1, 0] rfl ?_
    exact h_L66 10000 q16 (7 + (222 + 5 * (cl a1))) (7 + (222 + 5 * (cl (imax (a1 - (1 : Int32)) (0 : Int32))))) (0 : Int32) (mk_Tar led7 hl3) (mk_Tar led7 hl6) _ _ hw hS hF
  · have hF := ite_f hF c13
    refine x_ldcS (z := z) 11417657570058 C hG.2.2.2 xl_X8_179 hw.2.2.2.1 dX8_tariffSheet_53 (fun ra82 hst83 => ?_)
    refine x_goto 60 C dX8_tariffSheet_55 (by decide) ?_
    obtain ⟨q84, hq85, hF⟩ := bnd_e hF
    refine x_goM (fun ls h => x_runV (As := [.ref ra82]) [] h C ml_X8_83 (k_X1_putText l D cA s0 z b q11 _ hG ra82 4 11417657570058 q84 hq85) ⟨rfl, rfl, nb rfl, nb rfl⟩ rfl (C_Byt byt4 hw) rfl ⟨rfl, hw, hst83⟩ (nb rfl) ⟨Nat.zero_le _, Nat.zero_le _⟩ dX8_tariffSheet_60) hS (xA_le hS) (fun H locs hw hz hk hS => ?_)
    have hw : WC D cA s0 z b q84 H := hw
    refine x_iconst (0 : Int32) C dX8_tariffSheet_63 rfl ?_
    refine x_istore [(4, .int (0 : Int32)), (3, .ref (b + (7 + (222 + 5 * (cl (imax (a1 - (1 : Int32)) (0 : Int32))))))), (2, .ref (b + (7 + (222 + 5 * (cl a1))))), (0, .ref (b + 2627)), (1, .int a1)] C dX8_tariffSheet_64 (by decide) rfl ?_
    refine x_sub [(0, .ref (b + 2627)), (2, .ref (b + (7 + (222 + 5 * (cl a1))))), (3, .ref (b + (7 + (222 + 5 * (cl (imax (a1 - (1 : Int32)) (0 : Int32))))))), (4, .int (0 : Int32))] [3, 2, 1, 0] rfl ?_
    exact h_L66 10000 q84 (7 + (222 + 5 * (cl a1))) (7 + (222 + 5 * (cl (imax (a1 - (1 : Int32)) (0 : Int32))))) (0 : Int32) (mk_Tar led7 hl3) (mk_Tar led7 hl6) _ _ hw hS hF
noncomputable def g_X10_bandWith_L7 (ν : Mm) (o : Nat) (a1 : Int32) : Nat → Int32 → Option (Int32)
  | 0, _ => none
  | n + 1, x2 => (if x2 < 0 then some (-1 : Int32) else asr (vp_in x2 6) ((if a1 < (ν.1 (o + 1) (cl x2)) then (g_X10_bandWith_L7 ν o a1 n (x2 + (-1 : Int32))) else some x2)))
noncomputable def g_X10_bandWith (ν : Mm) (o : Nat) (a1 : Int32) : Option (Int32) := asr (isTar o) ((g_X10_bandWith_L7 ν o a1 10000 ((ν.1 o 4) - (1 : Int32))))
set_option maxRecDepth 20000 in
set_option maxHeartbeats 4000000 in
theorem k_X10_bandWith (l : Launch) (D : va_G) (cA : Nat → ClassId) (s0 : State) (z : Nat) (b : Nat) (ν : Mm) (hG : xG l D cA s0) (o : Nat) (a1 : Int32) (r : Int32) (hF : g_X10_bandWith ν o a1 = some r) : Met l yX10_bandWith (wsG yX10_bandWith cX10_bandWith 3 (some (FieldType.int))) { frames := 0, cells := 0, slots := 0, locals := 0 } (xP D cA s0 [.ref (b + o), .int a1] (WC D cA s0 z b ν)) (xQr (some (.int r))) 0 0 xN := by
  refine x_start (own := RX10) [(0, .ref (b + o)), (1, .int a1)] rfl rfl (by decide) (nb rfl) ?_
  intro p e s m args below meth c C hw
  obtain ⟨hpo, hF⟩ := asr_e hF
  have h_L7 : ∀ (n : Nat) (x2 : Int32), g_X10_bandWith_L7 ν o a1 n x2 = some r → xW p l e { frames := 0, cells := 0, slots := 0, locals := 0 } s m args below meth c 3 (MQ below (xQr (some (.int r))) args s 0 0 xN) s.heap [] 0 0 7 [(0, .ref (b + o)), (1, .int a1), (2, .int x2)] [] := by
    intro n
    induction n with
    | zero =>
      intro x2 hF
      exact no_some hF
    | succ n ih =>
      intro x2 hF
      have ih7 := ih
      refine x_iload_n C dX10_bandWith_7 rfl ?_
      refine x_if_lt 29 C dX10_bandWith_8 (by decide) (fun c1 => ?_) (fun c1 => ?_)
      · have hF := ite_t hF c1
        refine x_iconst (-1 : Int32) C dX10_bandWith_29 rfl ?_
        exact x_iretR C rfl dX10_bandWith_30  (r_i hF)
      · have hF := ite_f hF c1
        refine x_aload_n C dX10_bandWith_11 rfl ?_
        refine x_get (.ref (b + (o + 1))) C fl_X10_9 (C_Tar hpo hw) rfl dX10_bandWith_12 ?_
        refine x_iload_n C dX10_bandWith_15 rfl ?_
        obtain ⟨h2, hF⟩ := asr_e hF
        obtain ⟨hn3, hl4⟩ := vpn h2 (by decide)
        refine x_ialdN C (C_bandFrom hpo hw) hn3 hl4 (by decide) dX10_bandWith_16 ?_
        refine x_iload_n C dX10_bandWith_17 rfl ?_
        refine x_icmp_gt 23 C dX10_bandWith_18 (by decide) (fun c5 => ?_) (fun c5 => ?_)
        · have hF := ite_t hF c5
          refine x_iinc (x2 + (-1 : Int32)) [(2, .int (x2 + (-1 : Int32))), (0, .ref (b + o)), (1, .int a1)] C dX10_bandWith_23 rfl rfl (by decide) rfl ?_
          refine x_goto 7 C dX10_bandWith_26 (by decide) ?_
          refine x_sub [(0, .ref (b + o)), (1, .int a1), (2, .int (x2 + (-1 : Int32)))] [1, 2, 0] rfl ?_
          exact ih7 (x2 + (-1 : Int32)) hF
        · have hF := ite_f hF c5
          refine x_iload_n C dX10_bandWith_21 rfl ?_
          exact x_iretR C rfl dX10_bandWith_22  (r_i hF)
  refine x_aload_n C dX10_bandWith_0 rfl ?_
  refine x_get (.int (ν.1 o 4)) C fl_X10_28 (C_Tar hpo hw) rfl dX10_bandWith_1 ?_
  refine x_iconst (1 : Int32) C dX10_bandWith_4 rfl ?_
  refine x_isub C dX10_bandWith_5 ?_
  refine x_istore_n [(2, .int ((ν.1 o 4) - (1 : Int32))), (0, .ref (b + o)), (1, .int a1)] C dX10_bandWith_6 rfl (by decide) rfl ?_
  refine x_sub [(0, .ref (b + o)), (1, .int a1), (2, .int ((ν.1 o 4) - (1 : Int32)))] [1, 2, 0] rfl ?_
  exact h_L7 10000 ((ν.1 o 4) - (1 : Int32)) hF
noncomputable def g_X10_tonsWithin_J26 (ν : Mm) (o : Nat) (a1 : Int32) (a2 : Int32) (y0 : Int32) : Option (Int32) := asr (vp_in a2 6) (some (imax (y0 - (ν.1 (o + 1) (cl a2))) (0 : Int32)))
noncomputable def g_X10_tonsWithin (ν : Mm) (o : Nat) (a1 : Int32) (a2 : Int32) : Option (Int32) := asr (isTar o) ((if (ν.1 o 4) ≤ (a2 + (1 : Int32)) then (g_X10_tonsWithin_J26 ν o a1 a2 a1) else asr (vp_in (a2 + (1 : Int32)) 6) ((g_X10_tonsWithin_J26 ν o a1 a2 (imin a1 (ν.1 (o + 1) (cl (a2 + (1 : Int32)))))))))
set_option maxRecDepth 20000 in
set_option maxHeartbeats 4000000 in
theorem k_X10_tonsWithin (l : Launch) (D : va_G) (cA : Nat → ClassId) (s0 : State) (z : Nat) (b : Nat) (ν : Mm) (hG : xG l D cA s0) (o : Nat) (a1 : Int32) (a2 : Int32) (r : Int32) (hF : g_X10_tonsWithin ν o a1 a2 = some r) : Met l yX10_tonsWithin (wsG yX10_tonsWithin cX10_tonsWithin 4 (some (FieldType.int))) { frames := 1, cells := 0, slots := 0, locals := 21 } (xP D cA s0 [.ref (b + o), .int a1, .int a2] (WC D cA s0 z b ν)) (xQr (some (.int r))) 0 0 xN := by
  refine x_start (own := RX10) [(0, .ref (b + o)), (1, .int a1), (2, .int a2)] rfl rfl (by decide) (nb rfl) ?_
  intro p e s m args below meth c C hw
  obtain ⟨hpo, hF⟩ := asr_e hF
  have h_J26 : ∀ (y0 : Int32), g_X10_tonsWithin_J26 ν o a1 a2 y0 = some r → xW p l e { frames := 1, cells := 0, slots := 0, locals := 21 } s m args below meth c 4 (MQ below (xQr (some (.int r))) args s 0 0 xN) s.heap [] 0 0 26 [(0, .ref (b + o)), (2, .int a2)] [.int y0] := by
    intro y0 hF
    refine x_istore_n [(3, .int y0), (0, .ref (b + o)), (2, .int a2)] C dX10_tonsWithin_26 rfl (by decide) rfl ?_
    refine x_iload_n C dX10_tonsWithin_27 rfl ?_
    refine x_aload_n C dX10_tonsWithin_28 rfl ?_
    refine x_get (.ref (b + (o + 1))) C fl_X10_9 (C_Tar hpo hw) rfl dX10_tonsWithin_29 ?_
    refine x_iload_n C dX10_tonsWithin_32 rfl ?_
    obtain ⟨h2, hF⟩ := asr_e hF
    obtain ⟨hn3, hl4⟩ := vpn h2 (by decide)
    refine x_ialdN C (C_bandFrom hpo hw) hn3 hl4 (by decide) dX10_tonsWithin_33 ?_
    refine x_isub C dX10_tonsWithin_34 ?_
    refine x_iconst (0 : Int32) C dX10_tonsWithin_35 rfl ?_
    refine x_mmax C ml_X10_62 (nb rfl) (nb rfl) ⟨Nat.zero_le _, Nat.zero_le _⟩ dX10_tonsWithin_36 ?_
    exact x_iretR C rfl dX10_tonsWithin_39  (r_i hF)
  refine x_iload_n C dX10_tonsWithin_0 rfl ?_
  refine x_iconst (1 : Int32) C dX10_tonsWithin_1 rfl ?_
  refine x_iadd C dX10_tonsWithin_2 ?_
  refine x_aload_n C dX10_tonsWithin_3 rfl ?_
  refine x_get (.int (ν.1 o 4)) C fl_X10_28 (C_Tar hpo hw) rfl dX10_tonsWithin_4 ?_
  refine x_icmp_ge 25 C dX10_tonsWithin_7 (by decide) (fun c1 => ?_) (fun c1 => ?_)
  · have hF := ite_t hF c1
    refine x_iload_n C dX10_tonsWithin_25 rfl ?_
    refine x_sub [(0, .ref (b + o)), (2, .int a2)] [0, 2] rfl ?_
    exact h_J26 a1 hF
  · have hF := ite_f hF c1
    refine x_iload_n C dX10_tonsWithin_10 rfl ?_
    refine x_aload_n C dX10_tonsWithin_11 rfl ?_
    refine x_get (.ref (b + (o + 1))) C fl_X10_9 (C_Tar hpo hw) rfl dX10_tonsWithin_12 ?_
    refine x_iload_n C dX10_tonsWithin_15 rfl ?_
    refine x_iconst (1 : Int32) C dX10_tonsWithin_16 rfl ?_
    refine x_iadd C dX10_tonsWithin_17 ?_
    obtain ⟨h5, hF⟩ := asr_e hF
    obtain ⟨hn6, hl7⟩ := vpn h5 (by decide)
    refine x_ialdN C (C_bandFrom hpo hw) hn6 hl7 (by decide) dX10_tonsWithin_18 ?_
    refine x_mmin C ml_X10_56 (nb rfl) (nb rfl) ⟨Nat.zero_le _, Nat.zero_le _⟩ dX10_tonsWithin_19 ?_
    refine x_goto 26 C dX10_tonsWithin_22 (by decide) ?_
    refine x_sub [(0, .ref (b + o)), (2, .int a2)] [0, 2] rfl ?_
    exact h_J26 (imin a1 (ν.1 (o + 1) (cl (a2 + (1 : Int32))))) hF
noncomputable def g_X11_requireState (ν : Mm) (a1 : Bool) : Option (Thr Unit) := (if a1 = true then some (.ok ()) else some (.error 3))
set_option maxRecDepth 20000 in
set_option maxHeartbeats 4000000 in
theorem k_X11_requireState (l : Launch) (D : va_G) (cA : Nat → ClassId) (s0 : State) (z : Nat) (b : Nat) (ν : Mm) (sz : Nat) (hG : xG l D cA s0) (a1 : Bool) (r : Thr Unit) (hF : g_X11_requireState ν a1 = some r) : vx_Met l yX11_requireState (wsG yX11_requireState cX11_requireState 1 none) { frames := 7, cells := 1, slots := 6, locals := 133 } (xP D cA s0 [.int (bI a1)] (fun H => H.size = sz ∧ WC D cA s0 z b ν H)) (xQt (fun q => none) (fun _ H => WC D cA s0 z b ν H) (xA b 2628 sz) r) (xXt (fun H => WC D cA s0 z b ν H) (xA b 2628 sz) r) 1 6 (xA b 2628 sz) := by
  refine t_start (z := z) (b := b) (ν := ν) (s0 := s0) (own := RX11) [(0, .int (bI a1))] rfl rfl (by decide) (nb rfl) ?_
  intro p e s m args below meth c C hX hw
  obtain ⟨hsz, hw⟩ := hw
  subst hsz
  have hS : va_S (xA b 2628 s.heap.size) s.heap s.heap [] := va_S.rf
  refine x_iload_n C dX11_requireState_0 rfl ?_
  refine x_ifB_ne 15 C dX11_requireState_1 (by decide) (fun c1 => ?_) (fun c1 => ?_)
  · have hF := ite_t hF c1
    exact t_vret C rfl dX11_requireState_15 (rt_o hF) rfl hw hS (nb rfl) (nb rfl)
  · have hF := ite_f hF (nbt c1)
    exact t_throwW (k := 3) (ik := 420) (is := 422) (ic := 424) hG.1 hG.2.1 hw hS C hX (by decide +kernel) (rt_x hF) hG.2.1.2.2.2.2.2 thr_k3 thr_i3 thr_at3 dX11_requireState_4 dX11_requireState_7 dX11_requireState_8 dX11_requireState_11 dX11_requireState_14 (nb rfl) (nb rfl) (nb rfl) (nb rfl) (nb rfl) (nb rfl)
noncomputable def g_X11_append_J21 (ν : Mm) (a1 : Int32) (a2 : Int32) (a3 : Int32) (a4 : Int32) (a5 : Int32) (y0 : Bool) : Option (Thr (Int32 × Mm)) := bnd (g_X11_requireState ν y0) (fun q2 => bnx q2 (fun q4 => bnd (g_X1_putInt ν 1 a1) (fun q5 => bnd (g_X1_putInt q5 1 a2) (fun q7 => bnd (g_X1_putInt q7 1 a3) (fun q9 => bnd (g_X1_putInt q9 1 a4) (fun q11 => bnd (g_X1_putInt q11 1 a5) (fun q13 => some (.ok (q13.1 1 2, q13)))))))))
noncomputable def g_X11_append (ν : Mm) (a1 : Int32) (a2 : Int32) (a3 : Int32) (a4 : Int32) (a5 : Int32) : Option (Thr (Int32 × Mm)) := (if (800 : Int32) < ((ν.1 1 2) + (20 : Int32)) then (g_X11_append_J21 ν a1 a2 a3 a4 a5 false) else (g_X11_append_J21 ν a1 a2 a3 a4 a5 true))
set_option maxRecDepth 20000 in
set_option maxHeartbeats 4000000 in
theorem k_X11_append (l : Launch) (D : va_G) (cA : Nat → ClassId) (s0 : State) (z : Nat) (b : Nat) (ν : Mm) (sz : Nat) (hG : xG l D cA s0) (a1 : Int32) (a2 : Int32) (a3 : Int32) (a4 : Int32) (a5 : Int32) (r : Thr (Int32 × Mm)) (hF : g_X11_append ν a1 a2 a3 a4 a5 = some r) : vx_Met l yX11_append (wsG yX11_append cX11_append 6 (some (FieldType.int))) { frames := 8, cells := 1, slots := 6, locals := 153 } (xP D cA s0 [.ref (b + 0), .int a1, .int a2, .int a3, .int a4, .int a5] (fun H => H.size = sz ∧ WC D cA s0 z b ν H)) (xQt (fun q => (some (.int q.1))) (fun q H => WC D cA s0 z b q.2 H) (xA b 2628 sz) r) (xXt (fun H => WC D cA s0 z b ν H) (xA b 2628 sz) r) 1 6 (xA b 2628 sz) := by
  refine t_start (z := z) (b := b) (ν := ν) (s0 := s0) (own := RX11) [(0, .ref (b + 0)), (1, .int a1), (2, .int a2), (3, .int a3), (4, .int a4), (5, .int a5)] rfl rfl (by decide) (nb rfl) ?_
  intro p e s m args below meth c C hX hw
  obtain ⟨hsz, hw⟩ := hw
  subst hsz
  have hS : va_S (xA b 2628 s.heap.size) s.heap s.heap [] := va_S.rf
  have h_J21 : ∀ (y0 : Bool) (H : Heap) (locs : List Loc) (hw : WC D cA s0 z b ν H) (hS : va_S (xA b 2628 s.heap.size) s.heap H locs), g_X11_append_J21 ν a1 a2 a3 a4 a5 y0 = some r → xW p l e { frames := 8, cells := 1, slots := 6, locals := 153 } s m args below meth c 6 (vx_MQ below (xQt (fun q => (some (.int q.1))) (fun q H => WC D cA s0 z b q.2 H) (xA b 2628 s.heap.size) r) (xXt (fun H => WC D cA s0 z b ν H) (xA b 2628 s.heap.size) r) args s 1 6 (xA b 2628 s.heap.size)) H locs 0 0 21 [(0, .ref (b + 0)), (1, .int a1), (2, .int a2), (3, .int a3), (4, .int a4), (5, .int a5)] [.int (bI y0)] := by
    intro y0 H locs hw hS hF
    obtain ⟨q2, hq3, hF⟩ := bnd_e hF
    refine t_goT (fun ls h => t_runS (As := [.int (bI y0)]) [] h C ml_X11_69 (k_X11_requireState l D cA s0 z b ν _ hG y0 q2 hq3) ⟨rfl, rfl, nb rfl, nb rfl⟩ rfl ⟨rfl, hw⟩ (nb rfl) ⟨nb rfl, nb rfl⟩ dX11_append_21) hF hS (xA_le hS) C hX (fun _ h => h) (nb rfl) (nb rfl) (fun q4 hF H locs hw hS => ?_)
    refine x_widen (k := 1) (n := 6) (nb rfl) (nb rfl) ?_
    have hw : WC D cA s0 z b ν H := hw
    refine x_aload_n C dX11_append_24 rfl ?_
    refine x_get (.ref (b + 1)) C fl_X11_14 (C_PD hw) rfl dX11_append_25 ?_
    refine x_iload_n C dX11_append_28 rfl ?_
    obtain ⟨q5, hq6, hF⟩ := bnd_e hF
    refine x_goM (fun ls h => x_runV (As := [.int a1]) [] h C ml_X11_73 (k_X1_putInt l D cA s0 z b ν _ hG 1 a1 q5 hq6) ⟨rfl, rfl, nb rfl, nb rfl⟩ rfl (C_Byt byt1 hw) rfl ⟨rfl, hw⟩ (nb rfl) ⟨nb rfl, nb rfl⟩ dX11_append_29) hS (xA_le hS) (fun H locs hw hz hk hS => ?_)
    have hw : WC D cA s0 z b q5 H := hw
    refine x_aload_n C dX11_append_32 rfl ?_
    refine x_get (.ref (b + 1)) C fl_X11_14 (C_PD hw) rfl dX11_append_33 ?_
    refine x_iload_n C dX11_append_36 rfl ?_
    obtain ⟨q7, hq8, hF⟩ := bnd_e hF
    refine x_goM (fun ls h => x_runV (As := [.int a2]) [] h C ml_X11_73 (k_X1_putInt l D cA s0 z b q5 _ hG 1 a2 q7 hq8) ⟨rfl, rfl, nb rfl, nb rfl⟩ rfl (C_Byt byt1 hw) rfl ⟨rfl, hw⟩ (nb rfl) ⟨nb rfl, nb rfl⟩ dX11_append_37) hS (xA_le hS) (fun H locs hw hz hk hS => ?_)
    have hw : WC D cA s0 z b q7 H := hw
    refine x_aload_n C dX11_append_40 rfl ?_
    refine x_get (.ref (b + 1)) C fl_X11_14 (C_PD hw) rfl dX11_append_41 ?_
    refine x_iload_n C dX11_append_44 rfl ?_
    obtain ⟨q9, hq10, hF⟩ := bnd_e hF
    refine x_goM (fun ls h => x_runV (As := [.int a3]) [] h C ml_X11_73 (k_X1_putInt l D cA s0 z b q7 _ hG 1 a3 q9 hq10) ⟨rfl, rfl, nb rfl, nb rfl⟩ rfl (C_Byt byt1 hw) rfl ⟨rfl, hw⟩ (nb rfl) ⟨nb rfl, nb rfl⟩ dX11_append_45) hS (xA_le hS) (fun H locs hw hz hk hS => ?_)
    have hw : WC D cA s0 z b q9 H := hw
    refine x_aload_n C dX11_append_48 rfl ?_
    refine x_get (.ref (b + 1)) C fl_X11_14 (C_PD hw) rfl dX11_append_49 ?_
    refine x_iload C dX11_append_52 rfl ?_
    obtain ⟨q11, hq12, hF⟩ := bnd_e hF
    refine x_goM (fun ls h => x_runV (As := [.int a4]) [] h C ml_X11_73 (k_X1_putInt l D cA s0 z b q9 _ hG 1 a4 q11 hq12) ⟨rfl, rfl, nb rfl, nb rfl⟩ rfl (C_Byt byt1 hw) rfl ⟨rfl, hw⟩ (nb rfl) ⟨nb rfl, nb rfl⟩ dX11_append_54) hS (xA_le hS) (fun H locs hw hz hk hS => ?_)
    have hw : WC D cA s0 z b q11 H := hw
    refine x_aload_n C dX11_append_57 rfl ?_
    refine x_get (.ref (b + 1)) C fl_X11_14 (C_PD hw) rfl dX11_append_58 ?_
    refine x_iload C dX11_append_61 rfl ?_
    obtain ⟨q13, hq14, hF⟩ := bnd_e hF
    refine x_goM (fun ls h => x_runV (As := [.int a5]) [] h C ml_X11_73 (k_X1_putInt l D cA s0 z b q11 _ hG 1 a5 q13 hq14) ⟨rfl, rfl, nb rfl, nb rfl⟩ rfl (C_Byt byt1 hw) rfl ⟨rfl, hw⟩ (nb rfl) ⟨nb rfl, nb rfl⟩ dX11_append_63) hS (xA_le hS) (fun H locs hw hz hk hS => ?_)
    have hw : WC D cA s0 z b q13 H := hw
    refine x_aload_n C dX11_append_66 rfl ?_
    refine x_get (.ref (b + 1)) C fl_X11_14 (C_PD hw) rfl dX11_append_67 ?_
    refine x_get (.int (q13.1 1 2)) C fl_X11_65 (C_Byt byt1 hw) rfl dX11_append_70 ?_
    exact t_iret C rfl dX11_append_73  (rt_o hF) rfl hw hS (nb rfl) (nb rfl)
  refine x_aload_n C dX11_append_0 rfl ?_
  refine x_get (.ref (b + 1)) C fl_X11_14 (C_PD hw) rfl dX11_append_1 ?_
  refine x_get (.int (ν.1 1 2)) C fl_X11_65 (C_Byt byt1 hw) rfl dX11_append_4 ?_
  refine x_bipush (20 : Int32) C dX11_append_7 rfl ?_
  refine x_iadd C dX11_append_9 ?_
  refine x_sipush (800 : Int32) C dX11_append_10 rfl ?_
  refine x_icmp_gt 20 C dX11_append_13 (by decide) (fun c1 => ?_) (fun c1 => ?_)
  · have hF := ite_t hF c1
    refine x_iconst (0 : Int32) C dX11_append_20 rfl ?_
    exact h_J21 false _ _ hw hS hF
  · have hF := ite_f hF c1
    refine x_iconst (1 : Int32) C dX11_append_16 rfl ?_
    refine x_goto 21 C dX11_append_17 (by decide) ?_
    exact h_J21 true _ _ hw hS hF
noncomputable def g_X11_requireArgument (ν : Mm) (a1 : Bool) : Option (Thr Unit) := (if a1 = true then some (.ok ()) else some (.error 2))
set_option maxRecDepth 20000 in
set_option maxHeartbeats 4000000 in
theorem k_X11_requireArgument (l : Launch) (D : va_G) (cA : Nat → ClassId) (s0 : State) (z : Nat) (b : Nat) (ν : Mm) (sz : Nat) (hG : xG l D cA s0) (a1 : Bool) (r : Thr Unit) (hF : g_X11_requireArgument ν a1 = some r) : vx_Met l yX11_requireArgument (wsG yX11_requireArgument cX11_requireArgument 1 none) { frames := 7, cells := 1, slots := 6, locals := 133 } (xP D cA s0 [.int (bI a1)] (fun H => H.size = sz ∧ WC D cA s0 z b ν H)) (xQt (fun q => none) (fun _ H => WC D cA s0 z b ν H) (xA b 2628 sz) r) (xXt (fun H => WC D cA s0 z b ν H) (xA b 2628 sz) r) 1 6 (xA b 2628 sz) := by
  refine t_start (z := z) (b := b) (ν := ν) (s0 := s0) (own := RX11) [(0, .int (bI a1))] rfl rfl (by decide) (nb rfl) ?_
  intro p e s m args below meth c C hX hw
  obtain ⟨hsz, hw⟩ := hw
  subst hsz
  have hS : va_S (xA b 2628 s.heap.size) s.heap s.heap [] := va_S.rf
  refine x_iload_n C dX11_requireArgument_0 rfl ?_
  refine x_ifB_ne 15 C dX11_requireArgument_1 (by decide) (fun c1 => ?_) (fun c1 => ?_)
  · have hF := ite_t hF c1
    exact t_vret C rfl dX11_requireArgument_15 (rt_o hF) rfl hw hS (nb rfl) (nb rfl)
  · have hF := ite_f hF (nbt c1)
    exact t_throwW (k := 2) (ik := 415) (is := 417) (ic := 419) hG.1 hG.2.1 hw hS C hX (by decide +kernel) (rt_x hF) hG.2.1.2.2.2.2.1 thr_k2 thr_i2 thr_at2 dX11_requireArgument_4 dX11_requireArgument_7 dX11_requireArgument_8 dX11_requireArgument_11 dX11_requireArgument_14 (nb rfl) (nb rfl) (nb rfl) (nb rfl) (nb rfl) (nb rfl)
noncomputable def g_X11_requireRange (ν : Mm) (a1 : Int32) (a2 : Int32) (a3 : Int32) : Option (Thr Unit) := (if a1 < a2 then bnd (g_X11_requireArgument ν false) (fun q2 => bnx q2 (fun q4 => some (.ok ()))) else (if a3 < a1 then bnd (g_X11_requireArgument ν false) (fun q6 => bnx q6 (fun q8 => some (.ok ()))) else bnd (g_X11_requireArgument ν true) (fun q9 => bnx q9 (fun q11 => some (.ok ())))))
set_option maxRecDepth 20000 in
set_option maxHeartbeats 4000000 in
theorem k_X11_requireRange (l : Launch) (D : va_G) (cA : Nat → ClassId) (s0 : State) (z : Nat) (b : Nat) (ν : Mm) (sz : Nat) (hG : xG l D cA s0) (a1 : Int32) (a2 : Int32) (a3 : Int32) (r : Thr Unit) (hF : g_X11_requireRange ν a1 a2 a3 = some r) : vx_Met l yX11_requireRange (wsG yX11_requireRange cX11_requireRange 3 none) { frames := 8, cells := 1, slots := 6, locals := 153 } (xP D cA s0 [.int a1, .int a2, .int a3] (fun H => H.size = sz ∧ WC D cA s0 z b ν H)) (xQt (fun q => none) (fun _ H => WC D cA s0 z b ν H) (xA b 2628 sz) r) (xXt (fun H => WC D cA s0 z b ν H) (xA b 2628 sz) r) 1 6 (xA b 2628 sz) := by
  refine t_start (z := z) (b := b) (ν := ν) (s0 := s0) (own := RX11) [(0, .int a1), (1, .int a2), (2, .int a3)] rfl rfl (by decide) (nb rfl) ?_
  intro p e s m args below meth c C hX hw
  obtain ⟨hsz, hw⟩ := hw
  subst hsz
  have hS : va_S (xA b 2628 s.heap.size) s.heap s.heap [] := va_S.rf
  refine x_iload_n C dX11_requireRange_0 rfl ?_
  refine x_iload_n C dX11_requireRange_1 rfl ?_
  refine x_icmp_lt 14 C dX11_requireRange_2 (by decide) (fun c1 => ?_) (fun c1 => ?_)
  · have hF := ite_t hF c1
    refine x_iconst (0 : Int32) C dX11_requireRange_14 rfl ?_
    obtain ⟨q2, hq3, hF⟩ := bnd_e hF
    refine t_goT (fun ls h => t_runS (As := [.int (bI false)]) [] h C ml_X11_382 (k_X11_requireArgument l D cA s0 z b ν _ hG false q2 hq3) ⟨rfl, rfl, nb rfl, nb rfl⟩ rfl ⟨rfl, hw⟩ (nb rfl) ⟨nb rfl, nb rfl⟩ dX11_requireRange_15) hF hS (xA_le hS) C hX (fun _ h => h) (nb rfl) (nb rfl) (fun q4 hF H locs hw hS => ?_)
    refine x_widen (k := 1) (n := 6) (nb rfl) (nb rfl) ?_
    have hw : WC D cA s0 z b ν H := hw
    exact t_vret C rfl dX11_requireRange_18 (rt_o hF) rfl hw hS (nb rfl) (nb rfl)
  · have hF := ite_f hF c1
    refine x_iload_n C dX11_requireRange_5 rfl ?_
    refine x_iload_n C dX11_requireRange_6 rfl ?_
    refine x_icmp_gt 14 C dX11_requireRange_7 (by decide) (fun c5 => ?_) (fun c5 => ?_)
    · have hF := ite_t hF c5
      refine x_iconst (0 : Int32) C dX11_requireRange_14 rfl ?_
      obtain ⟨q6, hq7, hF⟩ := bnd_e hF
      refine t_goT (fun ls h => t_runS (As := [.int (bI false)]) [] h C ml_X11_382 (k_X11_requireArgument l D cA s0 z b ν _ hG false q6 hq7) ⟨rfl, rfl, nb rfl, nb rfl⟩ rfl ⟨rfl, hw⟩ (nb rfl) ⟨nb rfl, nb rfl⟩ dX11_requireRange_15) hF hS (xA_le hS) C hX (fun _ h => h) (nb rfl) (nb rfl) (fun q8 hF H locs hw hS => ?_)
      refine x_widen (k := 1) (n := 6) (nb rfl) (nb rfl) ?_
      have hw : WC D cA s0 z b ν H := hw
      exact t_vret C rfl dX11_requireRange_18 (rt_o hF) rfl hw hS (nb rfl) (nb rfl)
    · have hF := ite_f hF c5
      refine x_iconst (1 : Int32) C dX11_requireRange_10 rfl ?_
      refine x_goto 15 C dX11_requireRange_11 (by decide) ?_
      obtain ⟨q9, hq10, hF⟩ := bnd_e hF
      refine t_goT (fun ls h => t_runS (As := [.int (bI true)]) [] h C ml_X11_382 (k_X11_requireArgument l D cA s0 z b ν _ hG true q9 hq10) ⟨rfl, rfl, nb rfl, nb rfl⟩ rfl ⟨rfl, hw⟩ (nb rfl) ⟨nb rfl, nb rfl⟩ dX11_requireRange_15) hF hS (xA_le hS) C hX (fun _ h => h) (nb rfl) (nb rfl) (fun q11 hF H locs hw hS => ?_)
      refine x_widen (k := 1) (n := 6) (nb rfl) (nb rfl) ?_
      have hw : WC D cA s0 z b ν H := hw
      exact t_vret C rfl dX11_requireRange_18 (rt_o hF) rfl hw hS (nb rfl) (nb rfl)
noncomputable def g_X11_truncate (ν : Mm) (a1 : Int32) : Option (Thr (Mm)) := bnd (g_X11_requireRange ν a1 (0 : Int32) (ν.1 1 2)) (fun q1 => bnx q1 (fun q3 => bnd (some (uI ν 1 2 a1)) (fun μ4 => some (.ok μ4))))
set_option maxRecDepth 20000 in
set_option maxHeartbeats 4000000 in
theorem k_X11_truncate (l : Launch) (D : va_G) (cA : Nat → ClassId) (s0 : State) (z : Nat) (b : Nat) (ν : Mm) (sz : Nat) (hG : xG l D cA s0) (a1 : Int32) (r : Thr (Mm)) (hF : g_X11_truncate ν a1 = some r) : vx_Met l yX11_truncate (wsG yX11_truncate cX11_truncate 2 none) { frames := 9, cells := 1, slots := 6, locals := 175 } (xP D cA s0 [.ref (b + 0), .int a1] (fun H => H.size = sz ∧ WC D cA s0 z b ν H)) (xQt (fun q => none) (fun q H => WC D cA s0 z b q H) (xA b 2628 sz) r) (xXt (fun H => WC D cA s0 z b ν H) (xA b 2628 sz) r) 1 6 (xA b 2628 sz) := by
  refine t_start (z := z) (b := b) (ν := ν) (s0 := s0) (own := RX11) [(0, .ref (b + 0)), (1, .int a1)] rfl rfl (by decide) (nb rfl) ?_
  intro p e s m args below meth c C hX hw
  obtain ⟨hsz, hw⟩ := hw
  subst hsz
  have hS : va_S (xA b 2628 s.heap.size) s.heap s.heap [] := va_S.rf
  refine x_iload_n C dX11_truncate_0 rfl ?_
  refine x_iconst (0 : Int32) C dX11_truncate_1 rfl ?_
  refine x_aload_n C dX11_truncate_2 rfl ?_
  refine x_get (.ref (b + 1)) C fl_X11_14 (C_PD hw) rfl dX11_truncate_3 ?_
  refine x_get (.int (ν.1 1 2)) C fl_X11_65 (C_Byt byt1 hw) rfl dX11_truncate_6 ?_
  obtain ⟨q1, hq2, hF⟩ := bnd_e hF
  refine t_goT (fun ls h => t_runS (As := [.int a1, .int (0 : Int32), .int (ν.1 1 2)]) [] h C ml_X11_76 (k_X11_requireRange l D cA s0 z b ν _ hG a1 (0 : Int32) (ν.1 1 2) q1 hq2) ⟨rfl, rfl, nb rfl, nb rfl⟩ rfl ⟨rfl, hw⟩ (nb rfl) ⟨nb rfl, nb rfl⟩ dX11_truncate_9) hF hS (xA_le hS) C hX (fun _ h => h) (nb rfl) (nb rfl) (fun q3 hF H locs hw hS => ?_)
  refine x_widen (k := 1) (n := 6) (nb rfl) (nb rfl) ?_
  have hw : WC D cA s0 z b ν H := hw
  refine x_aload_n C dX11_truncate_12 rfl ?_
  refine x_get (.ref (b + 1)) C fl_X11_14 (C_PD hw) rfl dX11_truncate_13 ?_
  refine x_iload_n C dX11_truncate_16 rfl ?_
  refine y_putI (kk0 := 2) 1 C fl_X11_65 hw (l3 (lt_Byt byt1)) (fun nm => S_Byt byt1) (fun nm => S_Byt byt1) rfl rfl (fun _ => nb rfl) dX11_truncate_17 hS (xA_in (l3 (lt_Byt byt1))) (fun H locs hw hS => ?_)
  obtain ⟨μ4, hm5, hF⟩ := bnd_e hF
  have hw : WC D cA s0 z b μ4 H := rv_m (W := fun m => WC D cA s0 z b m _) hm5 hw
  exact t_vret C rfl dX11_truncate_20 (rt_o hF) rfl hw hS (nb rfl) (nb rfl)
noncomputable def g_X11_load (ν : Mm) : Option (Int32 × Mm) := bnd (g_X7_parseText ν) (fun q1 => bnd (some (uI q1.2 1 2 (0 : Int32))) (fun μ3 => (if q1.1 = true then bnd (g_X3_save μ3 7) (fun q6 => bnd (g_X5_copyFrom q6 7 334) (fun q8 => some (q8.1 7 5, q8))) else some ((-4 : Int32), μ3))))
set_option maxRecDepth 20000 in
set_option maxHeartbeats 4000000 in
theorem k_X11_load (l : Launch) (D : va_G) (cA : Nat → ClassId) (s0 : State) (z : Nat) (b : Nat) (ν : Mm) (sz : Nat) (hG : xG l D cA s0) (r : Int32 × Mm) (hF : g_X11_load ν = some r) : Met l yX11_load (wsG yX11_load cX11_load 2 (some (FieldType.int))) { frames := 10, cells := 0, slots := 0, locals := 215 } (xP D cA s0 [.ref (b + 0)] (fun H => H.size = sz ∧ WC D cA s0 z b ν H)) (xQm (some (.int r.1)) (fun H => WC D cA s0 z b r.2 H) (xA b 2628 sz)) 0 0 (xA b 2628 sz) := by
  refine x_start (own := RX11) [(0, .ref (b + 0))] rfl rfl (by decide) (nb rfl) ?_
  intro p e s m args below meth c C hw
  obtain ⟨hsz, hw⟩ := hw
  subst hsz
  have hS : va_S (xA b 2628 s.heap.size) s.heap s.heap [] := va_S.rf
  refine x_aload_n C dX11_load_0 rfl ?_
  refine x_get (.ref (b + 661)) C fl_X11_36 (C_PD hw) rfl dX11_load_1 ?_
  obtain ⟨q1, hq2, hF⟩ := bnd_e hF
  refine x_goM (fun ls h => x_runV (As := []) [] h C ml_X11_80 (k_X7_parseText l D cA s0 z b ν _ hG q1 hq2) ⟨rfl, rfl, nb rfl, nb rfl⟩ rfl (C_Par hw) rfl ⟨rfl, hw⟩ (nb rfl) ⟨Nat.zero_le _, Nat.zero_le _⟩ dX11_load_4) hS (xA_le hS) (fun H locs hw hz hk hS => ?_)
  have hw : WC D cA s0 z b q1.2 H := hw
  refine x_istore_n [(1, .int (bI q1.1)), (0, .ref (b + 0))] C dX11_load_7 rfl (by decide) rfl ?_
  refine x_aload_n C dX11_load_8 rfl ?_
  refine x_get (.ref (b + 1)) C fl_X11_14 (C_PD hw) rfl dX11_load_9 ?_
  refine x_iconst (0 : Int32) C dX11_load_12 rfl ?_
  refine y_putI (kk0 := 2) 1 C fl_X11_65 hw (l3 (lt_Byt byt1)) (fun nm => S_Byt byt1) (fun nm => S_Byt byt1) rfl rfl (fun _ => nb rfl) dX11_load_13 hS (xA_in (l3 (lt_Byt byt1))) (fun H locs hw hS => ?_)
  obtain ⟨μ3, hm4, hF⟩ := bnd_e hF
  have hw : WC D cA s0 z b μ3 H := rv_m (W := fun m => WC D cA s0 z b m _) hm4 hw
  refine x_iload_n C dX11_load_16 rfl ?_
  refine x_ifB_ne 23 C dX11_load_17 (by decide) (fun c5 => ?_) (fun c5 => ?_)
  · have hF := ite_t hF c5
    refine x_aload_n C dX11_load_23 rfl ?_
    refine x_get (.ref (b + 662)) C fl_X11_43 (C_PD hw) rfl dX11_load_24 ?_
    refine x_aload_n C dX11_load_27 rfl ?_
    refine x_get (.ref (b + 7)) C fl_X11_24 (C_PD hw) rfl dX11_load_28 ?_
    obtain ⟨q6, hq7, hF⟩ := bnd_e hF
    refine x_goM (fun ls h => x_runV (As := [.ref (b + 7)]) [] h C ml_X11_84 (k_X3_save l D cA s0 z b μ3 _ hG 7 q6 hq7) ⟨rfl, rfl, nb rfl, nb rfl⟩ rfl (C_His hw) rfl ⟨rfl, hw⟩ (nb rfl) ⟨Nat.zero_le _, Nat.zero_le _⟩ dX11_load_31) hS (xA_le hS) (fun H locs hw hz hk hS => ?_)
    have hw : WC D cA s0 z b q6 H := hw
    refine x_aload_n C dX11_load_34 rfl ?_
    refine x_get (.ref (b + 7)) C fl_X11_24 (C_PD hw) rfl dX11_load_35 ?_
    refine x_aload_n C dX11_load_38 rfl ?_
    refine x_get (.ref (b + 334)) C fl_X11_28 (C_PD hw) rfl dX11_load_39 ?_
    obtain ⟨q8, hq9, hF⟩ := bnd_e hF
    refine x_goM (fun ls h => x_runV (As := [.ref (b + 334)]) [] h C ml_X11_87 (k_X5_copyFrom l D cA s0 z b q6 _ hG 7 334 q8 hq9) ⟨rfl, rfl, nb rfl, nb rfl⟩ rfl (C_Led led7 hw) rfl ⟨rfl, hw⟩ (nb rfl) ⟨Nat.zero_le _, Nat.zero_le _⟩ dX11_load_42) hS (xA_le hS) (fun H locs hw hz hk hS => ?_)
    have hw : WC D cA s0 z b q8 H := hw
    refine x_aload_n C dX11_load_45 rfl ?_
    refine x_get (.ref (b + 7)) C fl_X11_24 (C_PD hw) rfl dX11_load_46 ?_
    refine x_get (.int (q8.1 7 5)) C fl_X11_90 (C_Led led7 hw) rfl dX11_load_49 ?_
    exact x_iretM2 C rfl dX11_load_52  (rm_i hF) (rm_m (W := fun m => WC D cA s0 z b m _) hF hw) hS (nb rfl) (nb rfl)
  · have hF := ite_f hF (nbt c5)
    refine x_bipush (-4 : Int32) C dX11_load_20 rfl ?_
    exact x_iretM2 C rfl dX11_load_22  (rm_i hF) (rm_m (W := fun m => WC D cA s0 z b m _) hF hw) hS (nb rfl) (nb rfl)
