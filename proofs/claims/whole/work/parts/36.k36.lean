noncomputable def g_X11_errorCode (ν : Mm) : Option (Int32) := some (ν.1 661 9)
set_option maxRecDepth 20000 in
set_option maxHeartbeats 4000000 in
theorem k_X11_errorCode (l : Launch) (D : va_G) (cA : Nat → ClassId) (s0 : State) (z : Nat) (b : Nat) (ν : Mm) (hG : xG l D cA s0) (r : Int32) (hF : g_X11_errorCode ν = some r) : Met l yX11_errorCode (wsG yX11_errorCode cX11_errorCode 1 (some (FieldType.int))) { frames := 0, cells := 0, slots := 0, locals := 0 } (xP D cA s0 [.ref (b + 0)] (WC D cA s0 z b ν)) (xQr (some (.int r))) 0 0 xN := by
  refine x_start (own := RX11) [(0, .ref (b + 0))] rfl rfl (by decide) (nb rfl) ?_
  intro p e s m args below meth c C hw
  refine x_aload_n C dX11_errorCode_0 rfl ?_
  refine x_get (.ref (b + 661)) C fl_X11_36 (C_PD hw) rfl dX11_errorCode_1 ?_
  refine x_get (.int (ν.1 661 9)) C fl_X11_93 (C_Par hw) rfl dX11_errorCode_4 ?_
  exact x_iretR C rfl dX11_errorCode_7  (r_i hF)
noncomputable def g_X11_errorPosition (ν : Mm) : Option (Int32) := some (ν.1 661 10)
set_option maxRecDepth 20000 in
set_option maxHeartbeats 4000000 in
theorem k_X11_errorPosition (l : Launch) (D : va_G) (cA : Nat → ClassId) (s0 : State) (z : Nat) (b : Nat) (ν : Mm) (hG : xG l D cA s0) (r : Int32) (hF : g_X11_errorPosition ν = some r) : Met l yX11_errorPosition (wsG yX11_errorPosition cX11_errorPosition 1 (some (FieldType.int))) { frames := 0, cells := 0, slots := 0, locals := 0 } (xP D cA s0 [.ref (b + 0)] (WC D cA s0 z b ν)) (xQr (some (.int r))) 0 0 xN := by
  refine x_start (own := RX11) [(0, .ref (b + 0))] rfl rfl (by decide) (nb rfl) ?_
  intro p e s m args below meth c C hw
  refine x_aload_n C dX11_errorPosition_0 rfl ?_
  refine x_get (.ref (b + 661)) C fl_X11_36 (C_PD hw) rfl dX11_errorPosition_1 ?_
  refine x_get (.int (ν.1 661 10)) C fl_X11_96 (C_Par hw) rfl dX11_errorPosition_4 ?_
  exact x_iretR C rfl dX11_errorPosition_7  (r_i hF)
noncomputable def g_X11_find (ν : Mm) : Option (Int32 × Mm) := bnd (g_X5_shipNamed ν 7 1 (0 : Int32) (ν.1 1 2)) (fun q1 => bnd (some (uI ν 1 2 (0 : Int32))) (fun μ3 => some (q1, μ3)))
set_option maxRecDepth 20000 in
set_option maxHeartbeats 4000000 in
theorem k_X11_find (l : Launch) (D : va_G) (cA : Nat → ClassId) (s0 : State) (z : Nat) (b : Nat) (ν : Mm) (sz : Nat) (hG : xG l D cA s0) (r : Int32 × Mm) (hF : g_X11_find ν = some r) : Met l yX11_find (wsG yX11_find cX11_find 2 (some (FieldType.int))) { frames := 3, cells := 0, slots := 0, locals := 69 } (xP D cA s0 [.ref (b + 0)] (fun H => H.size = sz ∧ WC D cA s0 z b ν H)) (xQm (some (.int r.1)) (fun H => WC D cA s0 z b r.2 H) (xA b 2628 sz)) 0 0 (xA b 2628 sz) := by
  refine x_start (own := RX11) [(0, .ref (b + 0))] rfl rfl (by decide) (nb rfl) ?_
  intro p e s m args below meth c C hw
  obtain ⟨hsz, hw⟩ := hw
  subst hsz
  have hS : va_S (xA b 2628 s.heap.size) s.heap s.heap [] := va_S.rf
  refine x_aload_n C dX11_find_0 rfl ?_
  refine x_get (.ref (b + 7)) C fl_X11_24 (C_PD hw) rfl dX11_find_1 ?_
  refine x_aload_n C dX11_find_4 rfl ?_
  refine x_get (.ref (b + 1)) C fl_X11_14 (C_PD hw) rfl dX11_find_5 ?_
  refine x_iconst (0 : Int32) C dX11_find_8 rfl ?_
  refine x_aload_n C dX11_find_9 rfl ?_
  refine x_get (.ref (b + 1)) C fl_X11_14 (C_PD hw) rfl dX11_find_10 ?_
  refine x_get (.int (ν.1 1 2)) C fl_X11_65 (C_Byt byt1 hw) rfl dX11_find_13 ?_
  obtain ⟨q1, hq2, hF⟩ := bnd_e hF
  refine x_goR (fun ls h => x_runV (As := [.ref (b + 1), .int (0 : Int32), .int (ν.1 1 2)]) [] h C ml_X11_99 (k_X5_shipNamed l D cA s0 z b ν hG 7 1 (0 : Int32) (ν.1 1 2) q1 hq2) ⟨rfl, rfl, nb rfl, nb rfl⟩ rfl (C_Led led7 hw) rfl hw (nb rfl) ⟨Nat.zero_le _, Nat.zero_le _⟩ dX11_find_16) ?_
  refine x_istore_n [(1, .int q1), (0, .ref (b + 0))] C dX11_find_19 rfl (by decide) rfl ?_
  refine x_aload_n C dX11_find_20 rfl ?_
  refine x_get (.ref (b + 1)) C fl_X11_14 (C_PD hw) rfl dX11_find_21 ?_
  refine x_iconst (0 : Int32) C dX11_find_24 rfl ?_
  refine y_putI (kk0 := 2) 1 C fl_X11_65 hw (l3 (lt_Byt byt1)) (fun nm => S_Byt byt1) (fun nm => S_Byt byt1) rfl rfl (fun _ => nb rfl) dX11_find_25 hS (xA_in (l3 (lt_Byt byt1))) (fun H locs hw hS => ?_)
  obtain ⟨μ3, hm4, hF⟩ := bnd_e hF
  have hw : WC D cA s0 z b μ3 H := rv_m (W := fun m => WC D cA s0 z b m _) hm4 hw
  refine x_iload_n C dX11_find_28 rfl ?_
  exact x_iretM2 C rfl dX11_find_29  (rm_i hF) (rm_m (W := fun m => WC D cA s0 z b m _) hF hw) hS (nb rfl) (nb rfl)
noncomputable def g_X11_count (ν : Mm) (a1 : Int32) : Option (Thr Int32) := bnd (g_X11_requireRange ν a1 (0 : Int32) (8 : Int32)) (fun q1 => bnx q1 (fun q3 => (if a1 = 0 then some (.ok (ν.1 7 5)) else (if a1 = 1 then some (.ok (ν.1 7 6)) else (if a1 = 2 then some (.ok (ν.1 7 7)) else (if a1 = 3 then some (.ok (ν.1 7 8)) else (if a1 = 4 then some (.ok (ν.1 7 9)) else (if a1 = 5 then some (.ok (ν.1 7 10)) else (if a1 = 6 then bnd (g_X5_present ν 7) (fun q11 => asr (isTar q11) (some (.ok (ν.1 q11 4)))) else (if a1 = 7 then bnd (g_X5_present ν 7) (fun q15 => asr (isTar q15) (some (.ok (ν.1 q15 5)))) else bnd (g_X5_pendingDays ν 7) (fun q18 => some (.ok q18))))))))))))
set_option maxRecDepth 20000 in
set_option maxHeartbeats 4000000 in
theorem k_X11_count (l : Launch) (D : va_G) (cA : Nat → ClassId) (s0 : State) (z : Nat) (b : Nat) (ν : Mm) (sz : Nat) (hG : xG l D cA s0) (a1 : Int32) (r : Thr Int32) (hF : g_X11_count ν a1 = some r) : vx_Met l yX11_count (wsG yX11_count cX11_count 2 (some (FieldType.int))) { frames := 9, cells := 1, slots := 6, locals := 175 } (xP D cA s0 [.ref (b + 0), .int a1] (fun H => H.size = sz ∧ WC D cA s0 z b ν H)) (xQt (fun q => (some (.int q))) (fun _ H => WC D cA s0 z b ν H) (xA b 2628 sz) r) (xXt (fun H => WC D cA s0 z b ν H) (xA b 2628 sz) r) 1 6 (xA b 2628 sz) := by
  refine t_start (z := z) (b := b) (ν := ν) (s0 := s0) (own := RX11) [(0, .ref (b + 0)), (1, .int a1)] rfl rfl (by decide) (nb rfl) ?_
  intro p e s m args below meth c C hX hw
  obtain ⟨hsz, hw⟩ := hw
  subst hsz
  have hS : va_S (xA b 2628 s.heap.size) s.heap s.heap [] := va_S.rf
  refine x_iload_n C dX11_count_0 rfl ?_
  refine x_iconst (0 : Int32) C dX11_count_1 rfl ?_
  refine x_bipush (8 : Int32) C dX11_count_2 rfl ?_
  obtain ⟨q1, hq2, hF⟩ := bnd_e hF
  refine t_goT (fun ls h => t_runS (As := [.int a1, .int (0 : Int32), .int (8 : Int32)]) [] h C ml_X11_76 (k_X11_requireRange l D cA s0 z b ν _ hG a1 (0 : Int32) (8 : Int32) q1 hq2) ⟨rfl, rfl, nb rfl, nb rfl⟩ rfl ⟨rfl, hw⟩ (nb rfl) ⟨nb rfl, nb rfl⟩ dX11_count_4) hF hS (xA_le hS) C hX (fun _ h => h) (nb rfl) (nb rfl) (fun q3 hF H locs hw hS => ?_)
  refine x_widen (k := 1) (n := 6) (nb rfl) (nb rfl) ?_
  have hw : WC D cA s0 z b ν H := hw
  refine x_iload_n C dX11_count_7 rfl ?_
  by_cases c4 : a1 = 0
  · have hF := ite_t hF c4
    refine x_tabIn 0 56 C dX11_count_8 (by rw [c4]; rfl) (by decide) (by decide) rfl (by decide) ?_
    refine x_aload_n C dX11_count_56 rfl ?_
    refine x_get (.ref (b + 7)) C fl_X11_24 (C_PD hw) rfl dX11_count_57 ?_
    refine x_get (.int (ν.1 7 5)) C fl_X11_90 (C_Led led7 hw) rfl dX11_count_60 ?_
    exact t_iret C rfl dX11_count_63  (rt_o hF) rfl hw hS (nb rfl) (nb rfl)
  · have hF := ite_f hF c4
    by_cases c5 : a1 = 1
    · have hF := ite_t hF c5
      refine x_tabIn 1 64 C dX11_count_8 (by rw [c5]; rfl) (by decide) (by decide) rfl (by decide) ?_
      refine x_aload_n C dX11_count_64 rfl ?_
      refine x_get (.ref (b + 7)) C fl_X11_24 (C_PD hw) rfl dX11_count_65 ?_
      refine x_get (.int (ν.1 7 6)) C fl_X11_103 (C_Led led7 hw) rfl dX11_count_68 ?_
      exact t_iret C rfl dX11_count_71  (rt_o hF) rfl hw hS (nb rfl) (nb rfl)
    · have hF := ite_f hF c5
      by_cases c6 : a1 = 2
      · have hF := ite_t hF c6
        refine x_tabIn 2 72 C dX11_count_8 (by rw [c6]; rfl) (by decide) (by decide) rfl (by decide) ?_
        refine x_aload_n C dX11_count_72 rfl ?_
        refine x_get (.ref (b + 7)) C fl_X11_24 (C_PD hw) rfl dX11_count_73 ?_
        refine x_get (.int (ν.1 7 7)) C fl_X11_106 (C_Led led7 hw) rfl dX11_count_76 ?_
        exact t_iret C rfl dX11_count_79  (rt_o hF) rfl hw hS (nb rfl) (nb rfl)
      · have hF := ite_f hF c6
        by_cases c7 : a1 = 3
        · have hF := ite_t hF c7
          refine x_tabIn 3 80 C dX11_count_8 (by rw [c7]; rfl) (by decide) (by decide) rfl (by decide) ?_
          refine x_aload_n C dX11_count_80 rfl ?_
          refine x_get (.ref (b + 7)) C fl_X11_24 (C_PD hw) rfl dX11_count_81 ?_
          refine x_get (.int (ν.1 7 8)) C fl_X11_109 (C_Led led7 hw) rfl dX11_count_84 ?_
          exact t_iret C rfl dX11_count_87  (rt_o hF) rfl hw hS (nb rfl) (nb rfl)
        · have hF := ite_f hF c7
          by_cases c8 : a1 = 4
          · have hF := ite_t hF c8
            refine x_tabIn 4 88 C dX11_count_8 (by rw [c8]; rfl) (by decide) (by decide) rfl (by decide) ?_
            refine x_aload_n C dX11_count_88 rfl ?_
            refine x_get (.ref (b + 7)) C fl_X11_24 (C_PD hw) rfl dX11_count_89 ?_
            refine x_get (.int (ν.1 7 9)) C fl_X11_112 (C_Led led7 hw) rfl dX11_count_92 ?_
            exact t_iret C rfl dX11_count_95  (rt_o hF) rfl hw hS (nb rfl) (nb rfl)
          · have hF := ite_f hF c8
            by_cases c9 : a1 = 5
            · have hF := ite_t hF c9
              refine x_tabIn 5 96 C dX11_count_8 (by rw [c9]; rfl) (by decide) (by decide) rfl (by decide) ?_
              refine x_aload_n C dX11_count_96 rfl ?_
              refine x_get (.ref (b + 7)) C fl_X11_24 (C_PD hw) rfl dX11_count_97 ?_
              refine x_get (.int (ν.1 7 10)) C fl_X11_115 (C_Led led7 hw) rfl dX11_count_100 ?_
              exact t_iret C rfl dX11_count_103  (rt_o hF) rfl hw hS (nb rfl) (nb rfl)
            · have hF := ite_f hF c9
              by_cases c10 : a1 = 6
              · have hF := ite_t hF c10
                refine x_tabIn 6 104 C dX11_count_8 (by rw [c10]; rfl) (by decide) (by decide) rfl (by decide) ?_
                refine x_aload_n C dX11_count_104 rfl ?_
                refine x_get (.ref (b + 7)) C fl_X11_24 (C_PD hw) rfl dX11_count_105 ?_
                obtain ⟨q11, hq12, hF⟩ := bnd_e hF
                refine x_goR (fun ls h => x_runV (As := []) [] h C ml_X11_118 (k_X5_present l D cA s0 z b ν hG 7 q11 hq12) ⟨rfl, rfl, nb rfl, nb rfl⟩ rfl (C_Led led7 hw) rfl hw (nb rfl) ⟨nb rfl, nb rfl⟩ dX11_count_108) ?_
                obtain ⟨h13, hF⟩ := asr_e hF
                refine x_get (.int (ν.1 q11 4)) C fl_X11_122 (C_Tar h13 hw) rfl dX11_count_111 ?_
                exact t_iret C rfl dX11_count_114  (rt_o hF) rfl hw hS (nb rfl) (nb rfl)
              · have hF := ite_f hF c10
                by_cases c14 : a1 = 7
                · have hF := ite_t hF c14
                  refine x_tabIn 7 115 C dX11_count_8 (by rw [c14]; rfl) (by decide) (by decide) rfl (by decide) ?_
                  refine x_aload_n C dX11_count_115 rfl ?_
                  refine x_get (.ref (b + 7)) C fl_X11_24 (C_PD hw) rfl dX11_count_116 ?_
                  obtain ⟨q15, hq16, hF⟩ := bnd_e hF
                  refine x_goR (fun ls h => x_runV (As := []) [] h C ml_X11_118 (k_X5_present l D cA s0 z b ν hG 7 q15 hq16) ⟨rfl, rfl, nb rfl, nb rfl⟩ rfl (C_Led led7 hw) rfl hw (nb rfl) ⟨nb rfl, nb rfl⟩ dX11_count_119) ?_
                  obtain ⟨h17, hF⟩ := asr_e hF
                  refine x_get (.int (ν.1 q15 5)) C fl_X11_127 (C_Tar h17 hw) rfl dX11_count_122 ?_
                  exact t_iret C rfl dX11_count_125  (rt_o hF) rfl hw hS (nb rfl) (nb rfl)
                · have hF := ite_f hF c14
                  have t20 : a1.toInt ≠ 0 := fun z => c4 ((fa_eqI _ _).mpr z)
                  have t21 : a1.toInt ≠ 1 := fun z => c5 ((fa_eqI _ _).mpr z)
                  have t22 : a1.toInt ≠ 2 := fun z => c6 ((fa_eqI _ _).mpr z)
                  have t23 : a1.toInt ≠ 3 := fun z => c7 ((fa_eqI _ _).mpr z)
                  have t24 : a1.toInt ≠ 4 := fun z => c8 ((fa_eqI _ _).mpr z)
                  have t25 : a1.toInt ≠ 5 := fun z => c9 ((fa_eqI _ _).mpr z)
                  have t26 : a1.toInt ≠ 6 := fun z => c10 ((fa_eqI _ _).mpr z)
                  have t27 : a1.toInt ≠ 7 := fun z => c14 ((fa_eqI _ _).mpr z)
                  refine x_tabOut 126 C dX11_count_8 (by omega) (by decide) ?_
                  refine x_aload_n C dX11_count_126 rfl ?_
                  refine x_get (.ref (b + 7)) C fl_X11_24 (C_PD hw) rfl dX11_count_127 ?_
                  obtain ⟨q18, hq19, hF⟩ := bnd_e hF
                  refine x_goR (fun ls h => x_runV (As := []) [] h C ml_X11_130 (k_X5_pendingDays l D cA s0 z b ν hG 7 q18 hq19) ⟨rfl, rfl, nb rfl, nb rfl⟩ rfl (C_Led led7 hw) rfl hw (nb rfl) ⟨nb rfl, nb rfl⟩ dX11_count_130) ?_
                  exact t_iret C rfl dX11_count_133  (rt_o hF) rfl hw hS (nb rfl) (nb rfl)
noncomputable def g_X11_tariff (ν : Mm) (a1 : Int32) : Option (Thr Int32) := bnd (g_X11_requireRange ν a1 (0 : Int32) (5 : Int32)) (fun q1 => bnx q1 (fun q3 => bnd (g_X5_present ν 7) (fun q4 => asr (isTar q4) ((if a1 = 0 then (if (ν.1 q4 6) = 0 then some (.ok (0 : Int32)) else some (.ok (1 : Int32))) else (if a1 = 1 then some (.ok (ν.1 q4 7)) else (if a1 = 2 then some (.ok (ν.1 q4 8)) else (if a1 = 3 then some (.ok (ν.1 q4 9)) else (if a1 = 4 then some (.ok (ν.1 q4 10)) else some (.ok (ν.1 q4 11)))))))))))
set_option maxRecDepth 20000 in
set_option maxHeartbeats 4000000 in
theorem k_X11_tariff (l : Launch) (D : va_G) (cA : Nat → ClassId) (s0 : State) (z : Nat) (b : Nat) (ν : Mm) (sz : Nat) (hG : xG l D cA s0) (a1 : Int32) (r : Thr Int32) (hF : g_X11_tariff ν a1 = some r) : vx_Met l yX11_tariff (wsG yX11_tariff cX11_tariff 3 (some (FieldType.int))) { frames := 9, cells := 1, slots := 6, locals := 175 } (xP D cA s0 [.ref (b + 0), .int a1] (fun H => H.size = sz ∧ WC D cA s0 z b ν H)) (xQt (fun q => (some (.int q))) (fun _ H => WC D cA s0 z b ν H) (xA b 2628 sz) r) (xXt (fun H => WC D cA s0 z b ν H) (xA b 2628 sz) r) 1 6 (xA b 2628 sz) := by
  refine t_start (z := z) (b := b) (ν := ν) (s0 := s0) (own := RX11) [(0, .ref (b + 0)), (1, .int a1)] rfl rfl (by decide) (nb rfl) ?_
  intro p e s m args below meth c C hX hw
  obtain ⟨hsz, hw⟩ := hw
  subst hsz
  have hS : va_S (xA b 2628 s.heap.size) s.heap s.heap [] := va_S.rf
  refine x_iload_n C dX11_tariff_0 rfl ?_
  refine x_iconst (0 : Int32) C dX11_tariff_1 rfl ?_
  refine x_iconst (5 : Int32) C dX11_tariff_2 rfl ?_
  obtain ⟨q1, hq2, hF⟩ := bnd_e hF
  refine t_goT (fun ls h => t_runS (As := [.int a1, .int (0 : Int32), .int (5 : Int32)]) [] h C ml_X11_76 (k_X11_requireRange l D cA s0 z b ν _ hG a1 (0 : Int32) (5 : Int32) q1 hq2) ⟨rfl, rfl, nb rfl, nb rfl⟩ rfl ⟨rfl, hw⟩ (nb rfl) ⟨nb rfl, nb rfl⟩ dX11_tariff_3) hF hS (xA_le hS) C hX (fun _ h => h) (nb rfl) (nb rfl) (fun q3 hF H locs hw hS => ?_)
  refine x_widen (k := 1) (n := 6) (nb rfl) (nb rfl) ?_
  have hw : WC D cA s0 z b ν H := hw
  refine x_aload_n C dX11_tariff_6 rfl ?_
  refine x_get (.ref (b + 7)) C fl_X11_24 (C_PD hw) rfl dX11_tariff_7 ?_
  obtain ⟨q4, hq5, hF⟩ := bnd_e hF
  refine x_goR (fun ls h => x_runV (As := []) [] h C ml_X11_118 (k_X5_present l D cA s0 z b ν hG 7 q4 hq5) ⟨rfl, rfl, nb rfl, nb rfl⟩ rfl (C_Led led7 hw) rfl hw (nb rfl) ⟨nb rfl, nb rfl⟩ dX11_tariff_10) ?_
  obtain ⟨h6, hF⟩ := asr_e hF
  refine x_astore_n [(2, .ref (b + q4)), (0, .ref (b + 0)), (1, .int a1)] C dX11_tariff_13 rfl (by decide) rfl ?_
  refine x_iload_n C dX11_tariff_14 rfl ?_
  by_cases c7 : a1 = 0
  · have hF := ite_t hF c7
    refine x_tabIn 0 48 C dX11_tariff_15 (by rw [c7]; rfl) (by decide) (by decide) rfl (by decide) ?_
    refine x_aload_n C dX11_tariff_48 rfl ?_
    refine x_get (.int (ν.1 q4 6)) C fl_X11_134 (C_Tar h6 hw) rfl dX11_tariff_49 ?_
    refine x_if_eq 59 C dX11_tariff_52 (by decide) (fun c8 => ?_) (fun c8 => ?_)
    · have hF := ite_t hF c8
      refine x_iconst (0 : Int32) C dX11_tariff_59 rfl ?_
      exact t_iret C rfl dX11_tariff_60  (rt_o hF) rfl hw hS (nb rfl) (nb rfl)
    · have hF := ite_f hF c8
      refine x_iconst (1 : Int32) C dX11_tariff_55 rfl ?_
      refine x_goto 60 C dX11_tariff_56 (by decide) ?_
      exact t_iret C rfl dX11_tariff_60  (rt_o hF) rfl hw hS (nb rfl) (nb rfl)
  · have hF := ite_f hF c7
    by_cases c9 : a1 = 1
    · have hF := ite_t hF c9
      refine x_tabIn 1 61 C dX11_tariff_15 (by rw [c9]; rfl) (by decide) (by decide) rfl (by decide) ?_
      refine x_aload_n C dX11_tariff_61 rfl ?_
      refine x_get (.int (ν.1 q4 7)) C fl_X11_138 (C_Tar h6 hw) rfl dX11_tariff_62 ?_
      exact t_iret C rfl dX11_tariff_65  (rt_o hF) rfl hw hS (nb rfl) (nb rfl)
    · have hF := ite_f hF c9
      by_cases c10 : a1 = 2
      · have hF := ite_t hF c10
        refine x_tabIn 2 66 C dX11_tariff_15 (by rw [c10]; rfl) (by decide) (by decide) rfl (by decide) ?_
        refine x_aload_n C dX11_tariff_66 rfl ?_
        refine x_get (.int (ν.1 q4 8)) C fl_X11_141 (C_Tar h6 hw) rfl dX11_tariff_67 ?_
        exact t_iret C rfl dX11_tariff_70  (rt_o hF) rfl hw hS (nb rfl) (nb rfl)
      · have hF := ite_f hF c10
        by_cases c11 : a1 = 3
        · have hF := ite_t hF c11
          refine x_tabIn 3 71 C dX11_tariff_15 (by rw [c11]; rfl) (by decide) (by decide) rfl (by decide) ?_
          refine x_aload_n C dX11_tariff_71 rfl ?_
          refine x_get (.int (ν.1 q4 9)) C fl_X11_144 (C_Tar h6 hw) rfl dX11_tariff_72 ?_
          exact t_iret C rfl dX11_tariff_75  (rt_o hF) rfl hw hS (nb rfl) (nb rfl)
        · have hF := ite_f hF c11
          by_cases c12 : a1 = 4
          · have hF := ite_t hF c12
            refine x_tabIn 4 76 C dX11_tariff_15 (by rw [c12]; rfl) (by decide) (by decide) rfl (by decide) ?_
            refine x_aload_n C dX11_tariff_76 rfl ?_
            refine x_get (.int (ν.1 q4 10)) C fl_X11_147 (C_Tar h6 hw) rfl dX11_tariff_77 ?_
            exact t_iret C rfl dX11_tariff_80  (rt_o hF) rfl hw hS (nb rfl) (nb rfl)
          · have hF := ite_f hF c12
            have t13 : a1.toInt ≠ 0 := fun z => c7 ((fa_eqI _ _).mpr z)
            have t14 : a1.toInt ≠ 1 := fun z => c9 ((fa_eqI _ _).mpr z)
            have t15 : a1.toInt ≠ 2 := fun z => c10 ((fa_eqI _ _).mpr z)
            have t16 : a1.toInt ≠ 3 := fun z => c11 ((fa_eqI _ _).mpr z)
            have t17 : a1.toInt ≠ 4 := fun z => c12 ((fa_eqI _ _).mpr z)
            refine x_tabOut 81 C dX11_tariff_15 (by omega) (by decide) ?_
            refine x_aload_n C dX11_tariff_81 rfl ?_
            refine x_get (.int (ν.1 q4 11)) C fl_X11_150 (C_Tar h6 hw) rfl dX11_tariff_82 ?_
            exact t_iret C rfl dX11_tariff_85  (rt_o hF) rfl hw hS (nb rfl) (nb rfl)
noncomputable def g_X11_requireIndex (ν : Mm) (a1 : Int32) (a2 : Int32) : Option (Thr Unit) := (if a1 < 0 then some (.error 1) else (if a1 < a2 then some (.ok ()) else some (.error 1)))
set_option maxRecDepth 20000 in
set_option maxHeartbeats 4000000 in
theorem k_X11_requireIndex (l : Launch) (D : va_G) (cA : Nat → ClassId) (s0 : State) (z : Nat) (b : Nat) (ν : Mm) (sz : Nat) (hG : xG l D cA s0) (a1 : Int32) (a2 : Int32) (r : Thr Unit) (hF : g_X11_requireIndex ν a1 a2 = some r) : vx_Met l yX11_requireIndex (wsG yX11_requireIndex cX11_requireIndex 2 none) { frames := 7, cells := 1, slots := 6, locals := 133 } (xP D cA s0 [.int a1, .int a2] (fun H => H.size = sz ∧ WC D cA s0 z b ν H)) (xQt (fun q => none) (fun _ H => WC D cA s0 z b ν H) (xA b 2628 sz) r) (xXt (fun H => WC D cA s0 z b ν H) (xA b 2628 sz) r) 1 6 (xA b 2628 sz) := by
  refine t_start (z := z) (b := b) (ν := ν) (s0 := s0) (own := RX11) [(0, .int a1), (1, .int a2)] rfl rfl (by decide) (nb rfl) ?_
  intro p e s m args below meth c C hX hw
  obtain ⟨hsz, hw⟩ := hw
  subst hsz
  have hS : va_S (xA b 2628 s.heap.size) s.heap s.heap [] := va_S.rf
  refine x_iload_n C dX11_requireIndex_0 rfl ?_
  refine x_if_lt 9 C dX11_requireIndex_1 (by decide) (fun c1 => ?_) (fun c1 => ?_)
  · have hF := ite_t hF c1
    exact t_throwW (k := 1) (ik := 408) (is := 410) (ic := 412) hG.1 hG.2.1 hw hS C hX (by decide +kernel) (rt_x hF) hG.2.1.2.2.2.1 thr_k1 thr_i1 thr_at1 dX11_requireIndex_9 dX11_requireIndex_12 dX11_requireIndex_13 dX11_requireIndex_16 dX11_requireIndex_19 (nb rfl) (nb rfl) (nb rfl) (nb rfl) (nb rfl) (nb rfl)
  · have hF := ite_f hF c1
    refine x_iload_n C dX11_requireIndex_4 rfl ?_
    refine x_iload_n C dX11_requireIndex_5 rfl ?_
    refine x_icmp_lt 20 C dX11_requireIndex_6 (by decide) (fun c2 => ?_) (fun c2 => ?_)
    · have hF := ite_t hF c2
      exact t_vret C rfl dX11_requireIndex_20 (rt_o hF) rfl hw hS (nb rfl) (nb rfl)
    · have hF := ite_f hF c2
      exact t_throwW (k := 1) (ik := 408) (is := 410) (ic := 412) hG.1 hG.2.1 hw hS C hX (by decide +kernel) (rt_x hF) hG.2.1.2.2.2.1 thr_k1 thr_i1 thr_at1 dX11_requireIndex_9 dX11_requireIndex_12 dX11_requireIndex_13 dX11_requireIndex_16 dX11_requireIndex_19 (nb rfl) (nb rfl) (nb rfl) (nb rfl) (nb rfl) (nb rfl)
noncomputable def g_X11_band (ν : Mm) (a1 : Int32) (a2 : Int32) : Option (Thr Int32) := bnd (g_X5_present ν 7) (fun q1 => asr (isTar q1) (bnd (g_X11_requireIndex ν a1 (ν.1 q1 4)) (fun q4 => bnx q4 (fun q6 => bnd (g_X11_requireRange ν a2 (0 : Int32) (1 : Int32)) (fun q7 => bnx q7 (fun q9 => (if a2 = 0 then asr (vp_in a1 6) (some (.ok (ν.1 (q1 + 1) (cl a1)))) else asr (vp_in a1 6) (some (.ok (ν.1 (q1 + 2) (cl a1)))))))))))
set_option maxRecDepth 20000 in
set_option maxHeartbeats 4000000 in
theorem k_X11_band (l : Launch) (D : va_G) (cA : Nat → ClassId) (s0 : State) (z : Nat) (b : Nat) (ν : Mm) (sz : Nat) (hG : xG l D cA s0) (a1 : Int32) (a2 : Int32) (r : Thr Int32) (hF : g_X11_band ν a1 a2 = some r) : vx_Met l yX11_band (wsG yX11_band cX11_band 4 (some (FieldType.int))) { frames := 9, cells := 2, slots := 12, locals := 175 } (xP D cA s0 [.ref (b + 0), .int a1, .int a2] (fun H => H.size = sz ∧ WC D cA s0 z b ν H)) (xQt (fun q => (some (.int q))) (fun _ H => WC D cA s0 z b ν H) (xA b 2628 sz) r) (xXt (fun H => WC D cA s0 z b ν H) (xA b 2628 sz) r) 2 12 (xA b 2628 sz) := by
  refine t_start (z := z) (b := b) (ν := ν) (s0 := s0) (own := RX11) [(0, .ref (b + 0)), (1, .int a1), (2, .int a2)] rfl rfl (by decide) (nb rfl) ?_
  intro p e s m args below meth c C hX hw
  obtain ⟨hsz, hw⟩ := hw
  subst hsz
  have hS : va_S (xA b 2628 s.heap.size) s.heap s.heap [] := va_S.rf
  refine x_aload_n C dX11_band_0 rfl ?_
  refine x_get (.ref (b + 7)) C fl_X11_24 (C_PD hw) rfl dX11_band_1 ?_
  obtain ⟨q1, hq2, hF⟩ := bnd_e hF
  refine x_goR (fun ls h => x_runV (As := []) [] h C ml_X11_118 (k_X5_present l D cA s0 z b ν hG 7 q1 hq2) ⟨rfl, rfl, nb rfl, nb rfl⟩ rfl (C_Led led7 hw) rfl hw (nb rfl) ⟨Nat.zero_le _, Nat.zero_le _⟩ dX11_band_4) ?_
  obtain ⟨h3, hF⟩ := asr_e hF
  refine x_astore_n [(3, .ref (b + q1)), (0, .ref (b + 0)), (1, .int a1), (2, .int a2)] C dX11_band_7 rfl (by decide) rfl ?_
  refine x_iload_n C dX11_band_8 rfl ?_
  refine x_aload_n C dX11_band_9 rfl ?_
  refine x_get (.int (ν.1 q1 4)) C fl_X11_122 (C_Tar h3 hw) rfl dX11_band_10 ?_
  obtain ⟨q4, hq5, hF⟩ := bnd_e hF
  refine t_goT (fun ls h => t_runS (As := [.int a1, .int (ν.1 q1 4)]) [] h C ml_X11_153 (k_X11_requireIndex l D cA s0 z b ν _ hG a1 (ν.1 q1 4) q4 hq5) ⟨rfl, rfl, nb rfl, nb rfl⟩ rfl ⟨rfl, hw⟩ (nb rfl) ⟨nb rfl, nb rfl⟩ dX11_band_13) hF hS (xA_le hS) C hX (fun _ h => h) (nb rfl) (nb rfl) (fun q6 hF H locs hw hS => ?_)
  refine x_widen (k := 1) (n := 6) (nb rfl) (nb rfl) ?_
  have hw : WC D cA s0 z b ν H := hw
  refine x_iload_n C dX11_band_16 rfl ?_
  refine x_iconst (0 : Int32) C dX11_band_17 rfl ?_
  refine x_iconst (1 : Int32) C dX11_band_18 rfl ?_
  obtain ⟨q7, hq8, hF⟩ := bnd_e hF
  refine t_goT (fun ls h => t_runS (As := [.int a2, .int (0 : Int32), .int (1 : Int32)]) [] h C ml_X11_76 (k_X11_requireRange l D cA s0 z b ν _ hG a2 (0 : Int32) (1 : Int32) q7 hq8) ⟨rfl, rfl, nb rfl, nb rfl⟩ rfl ⟨rfl, hw⟩ (nb rfl) ⟨nb rfl, nb rfl⟩ dX11_band_19) hF hS (xA_le hS) C hX (fun _ h => h) (nb rfl) (nb rfl) (fun q9 hF H locs hw hS => ?_)
  refine x_widen (k := 2) (n := 12) (nb rfl) (nb rfl) ?_
  have hw : WC D cA s0 z b ν H := hw
  refine x_iload_n C dX11_band_22 rfl ?_
  refine x_if_ne 35 C dX11_band_23 (by decide) (fun c10 => ?_) (fun c10 => ?_)
  · have hF := ite_f hF c10
    refine x_aload_n C dX11_band_35 rfl ?_
    refine x_get (.ref (b + (q1 + 2))) C fl_X11_161 (C_Tar h3 hw) rfl dX11_band_36 ?_
    refine x_iload_n C dX11_band_39 rfl ?_
    obtain ⟨h11, hF⟩ := asr_e hF
    obtain ⟨hn12, hl13⟩ := vpn h11 (by decide)
    refine x_ialdN C (C_bandRate h3 hw) hn12 hl13 (by decide) dX11_band_40 ?_
    exact t_iret C rfl dX11_band_41  (rt_o hF) rfl hw hS (nb rfl) (nb rfl)
  · have hF := ite_t hF c10
    refine x_aload_n C dX11_band_26 rfl ?_
    refine x_get (.ref (b + (q1 + 1))) C fl_X11_157 (C_Tar h3 hw) rfl dX11_band_27 ?_
    refine x_iload_n C dX11_band_30 rfl ?_
    obtain ⟨h14, hF⟩ := asr_e hF
    obtain ⟨hn15, hl16⟩ := vpn h14 (by decide)
    refine x_ialdN C (C_bandFrom h3 hw) hn15 hl16 (by decide) dX11_band_31 ?_
    refine x_goto 41 C dX11_band_32 (by decide) ?_
    exact t_iret C rfl dX11_band_41  (rt_o hF) rfl hw hS (nb rfl) (nb rfl)
noncomputable def g_X11_rebate (ν : Mm) (a1 : Int32) (a2 : Int32) : Option (Thr Int32) := bnd (g_X5_present ν 7) (fun q1 => asr (isTar q1) (bnd (g_X11_requireIndex ν a1 (ν.1 q1 5)) (fun q4 => bnx q4 (fun q6 => bnd (g_X11_requireRange ν a2 (0 : Int32) (1 : Int32)) (fun q7 => bnx q7 (fun q9 => (if a2 = 0 then asr (vp_in a1 4) (some (.ok (ν.1 (q1 + 3) (cl a1)))) else asr (vp_in a1 4) (some (.ok (ν.1 (q1 + 4) (cl a1)))))))))))
set_option maxRecDepth 20000 in
set_option maxHeartbeats 4000000 in
theorem k_X11_rebate (l : Launch) (D : va_G) (cA : Nat → ClassId) (s0 : State) (z : Nat) (b : Nat) (ν : Mm) (sz : Nat) (hG : xG l D cA s0) (a1 : Int32) (a2 : Int32) (r : Thr Int32) (hF : g_X11_rebate ν a1 a2 = some r) : vx_Met l yX11_rebate (wsG yX11_rebate cX11_rebate 4 (some (FieldType.int))) { frames := 9, cells := 2, slots := 12, locals := 175 } (xP D cA s0 [.ref (b + 0), .int a1, .int a2] (fun H => H.size = sz ∧ WC D cA s0 z b ν H)) (xQt (fun q => (some (.int q))) (fun _ H => WC D cA s0 z b ν H) (xA b 2628 sz) r) (xXt (fun H => WC D cA s0 z b ν H) (xA b 2628 sz) r) 2 12 (xA b 2628 sz) := by
  refine t_start (z := z) (b := b) (ν := ν) (s0 := s0) (own := RX11) [(0, .ref (b + 0)), (1, .int a1), (2, .int a2)] rfl rfl (by decide) (nb rfl) ?_
  intro p e s m args below meth c C hX hw
  obtain ⟨hsz, hw⟩ := hw
  subst hsz
  have hS : va_S (xA b 2628 s.heap.size) s.heap s.heap [] := va_S.rf
  refine x_aload_n C dX11_rebate_0 rfl ?_
  refine x_get (.ref (b + 7)) C fl_X11_24 (C_PD hw) rfl dX11_rebate_1 ?_
  obtain ⟨q1, hq2, hF⟩ := bnd_e hF
  refine x_goR (fun ls h => x_runV (As := []) [] h C ml_X11_118 (k_X5_present l D cA s0 z b ν hG 7 q1 hq2) ⟨rfl, rfl, nb rfl, nb rfl⟩ rfl (C_Led led7 hw) rfl hw (nb rfl) ⟨Nat.zero_le _, Nat.zero_le _⟩ dX11_rebate_4) ?_
  obtain ⟨h3, hF⟩ := asr_e hF
  refine x_astore_n [(3, .ref (b + q1)), (0, .ref (b + 0)), (1, .int a1), (2, .int a2)] C dX11_rebate_7 rfl (by decide) rfl ?_
  refine x_iload_n C dX11_rebate_8 rfl ?_
  refine x_aload_n C dX11_rebate_9 rfl ?_
  refine x_get (.int (ν.1 q1 5)) C fl_X11_127 (C_Tar h3 hw) rfl dX11_rebate_10 ?_
  obtain ⟨q4, hq5, hF⟩ := bnd_e hF
  refine t_goT (fun ls h => t_runS (As := [.int a1, .int (ν.1 q1 5)]) [] h C ml_X11_153 (k_X11_requireIndex l D cA s0 z b ν _ hG a1 (ν.1 q1 5) q4 hq5) ⟨rfl, rfl, nb rfl, nb rfl⟩ rfl ⟨rfl, hw⟩ (nb rfl) ⟨nb rfl, nb rfl⟩ dX11_rebate_13) hF hS (xA_le hS) C hX (fun _ h => h) (nb rfl) (nb rfl) (fun q6 hF H locs hw hS => ?_)
  refine x_widen (k := 1) (n := 6) (nb rfl) (nb rfl) ?_
  have hw : WC D cA s0 z b ν H := hw
  refine x_iload_n C dX11_rebate_16 rfl ?_
  refine x_iconst (0 : Int32) C dX11_rebate_17 rfl ?_
  refine x_iconst (1 : Int32) C dX11_rebate_18 rfl ?_
  obtain ⟨q7, hq8, hF⟩ := bnd_e hF
  refine t_goT (fun ls h => t_runS (As := [.int a2, .int (0 : Int32), .int (1 : Int32)]) [] h C ml_X11_76 (k_X11_requireRange l D cA s0 z b ν _ hG a2 (0 : Int32) (1 : Int32) q7 hq8) ⟨rfl, rfl, nb rfl, nb rfl⟩ rfl ⟨rfl, hw⟩ (nb rfl) ⟨nb rfl, nb rfl⟩ dX11_rebate_19) hF hS (xA_le hS) C hX (fun _ h => h) (nb rfl) (nb rfl) (fun q9 hF H locs hw hS => ?_)
  refine x_widen (k := 2) (n := 12) (nb rfl) (nb rfl) ?_
  have hw : WC D cA s0 z b ν H := hw
  refine x_iload_n C dX11_rebate_22 rfl ?_
  refine x_if_ne 35 C dX11_rebate_23 (by decide) (fun c10 => ?_) (fun c10 => ?_)
  · have hF := ite_f hF c10
    refine x_aload_n C dX11_rebate_35 rfl ?_
    refine x_get (.ref (b + (q1 + 4))) C fl_X11_167 (C_Tar h3 hw) rfl dX11_rebate_36 ?_
    refine x_iload_n C dX11_rebate_39 rfl ?_
    obtain ⟨h11, hF⟩ := asr_e hF
    obtain ⟨hn12, hl13⟩ := vpn h11 (by decide)
    refine x_ialdN C (C_rebatePercent h3 hw) hn12 hl13 (by decide) dX11_rebate_40 ?_
    exact t_iret C rfl dX11_rebate_41  (rt_o hF) rfl hw hS (nb rfl) (nb rfl)
  · have hF := ite_t hF c10
    refine x_aload_n C dX11_rebate_26 rfl ?_
    refine x_get (.ref (b + (q1 + 3))) C fl_X11_164 (C_Tar h3 hw) rfl dX11_rebate_27 ?_
    refine x_iload_n C dX11_rebate_30 rfl ?_
    obtain ⟨h14, hF⟩ := asr_e hF
    obtain ⟨hn15, hl16⟩ := vpn h14 (by decide)
    refine x_ialdN C (C_rebateFrom h3 hw) hn15 hl16 (by decide) dX11_rebate_31 ?_
    refine x_goto 41 C dX11_rebate_32 (by decide) ?_
    exact t_iret C rfl dX11_rebate_41  (rt_o hF) rfl hw hS (nb rfl) (nb rfl)
noncomputable def g_X11_bandOf (ν : Mm) (a1 : Int32) : Option (Thr Int32) := bnd (g_X11_requireRange ν a1 (0 : Int32) (9999 : Int32)) (fun q1 => bnx q1 (fun q3 => bnd (g_X5_present ν 7) (fun q4 => asr (isTar q4) (bnd (g_X10_bandWith ν q4 a1) (fun q7 => some (.ok q7))))))
set_option maxRecDepth 20000 in
set_option maxHeartbeats 4000000 in
theorem k_X11_bandOf (l : Launch) (D : va_G) (cA : Nat → ClassId) (s0 : State) (z : Nat) (b : Nat) (ν : Mm) (sz : Nat) (hG : xG l D cA s0) (a1 : Int32) (r : Thr Int32) (hF : g_X11_bandOf ν a1 = some r) : vx_Met l yX11_bandOf (wsG yX11_bandOf cX11_bandOf 2 (some (FieldType.int))) { frames := 9, cells := 1, slots := 6, locals := 175 } (xP D cA s0 [.ref (b + 0), .int a1] (fun H => H.size = sz ∧ WC D cA s0 z b ν H)) (xQt (fun q => (some (.int q))) (fun _ H => WC D cA s0 z b ν H) (xA b 2628 sz) r) (xXt (fun H => WC D cA s0 z b ν H) (xA b 2628 sz) r) 1 6 (xA b 2628 sz) := by
  refine t_start (z := z) (b := b) (ν := ν) (s0 := s0) (own := RX11) [(0, .ref (b + 0)), (1, .int a1)] rfl rfl (by decide) (nb rfl) ?_
  intro p e s m args below meth c C hX hw
  obtain ⟨hsz, hw⟩ := hw
  subst hsz
  have hS : va_S (xA b 2628 s.heap.size) s.heap s.heap [] := va_S.rf
  refine x_iload_n C dX11_bandOf_0 rfl ?_
  refine x_iconst (0 : Int32) C dX11_bandOf_1 rfl ?_
  refine x_sipush (9999 : Int32) C dX11_bandOf_2 rfl ?_
  obtain ⟨q1, hq2, hF⟩ := bnd_e hF
  refine t_goT (fun ls h => t_runS (As := [.int a1, .int (0 : Int32), .int (9999 : Int32)]) [] h C ml_X11_76 (k_X11_requireRange l D cA s0 z b ν _ hG a1 (0 : Int32) (9999 : Int32) q1 hq2) ⟨rfl, rfl, nb rfl, nb rfl⟩ rfl ⟨rfl, hw⟩ (nb rfl) ⟨nb rfl, nb rfl⟩ dX11_bandOf_5) hF hS (xA_le hS) C hX (fun _ h => h) (nb rfl) (nb rfl) (fun q3 hF H locs hw hS => ?_)
  refine x_widen (k := 1) (n := 6) (nb rfl) (nb rfl) ?_
  have hw : WC D cA s0 z b ν H := hw
  refine x_aload_n C dX11_bandOf_8 rfl ?_
  refine x_get (.ref (b + 7)) C fl_X11_24 (C_PD hw) rfl dX11_bandOf_9 ?_
  obtain ⟨q4, hq5, hF⟩ := bnd_e hF
  refine x_goR (fun ls h => x_runV (As := []) [] h C ml_X11_118 (k_X5_present l D cA s0 z b ν hG 7 q4 hq5) ⟨rfl, rfl, nb rfl, nb rfl⟩ rfl (C_Led led7 hw) rfl hw (nb rfl) ⟨nb rfl, nb rfl⟩ dX11_bandOf_12) ?_
  obtain ⟨h6, hF⟩ := asr_e hF
  refine x_iload_n C dX11_bandOf_15 rfl ?_
  obtain ⟨q7, hq8, hF⟩ := bnd_e hF
  refine x_goR (fun ls h => x_runV (As := [.int a1]) [] h C ml_X11_170 (k_X10_bandWith l D cA s0 z b ν hG q4 a1 q7 hq8) ⟨rfl, rfl, nb rfl, nb rfl⟩ rfl (C_Tar h6 hw) rfl hw (nb rfl) ⟨nb rfl, nb rfl⟩ dX11_bandOf_16) ?_
  exact t_iret C rfl dX11_bandOf_19  (rt_o hF) rfl hw hS (nb rfl) (nb rfl)
noncomputable def g_X11_dues (ν : Mm) (a1 : Int32) : Option (Thr Int32) := bnd (g_X11_requireRange ν a1 (0 : Int32) (9999 : Int32)) (fun q1 => bnx q1 (fun q3 => bnd (g_X5_present ν 7) (fun q4 => asr (isTar q4) (bnd (g_X10_duesFor ν q4 a1) (fun q7 => some (.ok q7))))))
set_option maxRecDepth 20000 in
set_option maxHeartbeats 4000000 in
theorem k_X11_dues (l : Launch) (D : va_G) (cA : Nat → ClassId) (s0 : State) (z : Nat) (b : Nat) (ν : Mm) (sz : Nat) (hG : xG l D cA s0) (a1 : Int32) (r : Thr Int32) (hF : g_X11_dues ν a1 = some r) : vx_Met l yX11_dues (wsG yX11_dues cX11_dues 2 (some (FieldType.int))) { frames := 9, cells := 1, slots := 6, locals := 175 } (xP D cA s0 [.ref (b + 0), .int a1] (fun H => H.size = sz ∧ WC D cA s0 z b ν H)) (xQt (fun q => (some (.int q))) (fun _ H => WC D cA s0 z b ν H) (xA b 2628 sz) r) (xXt (fun H => WC D cA s0 z b ν H) (xA b 2628 sz) r) 1 6 (xA b 2628 sz) := by
  refine t_start (z := z) (b := b) (ν := ν) (s0 := s0) (own := RX11) [(0, .ref (b + 0)), (1, .int a1)] rfl rfl (by decide) (nb rfl) ?_
  intro p e s m args below meth c C hX hw
  obtain ⟨hsz, hw⟩ := hw
  subst hsz
  have hS : va_S (xA b 2628 s.heap.size) s.heap s.heap [] := va_S.rf
  refine x_iload_n C dX11_dues_0 rfl ?_
  refine x_iconst (0 : Int32) C dX11_dues_1 rfl ?_
  refine x_sipush (9999 : Int32) C dX11_dues_2 rfl ?_
  obtain ⟨q1, hq2, hF⟩ := bnd_e hF
  refine t_goT (fun ls h => t_runS (As := [.int a1, .int (0 : Int32), .int (9999 : Int32)]) [] h C ml_X11_76 (k_X11_requireRange l D cA s0 z b ν _ hG a1 (0 : Int32) (9999 : Int32) q1 hq2) ⟨rfl, rfl, nb rfl, nb rfl⟩ rfl ⟨rfl, hw⟩ (nb rfl) ⟨nb rfl, nb rfl⟩ dX11_dues_5) hF hS (xA_le hS) C hX (fun _ h => h) (nb rfl) (nb rfl) (fun q3 hF H locs hw hS => ?_)
  refine x_widen (k := 1) (n := 6) (nb rfl) (nb rfl) ?_
  have hw : WC D cA s0 z b ν H := hw
  refine x_aload_n C dX11_dues_8 rfl ?_
  refine x_get (.ref (b + 7)) C fl_X11_24 (C_PD hw) rfl dX11_dues_9 ?_
  obtain ⟨q4, hq5, hF⟩ := bnd_e hF
  refine x_goR (fun ls h => x_runV (As := []) [] h C ml_X11_118 (k_X5_present l D cA s0 z b ν hG 7 q4 hq5) ⟨rfl, rfl, nb rfl, nb rfl⟩ rfl (C_Led led7 hw) rfl hw (nb rfl) ⟨nb rfl, nb rfl⟩ dX11_dues_12) ?_
  obtain ⟨h6, hF⟩ := asr_e hF
  refine x_iload_n C dX11_dues_15 rfl ?_
  obtain ⟨q7, hq8, hF⟩ := bnd_e hF
  refine x_goR (fun ls h => x_runV (As := [.int a1]) [] h C ml_X11_174 (k_X10_duesFor l D cA s0 z b ν hG q4 a1 q7 hq8) ⟨rfl, rfl, nb rfl, nb rfl⟩ rfl (C_Tar h6 hw) rfl hw (nb rfl) ⟨nb rfl, nb rfl⟩ dX11_dues_16) ?_
  exact t_iret C rfl dX11_dues_19  (rt_o hF) rfl hw hS (nb rfl) (nb rfl)
noncomputable def g_X11_tonsIn (ν : Mm) (a1 : Int32) (a2 : Int32) : Option (Thr Int32) := bnd (g_X5_present ν 7) (fun q1 => asr (isTar q1) (bnd (g_X11_requireIndex ν a2 (ν.1 q1 4)) (fun q4 => bnx q4 (fun q6 => bnd (g_X11_requireRange ν a1 (0 : Int32) (9999 : Int32)) (fun q7 => bnx q7 (fun q9 => bnd (g_X5_present ν 7) (fun q10 => asr (isTar q10) (bnd (g_X10_tonsWithin ν q10 a1 a2) (fun q13 => some (.ok q13))))))))))
set_option maxRecDepth 20000 in
set_option maxHeartbeats 4000000 in
theorem k_X11_tonsIn (l : Launch) (D : va_G) (cA : Nat → ClassId) (s0 : State) (z : Nat) (b : Nat) (ν : Mm) (sz : Nat) (hG : xG l D cA s0) (a1 : Int32) (a2 : Int32) (r : Thr Int32) (hF : g_X11_tonsIn ν a1 a2 = some r) : vx_Met l yX11_tonsIn (wsG yX11_tonsIn cX11_tonsIn 3 (some (FieldType.int))) { frames := 9, cells := 2, slots := 12, locals := 175 } (xP D cA s0 [.ref (b + 0), .int a1, .int a2] (fun H => H.size = sz ∧ WC D cA s0 z b ν H)) (xQt (fun q => (some (.int q))) (fun _ H => WC D cA s0 z b ν H) (xA b 2628 sz) r) (xXt (fun H => WC D cA s0 z b ν H) (xA b 2628 sz) r) 2 12 (xA b 2628 sz) := by
  refine t_start (z := z) (b := b) (ν := ν) (s0 := s0) (own := RX11) [(0, .ref (b + 0)), (1, .int a1), (2, .int a2)] rfl rfl (by decide) (nb rfl) ?_
  intro p e s m args below meth c C hX hw
  obtain ⟨hsz, hw⟩ := hw
  subst hsz
  have hS : va_S (xA b 2628 s.heap.size) s.heap s.heap [] := va_S.rf
  refine x_iload_n C dX11_tonsIn_0 rfl ?_
  refine x_aload_n C dX11_tonsIn_1 rfl ?_
  refine x_get (.ref (b + 7)) C fl_X11_24 (C_PD hw) rfl dX11_tonsIn_2 ?_
  obtain ⟨q1, hq2, hF⟩ := bnd_e hF
  refine x_goR (fun ls h => x_runV (As := []) [.int a2] h C ml_X11_118 (k_X5_present l D cA s0 z b ν hG 7 q1 hq2) ⟨rfl, rfl, nb rfl, nb rfl⟩ rfl (C_Led led7 hw) rfl hw (nb rfl) ⟨Nat.zero_le _, Nat.zero_le _⟩ dX11_tonsIn_5) ?_
  obtain ⟨h3, hF⟩ := asr_e hF
  refine x_get (.int (ν.1 q1 4)) C fl_X11_122 (C_Tar h3 hw) rfl dX11_tonsIn_8 ?_
  obtain ⟨q4, hq5, hF⟩ := bnd_e hF
  refine t_goT (fun ls h => t_runS (As := [.int a2, .int (ν.1 q1 4)]) [] h C ml_X11_153 (k_X11_requireIndex l D cA s0 z b ν _ hG a2 (ν.1 q1 4) q4 hq5) ⟨rfl, rfl, nb rfl, nb rfl⟩ rfl ⟨rfl, hw⟩ (nb rfl) ⟨nb rfl, nb rfl⟩ dX11_tonsIn_11) hF hS (xA_le hS) C hX (fun _ h => h) (nb rfl) (nb rfl) (fun q6 hF H locs hw hS => ?_)
  refine x_widen (k := 1) (n := 6) (nb rfl) (nb rfl) ?_
  have hw : WC D cA s0 z b ν H := hw
  refine x_iload_n C dX11_tonsIn_14 rfl ?_
  refine x_iconst (0 : Int32) C dX11_tonsIn_15 rfl ?_
  refine x_sipush (9999 : Int32) C dX11_tonsIn_16 rfl ?_
  obtain ⟨q7, hq8, hF⟩ := bnd_e hF
  refine t_goT (fun ls h => t_runS (As := [.int a1, .int (0 : Int32), .int (9999 : Int32)]) [] h C ml_X11_76 (k_X11_requireRange l D cA s0 z b ν _ hG a1 (0 : Int32) (9999 : Int32) q7 hq8) ⟨rfl, rfl, nb rfl, nb rfl⟩ rfl ⟨rfl, hw⟩ (nb rfl) ⟨nb rfl, nb rfl⟩ dX11_tonsIn_19) hF hS (xA_le hS) C hX (fun _ h => h) (nb rfl) (nb rfl) (fun q9 hF H locs hw hS => ?_)
  refine x_widen (k := 2) (n := 12) (nb rfl) (nb rfl) ?_
  have hw : WC D cA s0 z b ν H := hw
  refine x_aload_n C dX11_tonsIn_22 rfl ?_
  refine x_get (.ref (b + 7)) C fl_X11_24 (C_PD hw) rfl dX11_tonsIn_23 ?_
  obtain ⟨q10, hq11, hF⟩ := bnd_e hF
  refine x_goR (fun ls h => x_runV (As := []) [] h C ml_X11_118 (k_X5_present l D cA s0 z b ν hG 7 q10 hq11) ⟨rfl, rfl, nb rfl, nb rfl⟩ rfl (C_Led led7 hw) rfl hw (nb rfl) ⟨nb rfl, nb rfl⟩ dX11_tonsIn_26) ?_
  obtain ⟨h12, hF⟩ := asr_e hF
  refine x_iload_n C dX11_tonsIn_29 rfl ?_
  refine x_iload_n C dX11_tonsIn_30 rfl ?_
  obtain ⟨q13, hq14, hF⟩ := bnd_e hF
  refine x_goR (fun ls h => x_runV (As := [.int a1, .int a2]) [] h C ml_X11_177 (k_X10_tonsWithin l D cA s0 z b ν hG q10 a1 a2 q13 hq14) ⟨rfl, rfl, nb rfl, nb rfl⟩ rfl (C_Tar h12 hw) rfl hw (nb rfl) ⟨nb rfl, nb rfl⟩ dX11_tonsIn_31) ?_
  exact t_iret C rfl dX11_tonsIn_34  (rt_o hF) rfl hw hS (nb rfl) (nb rfl)
noncomputable def g_X11_wasteFee (ν : Mm) (a1 : Int32) : Option (Thr Int32) := bnd (g_X11_requireRange ν a1 (0 : Int32) (999 : Int32)) (fun q1 => bnx q1 (fun q3 => bnd (g_X5_present ν 7) (fun q4 => asr (isTar q4) (bnd (g_X10_wasteFeeFor ν q4 a1) (fun q7 => some (.ok q7))))))
set_option maxRecDepth 20000 in
set_option maxHeartbeats 4000000 in
theorem k_X11_wasteFee (l : Launch) (D : va_G) (cA : Nat → ClassId) (s0 : State) (z : Nat) (b : Nat) (ν : Mm) (sz : Nat) (hG : xG l D cA s0) (a1 : Int32) (r : Thr Int32) (hF : g_X11_wasteFee ν a1 = some r) : vx_Met l yX11_wasteFee (wsG yX11_wasteFee cX11_wasteFee 2 (some (FieldType.int))) { frames := 9, cells := 1, slots := 6, locals := 175 } (xP D cA s0 [.ref (b + 0), .int a1] (fun H => H.size = sz ∧ WC D cA s0 z b ν H)) (xQt (fun q => (some (.int q))) (fun _ H => WC D cA s0 z b ν H) (xA b 2628 sz) r) (xXt (fun H => WC D cA s0 z b ν H) (xA b 2628 sz) r) 1 6 (xA b 2628 sz) := by
  refine t_start (z := z) (b := b) (ν := ν) (s0 := s0) (own := RX11) [(0, .ref (b + 0)), (1, .int a1)] rfl rfl (by decide) (nb rfl) ?_
  intro p e s m args below meth c C hX hw
  obtain ⟨hsz, hw⟩ := hw
  subst hsz
  have hS : va_S (xA b 2628 s.heap.size) s.heap s.heap [] := va_S.rf
  refine x_iload_n C dX11_wasteFee_0 rfl ?_
  refine x_iconst (0 : Int32) C dX11_wasteFee_1 rfl ?_
  refine x_sipush (999 : Int32) C dX11_wasteFee_2 rfl ?_
  obtain ⟨q1, hq2, hF⟩ := bnd_e hF
  refine t_goT (fun ls h => t_runS (As := [.int a1, .int (0 : Int32), .int (999 : Int32)]) [] h C ml_X11_76 (k_X11_requireRange l D cA s0 z b ν _ hG a1 (0 : Int32) (999 : Int32) q1 hq2) ⟨rfl, rfl, nb rfl, nb rfl⟩ rfl ⟨rfl, hw⟩ (nb rfl) ⟨nb rfl, nb rfl⟩ dX11_wasteFee_5) hF hS (xA_le hS) C hX (fun _ h => h) (nb rfl) (nb rfl) (fun q3 hF H locs hw hS => ?_)
  refine x_widen (k := 1) (n := 6) (nb rfl) (nb rfl) ?_
  have hw : WC D cA s0 z b ν H := hw
  refine x_aload_n C dX11_wasteFee_8 rfl ?_
  refine x_get (.ref (b + 7)) C fl_X11_24 (C_PD hw) rfl dX11_wasteFee_9 ?_
  obtain ⟨q4, hq5, hF⟩ := bnd_e hF
  refine x_goR (fun ls h => x_runV (As := []) [] h C ml_X11_118 (k_X5_present l D cA s0 z b ν hG 7 q4 hq5) ⟨rfl, rfl, nb rfl, nb rfl⟩ rfl (C_Led led7 hw) rfl hw (nb rfl) ⟨nb rfl, nb rfl⟩ dX11_wasteFee_12) ?_
  obtain ⟨h6, hF⟩ := asr_e hF
  refine x_iload_n C dX11_wasteFee_15 rfl ?_
  obtain ⟨q7, hq8, hF⟩ := bnd_e hF
  refine x_goR (fun ls h => x_runV (As := [.int a1]) [] h C ml_X11_181 (k_X10_wasteFeeFor l D cA s0 z b ν hG q4 a1 q7 hq8) ⟨rfl, rfl, nb rfl, nb rfl⟩ rfl (C_Tar h6 hw) rfl hw (nb rfl) ⟨nb rfl, nb rfl⟩ dX11_wasteFee_16) ?_
  exact t_iret C rfl dX11_wasteFee_19  (rt_o hF) rfl hw hS (nb rfl) (nb rfl)
noncomputable def g_X11_requireShip (ν : Mm) (a1 : Int32) : Option (Thr Unit) := bnd (g_X11_requireIndex ν a1 (ν.1 7 5)) (fun q1 => bnx q1 (fun q3 => some (.ok ())))
set_option maxRecDepth 20000 in
set_option maxHeartbeats 4000000 in
theorem k_X11_requireShip (l : Launch) (D : va_G) (cA : Nat → ClassId) (s0 : State) (z : Nat) (b : Nat) (ν : Mm) (sz : Nat) (hG : xG l D cA s0) (a1 : Int32) (r : Thr Unit) (hF : g_X11_requireShip ν a1 = some r) : vx_Met l yX11_requireShip (wsG yX11_requireShip cX11_requireShip 2 none) { frames := 8, cells := 1, slots := 6, locals := 154 } (xP D cA s0 [.ref (b + 0), .int a1] (fun H => H.size = sz ∧ WC D cA s0 z b ν H)) (xQt (fun q => none) (fun _ H => WC D cA s0 z b ν H) (xA b 2628 sz) r) (xXt (fun H => WC D cA s0 z b ν H) (xA b 2628 sz) r) 1 6 (xA b 2628 sz) := by
  refine t_start (z := z) (b := b) (ν := ν) (s0 := s0) (own := RX11) [(0, .ref (b + 0)), (1, .int a1)] rfl rfl (by decide) (nb rfl) ?_
  intro p e s m args below meth c C hX hw
  obtain ⟨hsz, hw⟩ := hw
  subst hsz
  have hS : va_S (xA b 2628 s.heap.size) s.heap s.heap [] := va_S.rf
  refine x_iload_n C dX11_requireShip_0 rfl ?_
  refine x_aload_n C dX11_requireShip_1 rfl ?_
  refine x_get (.ref (b + 7)) C fl_X11_24 (C_PD hw) rfl dX11_requireShip_2 ?_
  refine x_get (.int (ν.1 7 5)) C fl_X11_90 (C_Led led7 hw) rfl dX11_requireShip_5 ?_
  obtain ⟨q1, hq2, hF⟩ := bnd_e hF
  refine t_goT (fun ls h => t_runS (As := [.int a1, .int (ν.1 7 5)]) [] h C ml_X11_153 (k_X11_requireIndex l D cA s0 z b ν _ hG a1 (ν.1 7 5) q1 hq2) ⟨rfl, rfl, nb rfl, nb rfl⟩ rfl ⟨rfl, hw⟩ (nb rfl) ⟨nb rfl, nb rfl⟩ dX11_requireShip_8) hF hS (xA_le hS) C hX (fun _ h => h) (nb rfl) (nb rfl) (fun q3 hF H locs hw hS => ?_)
  refine x_widen (k := 1) (n := 6) (nb rfl) (nb rfl) ?_
  have hw : WC D cA s0 z b ν H := hw
  exact t_vret C rfl dX11_requireShip_11 (rt_o hF) rfl hw hS (nb rfl) (nb rfl)
noncomputable def g_X11_tons (ν : Mm) (a1 : Int32) : Option (Thr Int32) := bnd (g_X11_requireShip ν a1) (fun q1 => bnx q1 (fun q3 => asr (vp_in a1 8) (some (.ok (ν.1 (7 + (6 + 2 * (cl a1))) 2)))))
set_option maxRecDepth 20000 in
set_option maxHeartbeats 4000000 in
theorem k_X11_tons (l : Launch) (D : va_G) (cA : Nat → ClassId) (s0 : State) (z : Nat) (b : Nat) (ν : Mm) (sz : Nat) (hG : xG l D cA s0) (a1 : Int32) (r : Thr Int32) (hF : g_X11_tons ν a1 = some r) : vx_Met l yX11_tons (wsG yX11_tons cX11_tons 2 (some (FieldType.int))) { frames := 9, cells := 1, slots := 6, locals := 175 } (xP D cA s0 [.ref (b + 0), .int a1] (fun H => H.size = sz ∧ WC D cA s0 z b ν H)) (xQt (fun q => (some (.int q))) (fun _ H => WC D cA s0 z b ν H) (xA b 2628 sz) r) (xXt (fun H => WC D cA s0 z b ν H) (xA b 2628 sz) r) 1 6 (xA b 2628 sz) := by
  refine t_start (z := z) (b := b) (ν := ν) (s0 := s0) (own := RX11) [(0, .ref (b + 0)), (1, .int a1)] rfl rfl (by decide) (nb rfl) ?_
  intro p e s m args below meth c C hX hw
  obtain ⟨hsz, hw⟩ := hw
  subst hsz
  have hS : va_S (xA b 2628 s.heap.size) s.heap s.heap [] := va_S.rf
  refine x_aload_n C dX11_tons_0 rfl ?_
  refine x_iload_n C dX11_tons_1 rfl ?_
  obtain ⟨q1, hq2, hF⟩ := bnd_e hF
  refine t_goT (fun ls h => t_runV (As := [.int a1]) [] h C ml_X11_184 (k_X11_requireShip l D cA s0 z b ν _ hG a1 q1 hq2) ⟨rfl, rfl, nb rfl, nb rfl⟩ rfl (C_PD hw) rfl ⟨rfl, hw⟩ (nb rfl) ⟨nb rfl, nb rfl⟩ dX11_tons_2) hF hS (xA_le hS) C hX (fun _ h => h) (nb rfl) (nb rfl) (fun q3 hF H locs hw hS => ?_)
  refine x_widen (k := 1) (n := 6) (nb rfl) (nb rfl) ?_
  have hw : WC D cA s0 z b ν H := hw
  refine x_aload_n C dX11_tons_5 rfl ?_
  refine x_get (.ref (b + 7)) C fl_X11_24 (C_PD hw) rfl dX11_tons_6 ?_
  refine x_get (.ref (b + (7 + 1))) C fl_X11_187 (C_Led led7 hw) rfl dX11_tons_9 ?_
  refine x_iload_n C dX11_tons_12 rfl ?_
  obtain ⟨h4, hF⟩ := asr_e hF
  obtain ⟨hn5, hl6⟩ := vpn h4 (by decide)
  refine x_aald 3 C (C_ships led7 hw) rfl hn5 hl6 (by decide) rfl dX11_tons_13 ?_
  refine x_get (.int (ν.1 (7 + (6 + 2 * (cl a1))) 2)) C fl_X11_191 (C_Ship (mk_Ship led7 hl6) hw) rfl dX11_tons_14 ?_
  exact t_iret C rfl dX11_tons_17  (rt_o hF) rfl hw hS (nb rfl) (nb rfl)
noncomputable def g_X11_calls (ν : Mm) (a1 : Int32) (a2 : Int32) : Option (Thr Int32) := bnd (g_X11_requireShip ν a1) (fun q1 => bnx q1 (fun q3 => bnd (g_X11_requireRange ν a2 (0 : Int32) (9 : Int32)) (fun q4 => bnx q4 (fun q6 => bnd (g_X5_callsInYear ν 7 a1 a2) (fun q7 => some (.ok q7))))))
set_option maxRecDepth 20000 in
set_option maxHeartbeats 4000000 in
theorem k_X11_calls (l : Launch) (D : va_G) (cA : Nat → ClassId) (s0 : State) (z : Nat) (b : Nat) (ν : Mm) (sz : Nat) (hG : xG l D cA s0) (a1 : Int32) (a2 : Int32) (r : Thr Int32) (hF : g_X11_calls ν a1 a2 = some r) : vx_Met l yX11_calls (wsG yX11_calls cX11_calls 3 (some (FieldType.int))) { frames := 9, cells := 2, slots := 12, locals := 175 } (xP D cA s0 [.ref (b + 0), .int a1, .int a2] (fun H => H.size = sz ∧ WC D cA s0 z b ν H)) (xQt (fun q => (some (.int q))) (fun _ H => WC D cA s0 z b ν H) (xA b 2628 sz) r) (xXt (fun H => WC D cA s0 z b ν H) (xA b 2628 sz) r) 2 12 (xA b 2628 sz) := by
  refine t_start (z := z) (b := b) (ν := ν) (s0 := s0) (own := RX11) [(0, .ref (b + 0)), (1, .int a1), (2, .int a2)] rfl rfl (by decide) (nb rfl) ?_
  intro p e s m args below meth c C hX hw
  obtain ⟨hsz, hw⟩ := hw
  subst hsz
  have hS : va_S (xA b 2628 s.heap.size) s.heap s.heap [] := va_S.rf
  refine x_aload_n C dX11_calls_0 rfl ?_
  refine x_iload_n C dX11_calls_1 rfl ?_
  obtain ⟨q1, hq2, hF⟩ := bnd_e hF
  refine t_goT (fun ls h => t_runV (As := [.int a1]) [] h C ml_X11_184 (k_X11_requireShip l D cA s0 z b ν _ hG a1 q1 hq2) ⟨rfl, rfl, nb rfl, nb rfl⟩ rfl (C_PD hw) rfl ⟨rfl, hw⟩ (nb rfl) ⟨nb rfl, nb rfl⟩ dX11_calls_2) hF hS (xA_le hS) C hX (fun _ h => h) (nb rfl) (nb rfl) (fun q3 hF H locs hw hS => ?_)
  refine x_widen (k := 1) (n := 6) (nb rfl) (nb rfl) ?_
  have hw : WC D cA s0 z b ν H := hw
  refine x_iload_n C dX11_calls_5 rfl ?_
  refine x_iconst (0 : Int32) C dX11_calls_6 rfl ?_
  refine x_bipush (9 : Int32) C dX11_calls_7 rfl ?_
  obtain ⟨q4, hq5, hF⟩ := bnd_e hF
  refine t_goT (fun ls h => t_runS (As := [.int a2, .int (0 : Int32), .int (9 : Int32)]) [] h C ml_X11_76 (k_X11_requireRange l D cA s0 z b ν _ hG a2 (0 : Int32) (9 : Int32) q4 hq5) ⟨rfl, rfl, nb rfl, nb rfl⟩ rfl ⟨rfl, hw⟩ (nb rfl) ⟨nb rfl, nb rfl⟩ dX11_calls_9) hF hS (xA_le hS) C hX (fun _ h => h) (nb rfl) (nb rfl) (fun q6 hF H locs hw hS => ?_)
  refine x_widen (k := 2) (n := 12) (nb rfl) (nb rfl) ?_
  have hw : WC D cA s0 z b ν H := hw
  refine x_aload_n C dX11_calls_12 rfl ?_
  refine x_get (.ref (b + 7)) C fl_X11_24 (C_PD hw) rfl dX11_calls_13 ?_
  refine x_iload_n C dX11_calls_16 rfl ?_
  refine x_iload_n C dX11_calls_17 rfl ?_
  obtain ⟨q7, hq8, hF⟩ := bnd_e hF
  refine x_goR (fun ls h => x_runV (As := [.int a1, .int a2]) [] h C ml_X11_196 (k_X5_callsInYear l D cA s0 z b ν hG 7 a1 a2 q7 hq8) ⟨rfl, rfl, nb rfl, nb rfl⟩ rfl (C_Led led7 hw) rfl hw (nb rfl) ⟨nb rfl, nb rfl⟩ dX11_calls_18) ?_
  exact t_iret C rfl dX11_calls_21  (rt_o hF) rfl hw hS (nb rfl) (nb rfl)
noncomputable def g_X11_requireCall (ν : Mm) (a1 : Int32) : Option (Thr Unit) := bnd (g_X11_requireIndex ν a1 (ν.1 7 6)) (fun q1 => bnx q1 (fun q3 => some (.ok ())))
set_option maxRecDepth 20000 in
set_option maxHeartbeats 4000000 in
theorem k_X11_requireCall (l : Launch) (D : va_G) (cA : Nat → ClassId) (s0 : State) (z : Nat) (b : Nat) (ν : Mm) (sz : Nat) (hG : xG l D cA s0) (a1 : Int32) (r : Thr Unit) (hF : g_X11_requireCall ν a1 = some r) : vx_Met l yX11_requireCall (wsG yX11_requireCall cX11_requireCall 2 none) { frames := 8, cells := 1, slots := 6, locals := 154 } (xP D cA s0 [.ref (b + 0), .int a1] (fun H => H.size = sz ∧ WC D cA s0 z b ν H)) (xQt (fun q => none) (fun _ H => WC D cA s0 z b ν H) (xA b 2628 sz) r) (xXt (fun H => WC D cA s0 z b ν H) (xA b 2628 sz) r) 1 6 (xA b 2628 sz) := by
  refine t_start (z := z) (b := b) (ν := ν) (s0 := s0) (own := RX11) [(0, .ref (b + 0)), (1, .int a1)] rfl rfl (by decide) (nb rfl) ?_
  intro p e s m args below meth c C hX hw
  obtain ⟨hsz, hw⟩ := hw
  subst hsz
  have hS : va_S (xA b 2628 s.heap.size) s.heap s.heap [] := va_S.rf
  refine x_iload_n C dX11_requireCall_0 rfl ?_
  refine x_aload_n C dX11_requireCall_1 rfl ?_
  refine x_get (.ref (b + 7)) C fl_X11_24 (C_PD hw) rfl dX11_requireCall_2 ?_
  refine x_get (.int (ν.1 7 6)) C fl_X11_103 (C_Led led7 hw) rfl dX11_requireCall_5 ?_
  obtain ⟨q1, hq2, hF⟩ := bnd_e hF
  refine t_goT (fun ls h => t_runS (As := [.int a1, .int (ν.1 7 6)]) [] h C ml_X11_153 (k_X11_requireIndex l D cA s0 z b ν _ hG a1 (ν.1 7 6) q1 hq2) ⟨rfl, rfl, nb rfl, nb rfl⟩ rfl ⟨rfl, hw⟩ (nb rfl) ⟨nb rfl, nb rfl⟩ dX11_requireCall_8) hF hS (xA_le hS) C hX (fun _ h => h) (nb rfl) (nb rfl) (fun q3 hF H locs hw hS => ?_)
  refine x_widen (k := 1) (n := 6) (nb rfl) (nb rfl) ?_
  have hw : WC D cA s0 z b ν H := hw
  exact t_vret C rfl dX11_requireCall_11 (rt_o hF) rfl hw hS (nb rfl) (nb rfl)
noncomputable def g_X11_call (ν : Mm) (a1 : Int32) (a2 : Int32) : Option (Thr Int32) := bnd (g_X11_requireCall ν a1) (fun q1 => bnx q1 (fun q3 => bnd (g_X11_requireRange ν a2 (0 : Int32) (7 : Int32)) (fun q4 => bnx q4 (fun q6 => asr (vp_in a1 40) ((if a2 = 0 then some (.ok (ν.1 (7 + (22 + (cl a1))) 0)) else (if a2 = 1 then some (.ok (ν.1 (7 + (22 + (cl a1))) 1)) else (if a2 = 2 then some (.ok (ν.1 (7 + (22 + (cl a1))) 2)) else (if a2 = 3 then some (.ok (ν.1 (7 + (22 + (cl a1))) 3)) else (if a2 = 4 then (if (ν.1 (7 + (22 + (cl a1))) 4) = 0 then some (.ok (0 : Int32)) else some (.ok (1 : Int32))) else (if a2 = 5 then bnd (g_X5_rankOf ν 7 a1) (fun q17 => some (.ok q17)) else (if a2 = 6 then bnd (g_X5_present ν 7) (fun q20 => asr (isTar q20) (bnd (g_X5_rankOf ν 7 a1) (fun q23 => bnd (g_X10_percentAt ν q20 q23) (fun q25 => some (.ok q25))))) else bnd (g_X0_billedLinesOf ν a1) (fun q27 => some (.ok q27))))))))))))))
set_option maxRecDepth 20000 in
set_option maxHeartbeats 4000000 in
theorem k_X11_call (l : Launch) (D : va_G) (cA : Nat → ClassId) (s0 : State) (z : Nat) (b : Nat) (ν : Mm) (sz : Nat) (hG : xG l D cA s0) (a1 : Int32) (a2 : Int32) (r : Thr Int32) (hF : g_X11_call ν a1 a2 = some r) : vx_Met l yX11_call (wsG yX11_call cX11_call 4 (some (FieldType.int))) { frames := 9, cells := 2, slots := 12, locals := 175 } (xP D cA s0 [.ref (b + 0), .int a1, .int a2] (fun H => H.size = sz ∧ WC D cA s0 z b ν H)) (xQt (fun q => (some (.int q))) (fun _ H => WC D cA s0 z b ν H) (xA b 2628 sz) r) (xXt (fun H => WC D cA s0 z b ν H) (xA b 2628 sz) r) 2 12 (xA b 2628 sz) := by
  refine t_start (z := z) (b := b) (ν := ν) (s0 := s0) (own := RX11) [(0, .ref (b + 0)), (1, .int a1), (2, .int a2)] rfl rfl (by decide) (nb rfl) ?_
  intro p e s m args below meth c C hX hw
  obtain ⟨hsz, hw⟩ := hw
  subst hsz
  have hS : va_S (xA b 2628 s.heap.size) s.heap s.heap [] := va_S.rf
  refine x_aload_n C dX11_call_0 rfl ?_
  refine x_iload_n C dX11_call_1 rfl ?_
  obtain ⟨q1, hq2, hF⟩ := bnd_e hF
  refine t_goT (fun ls h => t_runV (As := [.int a1]) [] h C ml_X11_199 (k_X11_requireCall l D cA s0 z b ν _ hG a1 q1 hq2) ⟨rfl, rfl, nb rfl, nb rfl⟩ rfl (C_PD hw) rfl ⟨rfl, hw⟩ (nb rfl) ⟨nb rfl, nb rfl⟩ dX11_call_2) hF hS (xA_le hS) C hX (fun _ h => h) (nb rfl) (nb rfl) (fun q3 hF H locs hw hS => ?_)
  refine x_widen (k := 1) (n := 6) (nb rfl) (nb rfl) ?_
  have hw : WC D cA s0 z b ν H := hw
  refine x_iload_n C dX11_call_5 rfl ?_
  refine x_iconst (0 : Int32) C dX11_call_6 rfl ?_
  refine x_bipush (7 : Int32) C dX11_call_7 rfl ?_
  obtain ⟨q4, hq5, hF⟩ := bnd_e hF
  refine t_goT (fun ls h => t_runS (As := [.int a2, .int (0 : Int32), .int (7 : Int32)]) [] h C ml_X11_76 (k_X11_requireRange l D cA s0 z b ν _ hG a2 (0 : Int32) (7 : Int32) q4 hq5) ⟨rfl, rfl, nb rfl, nb rfl⟩ rfl ⟨rfl, hw⟩ (nb rfl) ⟨nb rfl, nb rfl⟩ dX11_call_9) hF hS (xA_le hS) C hX (fun _ h => h) (nb rfl) (nb rfl) (fun q6 hF H locs hw hS => ?_)
  refine x_widen (k := 2) (n := 12) (nb rfl) (nb rfl) ?_
  have hw : WC D cA s0 z b ν H := hw
  refine x_aload_n C dX11_call_12 rfl ?_
  refine x_get (.ref (b + 7)) C fl_X11_24 (C_PD hw) rfl dX11_call_13 ?_
  refine x_get (.ref (b + (7 + 2))) C fl_X11_202 (C_Led led7 hw) rfl dX11_call_16 ?_
  refine x_iload_n C dX11_call_19 rfl ?_
  obtain ⟨h7, hF⟩ := asr_e hF
  obtain ⟨hn8, hl9⟩ := vpn h7 (by decide)
  refine x_aald 4 C (C_calls led7 hw) rfl hn8 hl9 (by decide) rfl dX11_call_20 ?_
  refine x_astore_n [(3, .ref (b + (7 + (22 + (cl a1))))), (0, .ref (b + 0)), (1, .int a1), (2, .int a2)] C dX11_call_21 rfl (by decide) rfl ?_
  refine x_iload_n C dX11_call_22 rfl ?_
  by_cases c10 : a2 = 0
  · have hF := ite_t hF c10
    refine x_tabIn 0 64 C dX11_call_23 (by rw [c10]; rfl) (by decide) (by decide) rfl (by decide) ?_
    refine x_aload_n C dX11_call_64 rfl ?_
    refine x_get (.int (ν.1 (7 + (22 + (cl a1))) 0)) C fl_X11_206 (C_Cal (mk_Cal led7 hl9) hw) rfl dX11_call_65 ?_
    exact t_iret C rfl dX11_call_68  (rt_o hF) rfl hw hS (nb rfl) (nb rfl)
  · have hF := ite_f hF c10
    by_cases c11 : a2 = 1
    · have hF := ite_t hF c11
      refine x_tabIn 1 69 C dX11_call_23 (by rw [c11]; rfl) (by decide) (by decide) rfl (by decide) ?_
      refine x_aload_n C dX11_call_69 rfl ?_
      refine x_get (.int (ν.1 (7 + (22 + (cl a1))) 1)) C fl_X11_211 (C_Cal (mk_Cal led7 hl9) hw) rfl dX11_call_70 ?_
      exact t_iret C rfl dX11_call_73  (rt_o hF) rfl hw hS (nb rfl) (nb rfl)
    · have hF := ite_f hF c11
      by_cases c12 : a2 = 2
      · have hF := ite_t hF c12
        refine x_tabIn 2 74 C dX11_call_23 (by rw [c12]; rfl) (by decide) (by decide) rfl (by decide) ?_
        refine x_aload_n C dX11_call_74 rfl ?_
        refine x_get (.int (ν.1 (7 + (22 + (cl a1))) 2)) C fl_X11_214 (C_Cal (mk_Cal led7 hl9) hw) rfl dX11_call_75 ?_
        exact t_iret C rfl dX11_call_78  (rt_o hF) rfl hw hS (nb rfl) (nb rfl)
      · have hF := ite_f hF c12
        by_cases c13 : a2 = 3
        · have hF := ite_t hF c13
          refine x_tabIn 3 79 C dX11_call_23 (by rw [c13]; rfl) (by decide) (by decide) rfl (by decide) ?_
          refine x_aload_n C dX11_call_79 rfl ?_
          refine x_get (.int (ν.1 (7 + (22 + (cl a1))) 3)) C fl_X11_217 (C_Cal (mk_Cal led7 hl9) hw) rfl dX11_call_80 ?_
          exact t_iret C rfl dX11_call_83  (rt_o hF) rfl hw hS (nb rfl) (nb rfl)
        · have hF := ite_f hF c13
          by_cases c14 : a2 = 4
          · have hF := ite_t hF c14
            refine x_tabIn 4 84 C dX11_call_23 (by rw [c14]; rfl) (by decide) (by decide) rfl (by decide) ?_
            refine x_aload_n C dX11_call_84 rfl ?_
            refine x_get (.int (ν.1 (7 + (22 + (cl a1))) 4)) C fl_X11_220 (C_Cal (mk_Cal led7 hl9) hw) rfl dX11_call_85 ?_
            refine x_if_eq 95 C dX11_call_88 (by decide) (fun c15 => ?_) (fun c15 => ?_)
            · have hF := ite_t hF c15
              refine x_iconst (0 : Int32) C dX11_call_95 rfl ?_
              exact t_iret C rfl dX11_call_96  (rt_o hF) rfl hw hS (nb rfl) (nb rfl)
            · have hF := ite_f hF c15
              refine x_iconst (1 : Int32) C dX11_call_91 rfl ?_
              refine x_goto 96 C dX11_call_92 (by decide) ?_
              exact t_iret C rfl dX11_call_96  (rt_o hF) rfl hw hS (nb rfl) (nb rfl)
          · have hF := ite_f hF c14
            by_cases c16 : a2 = 5
            · have hF := ite_t hF c16
              refine x_tabIn 5 97 C dX11_call_23 (by rw [c16]; rfl) (by decide) (by decide) rfl (by decide) ?_
              refine x_aload_n C dX11_call_97 rfl ?_
              refine x_get (.ref (b + 7)) C fl_X11_24 (C_PD hw) rfl dX11_call_98 ?_
              refine x_iload_n C dX11_call_101 rfl ?_
              obtain ⟨q17, hq18, hF⟩ := bnd_e hF
              refine x_goR (fun ls h => x_runV (As := [.int a1]) [] h C ml_X11_223 (k_X5_rankOf l D cA s0 z b ν hG 7 a1 q17 hq18) ⟨rfl, rfl, nb rfl, nb rfl⟩ rfl (C_Led led7 hw) rfl hw (nb rfl) ⟨nb rfl, nb rfl⟩ dX11_call_102) ?_
              exact t_iret C rfl dX11_call_105  (rt_o hF) rfl hw hS (nb rfl) (nb rfl)
            · have hF := ite_f hF c16
              by_cases c19 : a2 = 6
              · have hF := ite_t hF c19
                refine x_tabIn 6 106 C dX11_call_23 (by rw [c19]; rfl) (by decide) (by decide) rfl (by decide) ?_
                refine x_aload_n C dX11_call_106 rfl ?_
                refine x_get (.ref (b + 7)) C fl_X11_24 (C_PD hw) rfl dX11_call_107 ?_
                obtain ⟨q20, hq21, hF⟩ := bnd_e hF
                refine x_goR (fun ls h => x_runV (As := []) [] h C ml_X11_118 (k_X5_present l D cA s0 z b ν hG 7 q20 hq21) ⟨rfl, rfl, nb rfl, nb rfl⟩ rfl (C_Led led7 hw) rfl hw (nb rfl) ⟨nb rfl, nb rfl⟩ dX11_call_110) ?_
                obtain ⟨h22, hF⟩ := asr_e hF
                refine x_aload_n C dX11_call_113 rfl ?_
                refine x_get (.ref (b + 7)) C fl_X11_24 (C_PD hw) rfl dX11_call_114 ?_
                refine x_iload_n C dX11_call_117 rfl ?_
                obtain ⟨q23, hq24, hF⟩ := bnd_e hF
                refine x_goR (fun ls h => x_runV (As := [.int a1]) [.ref (b + q20)] h C ml_X11_223 (k_X5_rankOf l D cA s0 z b ν hG 7 a1 q23 hq24) ⟨rfl, rfl, nb rfl, nb rfl⟩ rfl (C_Led led7 hw) rfl hw (nb rfl) ⟨nb rfl, nb rfl⟩ dX11_call_118) ?_
                obtain ⟨q25, hq26, hF⟩ := bnd_e hF
                refine x_goR (fun ls h => x_runV (As := [.int q23]) [] h C ml_X11_226 (k_X10_percentAt l D cA s0 z b ν hG q20 q23 q25 hq26) ⟨rfl, rfl, nb rfl, nb rfl⟩ rfl (C_Tar h22 hw) rfl hw (nb rfl) ⟨nb rfl, nb rfl⟩ dX11_call_121) ?_
                exact t_iret C rfl dX11_call_124  (rt_o hF) rfl hw hS (nb rfl) (nb rfl)
              · have hF := ite_f hF c19
                have t29 : a2.toInt ≠ 0 := fun z => c10 ((fa_eqI _ _).mpr z)
                have t30 : a2.toInt ≠ 1 := fun z => c11 ((fa_eqI _ _).mpr z)
                have t31 : a2.toInt ≠ 2 := fun z => c12 ((fa_eqI _ _).mpr z)
                have t32 : a2.toInt ≠ 3 := fun z => c13 ((fa_eqI _ _).mpr z)
                have t33 : a2.toInt ≠ 4 := fun z => c14 ((fa_eqI _ _).mpr z)
                have t34 : a2.toInt ≠ 5 := fun z => c16 ((fa_eqI _ _).mpr z)
                have t35 : a2.toInt ≠ 6 := fun z => c19 ((fa_eqI _ _).mpr z)
                refine x_tabOut 125 C dX11_call_23 (by omega) (by decide) ?_
                refine x_aload_n C dX11_call_125 rfl ?_
                refine x_get (.ref (b + 2626)) C fl_X11_52 (C_PD hw) rfl dX11_call_126 ?_
                refine x_iload_n C dX11_call_129 rfl ?_
                obtain ⟨q27, hq28, hF⟩ := bnd_e hF
                refine x_goR (fun ls h => x_runV (As := [.int a1]) [] h C ml_X11_229 (k_X0_billedLinesOf l D cA s0 z b ν hG a1 q27 hq28) ⟨rfl, rfl, nb rfl, nb rfl⟩ rfl (C_Acc hw) rfl hw (nb rfl) ⟨nb rfl, nb rfl⟩ dX11_call_130) ?_
                exact t_iret C rfl dX11_call_133  (rt_o hF) rfl hw hS (nb rfl) (nb rfl)
noncomputable def g_X11_layDays (ν : Mm) (a1 : Int32) : Option (Thr Int32) := bnd (g_X11_requireCall ν a1) (fun q1 => bnx q1 (fun q3 => bnd (g_X5_layDaysOf ν 7 a1) (fun q4 => some (.ok q4))))
set_option maxRecDepth 20000 in
set_option maxHeartbeats 4000000 in
theorem k_X11_layDays (l : Launch) (D : va_G) (cA : Nat → ClassId) (s0 : State) (z : Nat) (b : Nat) (ν : Mm) (sz : Nat) (hG : xG l D cA s0) (a1 : Int32) (r : Thr Int32) (hF : g_X11_layDays ν a1 = some r) : vx_Met l yX11_layDays (wsG yX11_layDays cX11_layDays 2 (some (FieldType.int))) { frames := 9, cells := 1, slots := 6, locals := 175 } (xP D cA s0 [.ref (b + 0), .int a1] (fun H => H.size = sz ∧ WC D cA s0 z b ν H)) (xQt (fun q => (some (.int q))) (fun _ H => WC D cA s0 z b ν H) (xA b 2628 sz) r) (xXt (fun H => WC D cA s0 z b ν H) (xA b 2628 sz) r) 1 6 (xA b 2628 sz) := by
  refine t_start (z := z) (b := b) (ν := ν) (s0 := s0) (own := RX11) [(0, .ref (b + 0)), (1, .int a1)] rfl rfl (by decide) (nb rfl) ?_
  intro p e s m args below meth c C hX hw
  obtain ⟨hsz, hw⟩ := hw
  subst hsz
  have hS : va_S (xA b 2628 s.heap.size) s.heap s.heap [] := va_S.rf
  refine x_aload_n C dX11_layDays_0 rfl ?_
  refine x_iload_n C dX11_layDays_1 rfl ?_
  obtain ⟨q1, hq2, hF⟩ := bnd_e hF
  refine t_goT (fun ls h => t_runV (As := [.int a1]) [] h C ml_X11_199 (k_X11_requireCall l D cA s0 z b ν _ hG a1 q1 hq2) ⟨rfl, rfl, nb rfl, nb rfl⟩ rfl (C_PD hw) rfl ⟨rfl, hw⟩ (nb rfl) ⟨nb rfl, nb rfl⟩ dX11_layDays_2) hF hS (xA_le hS) C hX (fun _ h => h) (nb rfl) (nb rfl) (fun q3 hF H locs hw hS => ?_)
  refine x_widen (k := 1) (n := 6) (nb rfl) (nb rfl) ?_
  have hw : WC D cA s0 z b ν H := hw
  refine x_aload_n C dX11_layDays_5 rfl ?_
  refine x_get (.ref (b + 7)) C fl_X11_24 (C_PD hw) rfl dX11_layDays_6 ?_
  refine x_iload_n C dX11_layDays_9 rfl ?_
  obtain ⟨q4, hq5, hF⟩ := bnd_e hF
  refine x_goR (fun ls h => x_runV (As := [.int a1]) [] h C ml_X11_232 (k_X5_layDaysOf l D cA s0 z b ν hG 7 a1 q4 hq5) ⟨rfl, rfl, nb rfl, nb rfl⟩ rfl (C_Led led7 hw) rfl hw (nb rfl) ⟨nb rfl, nb rfl⟩ dX11_layDays_10) ?_
  exact t_iret C rfl dX11_layDays_13  (rt_o hF) rfl hw hS (nb rfl) (nb rfl)
noncomputable def g_X11_pending (ν : Mm) (a1 : Int32) : Option (Thr Int32) := bnd (g_X11_requireCall ν a1) (fun q1 => bnx q1 (fun q3 => asr (vp_in a1 40) (some (.ok (ν.1 (7 + (22 + (cl a1))) 5)))))
set_option maxRecDepth 20000 in
set_option maxHeartbeats 4000000 in
theorem k_X11_pending (l : Launch) (D : va_G) (cA : Nat → ClassId) (s0 : State) (z : Nat) (b : Nat) (ν : Mm) (sz : Nat) (hG : xG l D cA s0) (a1 : Int32) (r : Thr Int32) (hF : g_X11_pending ν a1 = some r) : vx_Met l yX11_pending (wsG yX11_pending cX11_pending 2 (some (FieldType.int))) { frames := 9, cells := 1, slots := 6, locals := 175 } (xP D cA s0 [.ref (b + 0), .int a1] (fun H => H.size = sz ∧ WC D cA s0 z b ν H)) (xQt (fun q => (some (.int q))) (fun _ H => WC D cA s0 z b ν H) (xA b 2628 sz) r) (xXt (fun H => WC D cA s0 z b ν H) (xA b 2628 sz) r) 1 6 (xA b 2628 sz) := by
  refine t_start (z := z) (b := b) (ν := ν) (s0 := s0) (own := RX11) [(0, .ref (b + 0)), (1, .int a1)] rfl rfl (by decide) (nb rfl) ?_
  intro p e s m args below meth c C hX hw
  obtain ⟨hsz, hw⟩ := hw
  subst hsz
  have hS : va_S (xA b 2628 s.heap.size) s.heap s.heap [] := va_S.rf
  refine x_aload_n C dX11_pending_0 rfl ?_
  refine x_iload_n C dX11_pending_1 rfl ?_
  obtain ⟨q1, hq2, hF⟩ := bnd_e hF
  refine t_goT (fun ls h => t_runV (As := [.int a1]) [] h C ml_X11_199 (k_X11_requireCall l D cA s0 z b ν _ hG a1 q1 hq2) ⟨rfl, rfl, nb rfl, nb rfl⟩ rfl (C_PD hw) rfl ⟨rfl, hw⟩ (nb rfl) ⟨nb rfl, nb rfl⟩ dX11_pending_2) hF hS (xA_le hS) C hX (fun _ h => h) (nb rfl) (nb rfl) (fun q3 hF H locs hw hS => ?_)
  refine x_widen (k := 1) (n := 6) (nb rfl) (nb rfl) ?_
  have hw : WC D cA s0 z b ν H := hw
  refine x_aload_n C dX11_pending_5 rfl ?_
  refine x_get (.ref (b + 7)) C fl_X11_24 (C_PD hw) rfl dX11_pending_6 ?_
  refine x_get (.ref (b + (7 + 2))) C fl_X11_202 (C_Led led7 hw) rfl dX11_pending_9 ?_
  refine x_iload_n C dX11_pending_12 rfl ?_
  obtain ⟨h4, hF⟩ := asr_e hF
  obtain ⟨hn5, hl6⟩ := vpn h4 (by decide)
  refine x_aald 4 C (C_calls led7 hw) rfl hn5 hl6 (by decide) rfl dX11_pending_13 ?_
  refine x_get (.int (ν.1 (7 + (22 + (cl a1))) 5)) C fl_X11_235 (C_Cal (mk_Cal led7 hl6) hw) rfl dX11_pending_14 ?_
  exact t_iret C rfl dX11_pending_17  (rt_o hF) rfl hw hS (nb rfl) (nb rfl)
noncomputable def g_X11_upheld (ν : Mm) (a1 : Int32) : Option (Thr Int32) := bnd (g_X11_requireCall ν a1) (fun q1 => bnx q1 (fun q3 => asr (vp_in a1 40) (some (.ok (ν.1 (7 + (22 + (cl a1))) 6)))))
set_option maxRecDepth 20000 in
set_option maxHeartbeats 4000000 in
theorem k_X11_upheld (l : Launch) (D : va_G) (cA : Nat → ClassId) (s0 : State) (z : Nat) (b : Nat) (ν : Mm) (sz : Nat) (hG : xG l D cA s0) (a1 : Int32) (r : Thr Int32) (hF : g_X11_upheld ν a1 = some r) : vx_Met l yX11_upheld (wsG yX11_upheld cX11_upheld 2 (some (FieldType.int))) { frames := 9, cells := 1, slots := 6, locals := 175 } (xP D cA s0 [.ref (b + 0), .int a1] (fun H => H.size = sz ∧ WC D cA s0 z b ν H)) (xQt (fun q => (some (.int q))) (fun _ H => WC D cA s0 z b ν H) (xA b 2628 sz) r) (xXt (fun H => WC D cA s0 z b ν H) (xA b 2628 sz) r) 1 6 (xA b 2628 sz) := by
  refine t_start (z := z) (b := b) (ν := ν) (s0 := s0) (own := RX11) [(0, .ref (b + 0)), (1, .int a1)] rfl rfl (by decide) (nb rfl) ?_
  intro p e s m args below meth c C hX hw
  obtain ⟨hsz, hw⟩ := hw
  subst hsz
  have hS : va_S (xA b 2628 s.heap.size) s.heap s.heap [] := va_S.rf
  refine x_aload_n C dX11_upheld_0 rfl ?_
  refine x_iload_n C dX11_upheld_1 rfl ?_
  obtain ⟨q1, hq2, hF⟩ := bnd_e hF
  refine t_goT (fun ls h => t_runV (As := [.int a1]) [] h C ml_X11_199 (k_X11_requireCall l D cA s0 z b ν _ hG a1 q1 hq2) ⟨rfl, rfl, nb rfl, nb rfl⟩ rfl (C_PD hw) rfl ⟨rfl, hw⟩ (nb rfl) ⟨nb rfl, nb rfl⟩ dX11_upheld_2) hF hS (xA_le hS) C hX (fun _ h => h) (nb rfl) (nb rfl) (fun q3 hF H locs hw hS => ?_)
  refine x_widen (k := 1) (n := 6) (nb rfl) (nb rfl) ?_
  have hw : WC D cA s0 z b ν H := hw
  refine x_aload_n C dX11_upheld_5 rfl ?_
  refine x_get (.ref (b + 7)) C fl_X11_24 (C_PD hw) rfl dX11_upheld_6 ?_
  refine x_get (.ref (b + (7 + 2))) C fl_X11_202 (C_Led led7 hw) rfl dX11_upheld_9 ?_
  refine x_iload_n C dX11_upheld_12 rfl ?_
  obtain ⟨h4, hF⟩ := asr_e hF
  obtain ⟨hn5, hl6⟩ := vpn h4 (by decide)
  refine x_aald 4 C (C_calls led7 hw) rfl hn5 hl6 (by decide) rfl dX11_upheld_13 ?_
  refine x_get (.int (ν.1 (7 + (22 + (cl a1))) 6)) C fl_X11_238 (C_Cal (mk_Cal led7 hl6) hw) rfl dX11_upheld_14 ?_
  exact t_iret C rfl dX11_upheld_17  (rt_o hF) rfl hw hS (nb rfl) (nb rfl)
noncomputable def g_X11_billedDays (ν : Mm) (a1 : Int32) : Option (Thr Int32) := bnd (g_X11_requireCall ν a1) (fun q1 => bnx q1 (fun q3 => bnd (g_X0_billedDaysOf ν a1) (fun q4 => some (.ok q4))))
set_option maxRecDepth 20000 in
set_option maxHeartbeats 4000000 in
theorem k_X11_billedDays (l : Launch) (D : va_G) (cA : Nat → ClassId) (s0 : State) (z : Nat) (b : Nat) (ν : Mm) (sz : Nat) (hG : xG l D cA s0) (a1 : Int32) (r : Thr Int32) (hF : g_X11_billedDays ν a1 = some r) : vx_Met l yX11_billedDays (wsG yX11_billedDays cX11_billedDays 2 (some (FieldType.int))) { frames := 9, cells := 1, slots := 6, locals := 175 } (xP D cA s0 [.ref (b + 0), .int a1] (fun H => H.size = sz ∧ WC D cA s0 z b ν H)) (xQt (fun q => (some (.int q))) (fun _ H => WC D cA s0 z b ν H) (xA b 2628 sz) r) (xXt (fun H => WC D cA s0 z b ν H) (xA b 2628 sz) r) 1 6 (xA b 2628 sz) := by
  refine t_start (z := z) (b := b) (ν := ν) (s0 := s0) (own := RX11) [(0, .ref (b + 0)), (1, .int a1)] rfl rfl (by decide) (nb rfl) ?_
  intro p e s m args below meth c C hX hw
  obtain ⟨hsz, hw⟩ := hw
  subst hsz
  have hS : va_S (xA b 2628 s.heap.size) s.heap s.heap [] := va_S.rf
  refine x_aload_n C dX11_billedDays_0 rfl ?_
  refine x_iload_n C dX11_billedDays_1 rfl ?_
  obtain ⟨q1, hq2, hF⟩ := bnd_e hF
  refine t_goT (fun ls h => t_runV (As := [.int a1]) [] h C ml_X11_199 (k_X11_requireCall l D cA s0 z b ν _ hG a1 q1 hq2) ⟨rfl, rfl, nb rfl, nb rfl⟩ rfl (C_PD hw) rfl ⟨rfl, hw⟩ (nb rfl) ⟨nb rfl, nb rfl⟩ dX11_billedDays_2) hF hS (xA_le hS) C hX (fun _ h => h) (nb rfl) (nb rfl) (fun q3 hF H locs hw hS => ?_)
  refine x_widen (k := 1) (n := 6) (nb rfl) (nb rfl) ?_
  have hw : WC D cA s0 z b ν H := hw
  refine x_aload_n C dX11_billedDays_5 rfl ?_
  refine x_get (.ref (b + 2626)) C fl_X11_52 (C_PD hw) rfl dX11_billedDays_6 ?_
  refine x_iload_n C dX11_billedDays_9 rfl ?_
  obtain ⟨q4, hq5, hF⟩ := bnd_e hF
  refine x_goR (fun ls h => x_runV (As := [.int a1]) [] h C ml_X11_241 (k_X0_billedDaysOf l D cA s0 z b ν hG a1 q4 hq5) ⟨rfl, rfl, nb rfl, nb rfl⟩ rfl (C_Acc hw) rfl hw (nb rfl) ⟨nb rfl, nb rfl⟩ dX11_billedDays_10) ?_
  exact t_iret C rfl dX11_billedDays_13  (rt_o hF) rfl hw hS (nb rfl) (nb rfl)
noncomputable def g_X11_billable (ν : Mm) (a1 : Int32) : Option (Thr Int32) := bnd (g_X11_requireCall ν a1) (fun q1 => bnx q1 (fun q3 => bnd (g_X0_billableDaysOf ν a1) (fun q4 => some (.ok q4))))
set_option maxRecDepth 20000 in
set_option maxHeartbeats 4000000 in
theorem k_X11_billable (l : Launch) (D : va_G) (cA : Nat → ClassId) (s0 : State) (z : Nat) (b : Nat) (ν : Mm) (sz : Nat) (hG : xG l D cA s0) (a1 : Int32) (r : Thr Int32) (hF : g_X11_billable ν a1 = some r) : vx_Met l yX11_billable (wsG yX11_billable cX11_billable 2 (some (FieldType.int))) { frames := 9, cells := 1, slots := 6, locals := 175 } (xP D cA s0 [.ref (b + 0), .int a1] (fun H => H.size = sz ∧ WC D cA s0 z b ν H)) (xQt (fun q => (some (.int q))) (fun _ H => WC D cA s0 z b ν H) (xA b 2628 sz) r) (xXt (fun H => WC D cA s0 z b ν H) (xA b 2628 sz) r) 1 6 (xA b 2628 sz) := by
  refine t_start (z := z) (b := b) (ν := ν) (s0 := s0) (own := RX11) [(0, .ref (b + 0)), (1, .int a1)] rfl rfl (by decide) (nb rfl) ?_
  intro p e s m args below meth c C hX hw
  obtain ⟨hsz, hw⟩ := hw
  subst hsz
  have hS : va_S (xA b 2628 s.heap.size) s.heap s.heap [] := va_S.rf
  refine x_aload_n C dX11_billable_0 rfl ?_
  refine x_iload_n C dX11_billable_1 rfl ?_
  obtain ⟨q1, hq2, hF⟩ := bnd_e hF
  refine t_goT (fun ls h => t_runV (As := [.int a1]) [] h C ml_X11_199 (k_X11_requireCall l D cA s0 z b ν _ hG a1 q1 hq2) ⟨rfl, rfl, nb rfl, nb rfl⟩ rfl (C_PD hw) rfl ⟨rfl, hw⟩ (nb rfl) ⟨nb rfl, nb rfl⟩ dX11_billable_2) hF hS (xA_le hS) C hX (fun _ h => h) (nb rfl) (nb rfl) (fun q3 hF H locs hw hS => ?_)
  refine x_widen (k := 1) (n := 6) (nb rfl) (nb rfl) ?_
  have hw : WC D cA s0 z b ν H := hw
  refine x_aload_n C dX11_billable_5 rfl ?_
  refine x_get (.ref (b + 2626)) C fl_X11_52 (C_PD hw) rfl dX11_billable_6 ?_
  refine x_iload_n C dX11_billable_9 rfl ?_
  obtain ⟨q4, hq5, hF⟩ := bnd_e hF
  refine x_goR (fun ls h => x_runV (As := [.int a1]) [] h C ml_X11_244 (k_X0_billableDaysOf l D cA s0 z b ν hG a1 q4 hq5) ⟨rfl, rfl, nb rfl, nb rfl⟩ rfl (C_Acc hw) rfl hw (nb rfl) ⟨nb rfl, nb rfl⟩ dX11_billable_10) ?_
  exact t_iret C rfl dX11_billable_13  (rt_o hF) rfl hw hS (nb rfl) (nb rfl)
noncomputable def g_X11_requireLine (ν : Mm) (a1 : Int32) : Option (Thr Unit) := bnd (g_X11_requireRange ν a1 (0 : Int32) (3 : Int32)) (fun q1 => bnx q1 (fun q3 => some (.ok ())))
set_option maxRecDepth 20000 in
set_option maxHeartbeats 4000000 in
theorem k_X11_requireLine (l : Launch) (D : va_G) (cA : Nat → ClassId) (s0 : State) (z : Nat) (b : Nat) (ν : Mm) (sz : Nat) (hG : xG l D cA s0) (a1 : Int32) (r : Thr Unit) (hF : g_X11_requireLine ν a1 = some r) : vx_Met l yX11_requireLine (wsG yX11_requireLine cX11_requireLine 1 none) { frames := 9, cells := 1, slots := 6, locals := 175 } (xP D cA s0 [.int a1] (fun H => H.size = sz ∧ WC D cA s0 z b ν H)) (xQt (fun q => none) (fun _ H => WC D cA s0 z b ν H) (xA b 2628 sz) r) (xXt (fun H => WC D cA s0 z b ν H) (xA b 2628 sz) r) 1 6 (xA b 2628 sz) := by
  refine t_start (z := z) (b := b) (ν := ν) (s0 := s0) (own := RX11) [(0, .int a1)] rfl rfl (by decide) (nb rfl) ?_
  intro p e s m args below meth c C hX hw
  obtain ⟨hsz, hw⟩ := hw
  subst hsz
  have hS : va_S (xA b 2628 s.heap.size) s.heap s.heap [] := va_S.rf
  refine x_iload_n C dX11_requireLine_0 rfl ?_
  refine x_iconst (0 : Int32) C dX11_requireLine_1 rfl ?_
  refine x_iconst (3 : Int32) C dX11_requireLine_2 rfl ?_
  obtain ⟨q1, hq2, hF⟩ := bnd_e hF
  refine t_goT (fun ls h => t_runS (As := [.int a1, .int (0 : Int32), .int (3 : Int32)]) [] h C ml_X11_76 (k_X11_requireRange l D cA s0 z b ν _ hG a1 (0 : Int32) (3 : Int32) q1 hq2) ⟨rfl, rfl, nb rfl, nb rfl⟩ rfl ⟨rfl, hw⟩ (nb rfl) ⟨nb rfl, nb rfl⟩ dX11_requireLine_3) hF hS (xA_le hS) C hX (fun _ h => h) (nb rfl) (nb rfl) (fun q3 hF H locs hw hS => ?_)
  refine x_widen (k := 1) (n := 6) (nb rfl) (nb rfl) ?_
  have hw : WC D cA s0 z b ν H := hw
  exact t_vret C rfl dX11_requireLine_6 (rt_o hF) rfl hw hS (nb rfl) (nb rfl)
noncomputable def g_X11_amount (ν : Mm) (a1 : Int32) (a2 : Int32) : Option (Thr Int32) := bnd (g_X11_requireCall ν a1) (fun q1 => bnx q1 (fun q3 => bnd (g_X11_requireLine ν a2) (fun q4 => bnx q4 (fun q6 => bnd (g_X5_present ν 7) (fun q7 => asr (isTar q7) (bnd (g_X5_rankOf ν 7 a1) (fun q10 => bnd (g_X5_lineAtRank ν 7 q7 a1 a2 q10) (fun q12 => some (.ok q12)))))))))
set_option maxRecDepth 20000 in
set_option maxHeartbeats 4000000 in
theorem k_X11_amount (l : Launch) (D : va_G) (cA : Nat → ClassId) (s0 : State) (z : Nat) (b : Nat) (ν : Mm) (sz : Nat) (hG : xG l D cA s0) (a1 : Int32) (a2 : Int32) (r : Thr Int32) (hF : g_X11_amount ν a1 a2 = some r) : vx_Met l yX11_amount (wsG yX11_amount cX11_amount 3 (some (FieldType.int))) { frames := 10, cells := 2, slots := 12, locals := 195 } (xP D cA s0 [.ref (b + 0), .int a1, .int a2] (fun H => H.size = sz ∧ WC D cA s0 z b ν H)) (xQt (fun q => (some (.int q))) (fun _ H => WC D cA s0 z b ν H) (xA b 2628 sz) r) (xXt (fun H => WC D cA s0 z b ν H) (xA b 2628 sz) r) 2 12 (xA b 2628 sz) := by
  refine t_start (z := z) (b := b) (ν := ν) (s0 := s0) (own := RX11) [(0, .ref (b + 0)), (1, .int a1), (2, .int a2)] rfl rfl (by decide) (nb rfl) ?_
  intro p e s m args below meth c C hX hw
  obtain ⟨hsz, hw⟩ := hw
  subst hsz
  have hS : va_S (xA b 2628 s.heap.size) s.heap s.heap [] := va_S.rf
  refine x_aload_n C dX11_amount_0 rfl ?_
  refine x_iload_n C dX11_amount_1 rfl ?_
  obtain ⟨q1, hq2, hF⟩ := bnd_e hF
  refine t_goT (fun ls h => t_runV (As := [.int a1]) [] h C ml_X11_199 (k_X11_requireCall l D cA s0 z b ν _ hG a1 q1 hq2) ⟨rfl, rfl, nb rfl, nb rfl⟩ rfl (C_PD hw) rfl ⟨rfl, hw⟩ (nb rfl) ⟨nb rfl, nb rfl⟩ dX11_amount_2) hF hS (xA_le hS) C hX (fun _ h => h) (nb rfl) (nb rfl) (fun q3 hF H locs hw hS => ?_)
  refine x_widen (k := 1) (n := 6) (nb rfl) (nb rfl) ?_
  have hw : WC D cA s0 z b ν H := hw
  refine x_iload_n C dX11_amount_5 rfl ?_
  obtain ⟨q4, hq5, hF⟩ := bnd_e hF
  refine t_goT (fun ls h => t_runS (As := [.int a2]) [] h C ml_X11_247 (k_X11_requireLine l D cA s0 z b ν _ hG a2 q4 hq5) ⟨rfl, rfl, nb rfl, nb rfl⟩ rfl ⟨rfl, hw⟩ (nb rfl) ⟨nb rfl, nb rfl⟩ dX11_amount_6) hF hS (xA_le hS) C hX (fun _ h => h) (nb rfl) (nb rfl) (fun q6 hF H locs hw hS => ?_)
  refine x_widen (k := 2) (n := 12) (nb rfl) (nb rfl) ?_
  have hw : WC D cA s0 z b ν H := hw
  refine x_aload_n C dX11_amount_9 rfl ?_
  refine x_get (.ref (b + 7)) C fl_X11_24 (C_PD hw) rfl dX11_amount_10 ?_
  refine x_iload_n C dX11_amount_13 rfl ?_
  refine x_iload_n C dX11_amount_14 rfl ?_
  refine x_aload_n C dX11_amount_15 rfl ?_
  refine x_get (.ref (b + 7)) C fl_X11_24 (C_PD hw) rfl dX11_amount_16 ?_
  obtain ⟨q7, hq8, hF⟩ := bnd_e hF
  refine x_goR (fun ls h => x_runV (As := []) [.int a2, .int a1, .ref (b + 7)] h C ml_X11_118 (k_X5_present l D cA s0 z b ν hG 7 q7 hq8) ⟨rfl, rfl, nb rfl, nb rfl⟩ rfl (C_Led led7 hw) rfl hw (nb rfl) ⟨nb rfl, nb rfl⟩ dX11_amount_19) ?_
  obtain ⟨h9, hF⟩ := asr_e hF
  refine x_aload_n C dX11_amount_22 rfl ?_
  refine x_get (.ref (b + 7)) C fl_X11_24 (C_PD hw) rfl dX11_amount_23 ?_
  refine x_iload_n C dX11_amount_26 rfl ?_
  obtain ⟨q10, hq11, hF⟩ := bnd_e hF
  refine x_goR (fun ls h => x_runV (As := [.int a1]) [.ref (b + q7), .int a2, .int a1, .ref (b + 7)] h C ml_X11_223 (k_X5_rankOf l D cA s0 z b ν hG 7 a1 q10 hq11) ⟨rfl, rfl, nb rfl, nb rfl⟩ rfl (C_Led led7 hw) rfl hw (nb rfl) ⟨nb rfl, nb rfl⟩ dX11_amount_27) ?_
  obtain ⟨q12, hq13, hF⟩ := bnd_e hF
  refine x_goR (fun ls h => x_runV (As := [.int a1, .int a2, .ref (b + q7), .int q10]) [] h C ml_X11_250 (k_X5_lineAtRank l D cA s0 z b ν hG 7 q7 a1 a2 q10 q12 hq13) ⟨rfl, rfl, nb rfl, nb rfl⟩ rfl (C_Led led7 hw) rfl hw (nb rfl) ⟨nb rfl, nb rfl⟩ dX11_amount_30) ?_
  exact t_iret C rfl dX11_amount_33  (rt_o hF) rfl hw hS (nb rfl) (nb rfl)
noncomputable def g_X11_callTotal (ν : Mm) (a1 : Int32) : Option (Thr Int32) := bnd (g_X11_requireCall ν a1) (fun q1 => bnx q1 (fun q3 => asr (vp_in a1 40) ((if (ν.1 (7 + (22 + (cl a1))) 4) = 0 then bnd (g_X5_rankOf ν 7 a1) (fun q8 => bnd (g_X5_totalAtRank ν 7 a1 q8) (fun q10 => some (.ok q10))) else some (.ok (0 : Int32))))))
set_option maxRecDepth 20000 in
set_option maxHeartbeats 4000000 in
theorem k_X11_callTotal (l : Launch) (D : va_G) (cA : Nat → ClassId) (s0 : State) (z : Nat) (b : Nat) (ν : Mm) (sz : Nat) (hG : xG l D cA s0) (a1 : Int32) (r : Thr Int32) (hF : g_X11_callTotal ν a1 = some r) : vx_Met l yX11_callTotal (wsG yX11_callTotal cX11_callTotal 2 (some (FieldType.int))) { frames := 9, cells := 1, slots := 6, locals := 175 } (xP D cA s0 [.ref (b + 0), .int a1] (fun H => H.size = sz ∧ WC D cA s0 z b ν H)) (xQt (fun q => (some (.int q))) (fun _ H => WC D cA s0 z b ν H) (xA b 2628 sz) r) (xXt (fun H => WC D cA s0 z b ν H) (xA b 2628 sz) r) 1 6 (xA b 2628 sz) := by
  refine t_start (z := z) (b := b) (ν := ν) (s0 := s0) (own := RX11) [(0, .ref (b + 0)), (1, .int a1)] rfl rfl (by decide) (nb rfl) ?_
  intro p e s m args below meth c C hX hw
  obtain ⟨hsz, hw⟩ := hw
  subst hsz
  have hS : va_S (xA b 2628 s.heap.size) s.heap s.heap [] := va_S.rf
  refine x_aload_n C dX11_callTotal_0 rfl ?_
  refine x_iload_n C dX11_callTotal_1 rfl ?_
  obtain ⟨q1, hq2, hF⟩ := bnd_e hF
  refine t_goT (fun ls h => t_runV (As := [.int a1]) [] h C ml_X11_199 (k_X11_requireCall l D cA s0 z b ν _ hG a1 q1 hq2) ⟨rfl, rfl, nb rfl, nb rfl⟩ rfl (C_PD hw) rfl ⟨rfl, hw⟩ (nb rfl) ⟨nb rfl, nb rfl⟩ dX11_callTotal_2) hF hS (xA_le hS) C hX (fun _ h => h) (nb rfl) (nb rfl) (fun q3 hF H locs hw hS => ?_)
  refine x_widen (k := 1) (n := 6) (nb rfl) (nb rfl) ?_
  have hw : WC D cA s0 z b ν H := hw
  refine x_aload_n C dX11_callTotal_5 rfl ?_
  refine x_get (.ref (b + 7)) C fl_X11_24 (C_PD hw) rfl dX11_callTotal_6 ?_
  refine x_get (.ref (b + (7 + 2))) C fl_X11_202 (C_Led led7 hw) rfl dX11_callTotal_9 ?_
  refine x_iload_n C dX11_callTotal_12 rfl ?_
  obtain ⟨h4, hF⟩ := asr_e hF
  obtain ⟨hn5, hl6⟩ := vpn h4 (by decide)
  refine x_aald 4 C (C_calls led7 hw) rfl hn5 hl6 (by decide) rfl dX11_callTotal_13 ?_
  refine x_get (.int (ν.1 (7 + (22 + (cl a1))) 4)) C fl_X11_220 (C_Cal (mk_Cal led7 hl6) hw) rfl dX11_callTotal_14 ?_
  refine x_if_eq 22 C dX11_callTotal_17 (by decide) (fun c7 => ?_) (fun c7 => ?_)
  · have hF := ite_t hF c7
    refine x_aload_n C dX11_callTotal_22 rfl ?_
    refine x_get (.ref (b + 7)) C fl_X11_24 (C_PD hw) rfl dX11_callTotal_23 ?_
    refine x_iload_n C dX11_callTotal_26 rfl ?_
    refine x_aload_n C dX11_callTotal_27 rfl ?_
    refine x_get (.ref (b + 7)) C fl_X11_24 (C_PD hw) rfl dX11_callTotal_28 ?_
    refine x_iload_n C dX11_callTotal_31 rfl ?_
    obtain ⟨q8, hq9, hF⟩ := bnd_e hF
    refine x_goR (fun ls h => x_runV (As := [.int a1]) [.int a1, .ref (b + 7)] h C ml_X11_223 (k_X5_rankOf l D cA s0 z b ν hG 7 a1 q8 hq9) ⟨rfl, rfl, nb rfl, nb rfl⟩ rfl (C_Led led7 hw) rfl hw (nb rfl) ⟨nb rfl, nb rfl⟩ dX11_callTotal_32) ?_
    obtain ⟨q10, hq11, hF⟩ := bnd_e hF
    refine x_goR (fun ls h => x_runV (As := [.int a1, .int q8]) [] h C ml_X11_254 (k_X5_totalAtRank l D cA s0 z b ν hG 7 a1 q8 q10 hq11) ⟨rfl, rfl, nb rfl, nb rfl⟩ rfl (C_Led led7 hw) rfl hw (nb rfl) ⟨nb rfl, nb rfl⟩ dX11_callTotal_35) ?_
    exact t_iret C rfl dX11_callTotal_38  (rt_o hF) rfl hw hS (nb rfl) (nb rfl)
  · have hF := ite_f hF c7
    refine x_iconst (0 : Int32) C dX11_callTotal_20 rfl ?_
    exact t_iret C rfl dX11_callTotal_21  (rt_o hF) rfl hw hS (nb rfl) (nb rfl)
noncomputable def g_X11_requireInvoice (ν : Mm) (a1 : Int32) : Option (Thr Unit) := bnd (g_X11_requireIndex ν a1 (ν.1 7 7)) (fun q1 => bnx q1 (fun q3 => some (.ok ())))
set_option maxRecDepth 20000 in
set_option maxHeartbeats 4000000 in
theorem k_X11_requireInvoice (l : Launch) (D : va_G) (cA : Nat → ClassId) (s0 : State) (z : Nat) (b : Nat) (ν : Mm) (sz : Nat) (hG : xG l D cA s0) (a1 : Int32) (r : Thr Unit) (hF : g_X11_requireInvoice ν a1 = some r) : vx_Met l yX11_requireInvoice (wsG yX11_requireInvoice cX11_requireInvoice 2 none) { frames := 8, cells := 1, slots := 6, locals := 154 } (xP D cA s0 [.ref (b + 0), .int a1] (fun H => H.size = sz ∧ WC D cA s0 z b ν H)) (xQt (fun q => none) (fun _ H => WC D cA s0 z b ν H) (xA b 2628 sz) r) (xXt (fun H => WC D cA s0 z b ν H) (xA b 2628 sz) r) 1 6 (xA b 2628 sz) := by
  refine t_start (z := z) (b := b) (ν := ν) (s0 := s0) (own := RX11) [(0, .ref (b + 0)), (1, .int a1)] rfl rfl (by decide) (nb rfl) ?_
  intro p e s m args below meth c C hX hw
  obtain ⟨hsz, hw⟩ := hw
  subst hsz
  have hS : va_S (xA b 2628 s.heap.size) s.heap s.heap [] := va_S.rf
  refine x_iload_n C dX11_requireInvoice_0 rfl ?_
  refine x_aload_n C dX11_requireInvoice_1 rfl ?_
  refine x_get (.ref (b + 7)) C fl_X11_24 (C_PD hw) rfl dX11_requireInvoice_2 ?_
  refine x_get (.int (ν.1 7 7)) C fl_X11_106 (C_Led led7 hw) rfl dX11_requireInvoice_5 ?_
  obtain ⟨q1, hq2, hF⟩ := bnd_e hF
  refine t_goT (fun ls h => t_runS (As := [.int a1, .int (ν.1 7 7)]) [] h C ml_X11_153 (k_X11_requireIndex l D cA s0 z b ν _ hG a1 (ν.1 7 7) q1 hq2) ⟨rfl, rfl, nb rfl, nb rfl⟩ rfl ⟨rfl, hw⟩ (nb rfl) ⟨nb rfl, nb rfl⟩ dX11_requireInvoice_8) hF hS (xA_le hS) C hX (fun _ h => h) (nb rfl) (nb rfl) (fun q3 hF H locs hw hS => ?_)
  refine x_widen (k := 1) (n := 6) (nb rfl) (nb rfl) ?_
  have hw : WC D cA s0 z b ν H := hw
  exact t_vret C rfl dX11_requireInvoice_11 (rt_o hF) rfl hw hS (nb rfl) (nb rfl)
noncomputable def g_X11_invoice (ν : Mm) (a1 : Int32) (a2 : Int32) : Option (Thr Int32) := bnd (g_X11_requireInvoice ν a1) (fun q1 => bnx q1 (fun q3 => bnd (g_X11_requireRange ν a2 (0 : Int32) (5 : Int32)) (fun q4 => bnx q4 (fun q6 => asr (vp_in a1 60) ((if a2 = 0 then some (.ok (ν.1 (7 + (62 + 2 * (cl a1))) 1)) else (if a2 = 1 then some (.ok (ν.1 (7 + (62 + 2 * (cl a1))) 2)) else (if a2 = 2 then some (.ok (ν.1 (7 + (62 + 2 * (cl a1))) 3)) else (if a2 = 3 then some (.ok (ν.1 (7 + (62 + 2 * (cl a1))) 4)) else (if a2 = 4 then some (.ok (ν.1 (7 + (62 + 2 * (cl a1))) 5)) else some (.ok (ν.1 (7 + (62 + 2 * (cl a1))) 6))))))))))))
set_option maxRecDepth 20000 in
set_option maxHeartbeats 4000000 in
theorem k_X11_invoice (l : Launch) (D : va_G) (cA : Nat → ClassId) (s0 : State) (z : Nat) (b : Nat) (ν : Mm) (sz : Nat) (hG : xG l D cA s0) (a1 : Int32) (a2 : Int32) (r : Thr Int32) (hF : g_X11_invoice ν a1 a2 = some r) : vx_Met l yX11_invoice (wsG yX11_invoice cX11_invoice 4 (some (FieldType.int))) { frames := 9, cells := 2, slots := 12, locals := 175 } (xP D cA s0 [.ref (b + 0), .int a1, .int a2] (fun H => H.size = sz ∧ WC D cA s0 z b ν H)) (xQt (fun q => (some (.int q))) (fun _ H => WC D cA s0 z b ν H) (xA b 2628 sz) r) (xXt (fun H => WC D cA s0 z b ν H) (xA b 2628 sz) r) 2 12 (xA b 2628 sz) := by
  refine t_start (z := z) (b := b) (ν := ν) (s0 := s0) (own := RX11) [(0, .ref (b + 0)), (1, .int a1), (2, .int a2)] rfl rfl (by decide) (nb rfl) ?_
  intro p e s m args below meth c C hX hw
  obtain ⟨hsz, hw⟩ := hw
  subst hsz
  have hS : va_S (xA b 2628 s.heap.size) s.heap s.heap [] := va_S.rf
  refine x_aload_n C dX11_invoice_0 rfl ?_
  refine x_iload_n C dX11_invoice_1 rfl ?_
  obtain ⟨q1, hq2, hF⟩ := bnd_e hF
  refine t_goT (fun ls h => t_runV (As := [.int a1]) [] h C ml_X11_257 (k_X11_requireInvoice l D cA s0 z b ν _ hG a1 q1 hq2) ⟨rfl, rfl, nb rfl, nb rfl⟩ rfl (C_PD hw) rfl ⟨rfl, hw⟩ (nb rfl) ⟨nb rfl, nb rfl⟩ dX11_invoice_2) hF hS (xA_le hS) C hX (fun _ h => h) (nb rfl) (nb rfl) (fun q3 hF H locs hw hS => ?_)
  refine x_widen (k := 1) (n := 6) (nb rfl) (nb rfl) ?_
  have hw : WC D cA s0 z b ν H := hw
  refine x_iload_n C dX11_invoice_5 rfl ?_
  refine x_iconst (0 : Int32) C dX11_invoice_6 rfl ?_
  refine x_iconst (5 : Int32) C dX11_invoice_7 rfl ?_
  obtain ⟨q4, hq5, hF⟩ := bnd_e hF
  refine t_goT (fun ls h => t_runS (As := [.int a2, .int (0 : Int32), .int (5 : Int32)]) [] h C ml_X11_76 (k_X11_requireRange l D cA s0 z b ν _ hG a2 (0 : Int32) (5 : Int32) q4 hq5) ⟨rfl, rfl, nb rfl, nb rfl⟩ rfl ⟨rfl, hw⟩ (nb rfl) ⟨nb rfl, nb rfl⟩ dX11_invoice_8) hF hS (xA_le hS) C hX (fun _ h => h) (nb rfl) (nb rfl) (fun q6 hF H locs hw hS => ?_)
  refine x_widen (k := 2) (n := 12) (nb rfl) (nb rfl) ?_
  have hw : WC D cA s0 z b ν H := hw
  refine x_aload_n C dX11_invoice_11 rfl ?_
  refine x_get (.ref (b + 7)) C fl_X11_24 (C_PD hw) rfl dX11_invoice_12 ?_
  refine x_get (.ref (b + (7 + 3))) C fl_X11_260 (C_Led led7 hw) rfl dX11_invoice_15 ?_
  refine x_iload_n C dX11_invoice_18 rfl ?_
  obtain ⟨h7, hF⟩ := asr_e hF
  obtain ⟨hn8, hl9⟩ := vpn h7 (by decide)
  refine x_aald 5 C (C_invoices led7 hw) rfl hn8 hl9 (by decide) rfl dX11_invoice_19 ?_
  refine x_astore_n [(3, .ref (b + (7 + (62 + 2 * (cl a1))))), (0, .ref (b + 0)), (1, .int a1), (2, .int a2)] C dX11_invoice_20 rfl (by decide) rfl ?_
  refine x_iload_n C dX11_invoice_21 rfl ?_
  by_cases c10 : a2 = 0
  · have hF := ite_t hF c10
    refine x_tabIn 0 56 C dX11_invoice_22 (by rw [c10]; rfl) (by decide) (by decide) rfl (by decide) ?_
    refine x_aload_n C dX11_invoice_56 rfl ?_
    refine x_get (.int (ν.1 (7 + (62 + 2 * (cl a1))) 1)) C fl_X11_264 (C_Inv (mk_Inv led7 hl9) hw) rfl dX11_invoice_57 ?_
    exact t_iret C rfl dX11_invoice_60  (rt_o hF) rfl hw hS (nb rfl) (nb rfl)
  · have hF := ite_f hF c10
    by_cases c11 : a2 = 1
    · have hF := ite_t hF c11
      refine x_tabIn 1 61 C dX11_invoice_22 (by rw [c11]; rfl) (by decide) (by decide) rfl (by decide) ?_
      refine x_aload_n C dX11_invoice_61 rfl ?_
      refine x_get (.int (ν.1 (7 + (62 + 2 * (cl a1))) 2)) C fl_X11_269 (C_Inv (mk_Inv led7 hl9) hw) rfl dX11_invoice_62 ?_
      exact t_iret C rfl dX11_invoice_65  (rt_o hF) rfl hw hS (nb rfl) (nb rfl)
    · have hF := ite_f hF c11
      by_cases c12 : a2 = 2
      · have hF := ite_t hF c12
        refine x_tabIn 2 66 C dX11_invoice_22 (by rw [c12]; rfl) (by decide) (by decide) rfl (by decide) ?_
        refine x_aload_n C dX11_invoice_66 rfl ?_
        refine x_get (.int (ν.1 (7 + (62 + 2 * (cl a1))) 3)) C fl_X11_272 (C_Inv (mk_Inv led7 hl9) hw) rfl dX11_invoice_67 ?_
        exact t_iret C rfl dX11_invoice_70  (rt_o hF) rfl hw hS (nb rfl) (nb rfl)
      · have hF := ite_f hF c12
        by_cases c13 : a2 = 3
        · have hF := ite_t hF c13
          refine x_tabIn 3 71 C dX11_invoice_22 (by rw [c13]; rfl) (by decide) (by decide) rfl (by decide) ?_
          refine x_aload_n C dX11_invoice_71 rfl ?_
          refine x_get (.int (ν.1 (7 + (62 + 2 * (cl a1))) 4)) C fl_X11_273 (C_Inv (mk_Inv led7 hl9) hw) rfl dX11_invoice_72 ?_
          exact t_iret C rfl dX11_invoice_75  (rt_o hF) rfl hw hS (nb rfl) (nb rfl)
        · have hF := ite_f hF c13
          by_cases c14 : a2 = 4
          · have hF := ite_t hF c14
            refine x_tabIn 4 76 C dX11_invoice_22 (by rw [c14]; rfl) (by decide) (by decide) rfl (by decide) ?_
            refine x_aload_n C dX11_invoice_76 rfl ?_
            refine x_get (.int (ν.1 (7 + (62 + 2 * (cl a1))) 5)) C fl_X11_276 (C_Inv (mk_Inv led7 hl9) hw) rfl dX11_invoice_77 ?_
            exact t_iret C rfl dX11_invoice_80  (rt_o hF) rfl hw hS (nb rfl) (nb rfl)
          · have hF := ite_f hF c14
            have t15 : a2.toInt ≠ 0 := fun z => c10 ((fa_eqI _ _).mpr z)
            have t16 : a2.toInt ≠ 1 := fun z => c11 ((fa_eqI _ _).mpr z)
            have t17 : a2.toInt ≠ 2 := fun z => c12 ((fa_eqI _ _).mpr z)
            have t18 : a2.toInt ≠ 3 := fun z => c13 ((fa_eqI _ _).mpr z)
            have t19 : a2.toInt ≠ 4 := fun z => c14 ((fa_eqI _ _).mpr z)
            refine x_tabOut 81 C dX11_invoice_22 (by omega) (by decide) ?_
            refine x_aload_n C dX11_invoice_81 rfl ?_
            refine x_get (.int (ν.1 (7 + (62 + 2 * (cl a1))) 6)) C fl_X11_279 (C_Inv (mk_Inv led7 hl9) hw) rfl dX11_invoice_82 ?_
            exact t_iret C rfl dX11_invoice_85  (rt_o hF) rfl hw hS (nb rfl) (nb rfl)
noncomputable def g_X11_line (ν : Mm) (a1 : Int32) (a2 : Int32) : Option (Thr Int32) := bnd (g_X11_requireInvoice ν a1) (fun q1 => bnx q1 (fun q3 => bnd (g_X11_requireLine ν a2) (fun q4 => bnx q4 (fun q6 => asr (vp_in a1 60) (asr (vp_in a2 4) (some (.ok (ν.1 ((7 + (62 + 2 * (cl a1))) + 1) (cl a2)))))))))
set_option maxRecDepth 20000 in
set_option maxHeartbeats 4000000 in
theorem k_X11_line (l : Launch) (D : va_G) (cA : Nat → ClassId) (s0 : State) (z : Nat) (b : Nat) (ν : Mm) (sz : Nat) (hG : xG l D cA s0) (a1 : Int32) (a2 : Int32) (r : Thr Int32) (hF : g_X11_line ν a1 a2 = some r) : vx_Met l yX11_line (wsG yX11_line cX11_line 3 (some (FieldType.int))) { frames := 10, cells := 2, slots := 12, locals := 195 } (xP D cA s0 [.ref (b + 0), .int a1, .int a2] (fun H => H.size = sz ∧ WC D cA s0 z b ν H)) (xQt (fun q => (some (.int q))) (fun _ H => WC D cA s0 z b ν H) (xA b 2628 sz) r) (xXt (fun H => WC D cA s0 z b ν H) (xA b 2628 sz) r) 2 12 (xA b 2628 sz) := by
  refine t_start (z := z) (b := b) (ν := ν) (s0 := s0) (own := RX11) [(0, .ref (b + 0)), (1, .int a1), (2, .int a2)] rfl rfl (by decide) (nb rfl) ?_
  intro p e s m args below meth c C hX hw
  obtain ⟨hsz, hw⟩ := hw
  subst hsz
  have hS : va_S (xA b 2628 s.heap.size) s.heap s.heap [] := va_S.rf
  refine x_aload_n C dX11_line_0 rfl ?_
  refine x_iload_n C dX11_line_1 rfl ?_
  obtain ⟨q1, hq2, hF⟩ := bnd_e hF
  refine t_goT (fun ls h => t_runV (As := [.int a1]) [] h C ml_X11_257 (k_X11_requireInvoice l D cA s0 z b ν _ hG a1 q1 hq2) ⟨rfl, rfl, nb rfl, nb rfl⟩ rfl (C_PD hw) rfl ⟨rfl, hw⟩ (nb rfl) ⟨nb rfl, nb rfl⟩ dX11_line_2) hF hS (xA_le hS) C hX (fun _ h => h) (nb rfl) (nb rfl) (fun q3 hF H locs hw hS => ?_)
  refine x_widen (k := 1) (n := 6) (nb rfl) (nb rfl) ?_
  have hw : WC D cA s0 z b ν H := hw
  refine x_iload_n C dX11_line_5 rfl ?_
  obtain ⟨q4, hq5, hF⟩ := bnd_e hF
  refine t_goT (fun ls h => t_runS (As := [.int a2]) [] h C ml_X11_247 (k_X11_requireLine l D cA s0 z b ν _ hG a2 q4 hq5) ⟨rfl, rfl, nb rfl, nb rfl⟩ rfl ⟨rfl, hw⟩ (nb rfl) ⟨nb rfl, nb rfl⟩ dX11_line_6) hF hS (xA_le hS) C hX (fun _ h => h) (nb rfl) (nb rfl) (fun q6 hF H locs hw hS => ?_)
  refine x_widen (k := 2) (n := 12) (nb rfl) (nb rfl) ?_
  have hw : WC D cA s0 z b ν H := hw
  refine x_aload_n C dX11_line_9 rfl ?_
  refine x_get (.ref (b + 7)) C fl_X11_24 (C_PD hw) rfl dX11_line_10 ?_
  refine x_get (.ref (b + (7 + 3))) C fl_X11_260 (C_Led led7 hw) rfl dX11_line_13 ?_
  refine x_iload_n C dX11_line_16 rfl ?_
  obtain ⟨h7, hF⟩ := asr_e hF
  obtain ⟨hn8, hl9⟩ := vpn h7 (by decide)
  refine x_aald 5 C (C_invoices led7 hw) rfl hn8 hl9 (by decide) rfl dX11_line_17 ?_
  refine x_get (.ref (b + ((7 + (62 + 2 * (cl a1))) + 1))) C fl_X11_282 (C_Inv (mk_Inv led7 hl9) hw) rfl dX11_line_18 ?_
  refine x_iload_n C dX11_line_21 rfl ?_
  obtain ⟨h10, hF⟩ := asr_e hF
  obtain ⟨hn11, hl12⟩ := vpn h10 (by decide)
  refine x_ialdN C (C_amounts (mk_Inv led7 hl9) hw) hn11 hl12 (by decide) dX11_line_22 ?_
  exact t_iret C rfl dX11_line_23  (rt_o hF) rfl hw hS (nb rfl) (nb rfl)
