noncomputable def g_X11_dues (ν : Mm) (a1 : Int32) : Option (Thr Int32) := bnd (g_X11_requireRange ν a1 (0 : Int32) (9999 : Int32)) (fun q1 => bnx q1 (fun q3 => bnd (g_X5_present ν 7) (fun q4 => asr (isTar q4) (bnd (g_X10_duesFor ν q4 a1) (fun q7 => some (.ok q7))))))
set_option maxRecDepth 20000 in
set_option maxHeartbeats 4000000 in
theorem k_X11_dues (l : Launch) (D : va_G) (cA : Nat → ClassId) (s0 : State) (z : Nat) (b : Nat) (ν : Mm) (sz : Nat) (hG : xG l D cA s0) (a1 : Int32) (r : Thr Int32) (hF : g_X11_dues ν a1 = some r) : vx_Met l yX11_dues (wsG yX11_dues cX11_dues 2 (some (FieldType.int))) { frames := 9, cells := 1, slots := 6, locals := 175 } (xP D cA s0 [.ref (b + 0), .int a1] (fun H => H.size = sz ∧ WC D cA s0 z b ν H)) (xQt (fun q => (some (.int q))) (fun _ H => WC D cA s0 z b ν H) (xA b 2564 sz) r) (xXt (fun H => WC D cA s0 z b ν H) (xA b 2564 sz) r) 1 6 (xA b 2564 sz) := by
  refine t_start (z := z) (b := b) (ν := ν) (s0 := s0) (own := RX11) [(0, .ref (b + 0)), (1, .int a1)] rfl rfl (by decide) (nb rfl) ?_
  intro p e s m args below meth c C hX hw
  obtain ⟨hsz, hw⟩ := hw
  subst hsz
  have hS : va_S (xA b 2564 s.heap.size) s.heap s.heap [] := va_S.rf
  refine x_iload_n C dX11_dues_0 rfl ?_
  refine x_iconst (0 : Int32) C dX11_dues_1 rfl ?_
  refine x_sipush (9999 : Int32) C dX11_dues_2 rfl ?_
  obtain ⟨q1, hq2, hF⟩ := bnd_e hF
  refine t_goT (fun ls h => t_runS (As := [.int a1, .int (0 : Int32), .int (9999 : Int32)]) [] h C ml_X11_76 (k_X11_requireRange l D cA s0 z b ν _ hG a1 (0 : Int32) (9999 : Int32) q1 hq2) ⟨rfl, rfl, nb rfl, nb rfl⟩ rfl ⟨rfl, hw⟩ (nb rfl) ⟨nb rfl, nb rfl⟩ dX11_dues_5) hF hS (xA_le hS) C hX (fun _ h => h) (nb rfl) (nb rfl) (fun q3 hF H locs hw hS => ?_)
  refine x_widen (k := 1) (n := 6) (nb rfl) (nb rfl) ?_
  have hw : WC D cA s0 z b ν H := hw
  refine x_aload_n C dX11_dues_8 rfl ?_
  refine x_get (.ref (b + 7)) C fl_X11_24 (C_PD hw) rfl dX11_dues_9 ?_
  obtain ⟨q4, hq5, hF⟩ := bnd_e hF
  refine x_goR (fun ls h => x_runV (As := []) [] h C ml_X11_118 (k_X5_present l D cA s0 z b ν hG 7 q4 hq5) ⟨rfl, rfl, nb rfl, nb rfl⟩ rfl (C_Led led7 hw) rfl hw (nb rfl) ⟨nb rfl, nb rfl⟩ dX11_dues_12) ?_
  obtain ⟨h6, hF⟩ := asr_e hF
  refine x_iload_n C dX11_dues_15 rfl ?_
  obtain ⟨q7, hq8, hF⟩ := bnd_e hF
  refine x_goR (fun ls h => x_runV (As := [.int a1]) [] h C ml_X11_174 (k_X10_duesFor l D cA s0 z b ν hG q4 a1 q7 hq8) ⟨rfl, rfl, nb rfl, nb rfl⟩ rfl (C_Tar h6 hw) rfl hw (nb rfl) ⟨nb rfl, nb rfl⟩ dX11_dues_16) ?_
  exact t_iret C rfl dX11_dues_19  (rt_o hF) rfl hw hS (nb rfl) (nb rfl)
noncomputable def g_X11_tonsIn (ν : Mm) (a1 : Int32) (a2 : Int32) : Option (Thr Int32) := bnd (g_X5_present ν 7) (fun q1 => asr (isTar q1) (bnd (g_X11_requireIndex ν a2 (ν.1 q1 4)) (fun q4 => bnx q4 (fun q6 => bnd (g_X11_requireRange ν a1 (0 : Int32) (9999 : Int32)) (fun q7 => bnx q7 (fun q9 => bnd (g_X5_present ν 7) (fun q10 => asr (isTar q10) (bnd (g_X10_tonsWithin ν q10 a1 a2) (fun q13 => some (.ok q13))))))))))
set_option maxRecDepth 20000 in
set_option maxHeartbeats 4000000 in
theorem k_X11_tonsIn (l : Launch) (D : va_G) (cA : Nat → ClassId) (s0 : State) (z : Nat) (b : Nat) (ν : Mm) (sz : Nat) (hG : xG l D cA s0) (a1 : Int32) (a2 : Int32) (r : Thr Int32) (hF : g_X11_tonsIn ν a1 a2 = some r) : vx_Met l yX11_tonsIn (wsG yX11_tonsIn cX11_tonsIn 3 (some (FieldType.int))) { frames := 9, cells := 2, slots := 12, locals := 175 } (xP D cA s0 [.ref (b + 0), .int a1, .int a2] (fun H => H.size = sz ∧ WC D cA s0 z b ν H)) (xQt (fun q => (some (.int q))) (fun _ H => WC D cA s0 z b ν H) (xA b 2564 sz) r) (xXt (fun H => WC D cA s0 z b ν H) (xA b 2564 sz) r) 2 12 (xA b 2564 sz) := by
  refine t_start (z := z) (b := b) (ν := ν) (s0 := s0) (own := RX11) [(0, .ref (b + 0)), (1, .int a1), (2, .int a2)] rfl rfl (by decide) (nb rfl) ?_
  intro p e s m args below meth c C hX hw
  obtain ⟨hsz, hw⟩ := hw
  subst hsz
  have hS : va_S (xA b 2564 s.heap.size) s.heap s.heap [] := va_S.rf
  refine x_iload_n C dX11_tonsIn_0 rfl ?_
  refine x_aload_n C dX11_tonsIn_1 rfl ?_
  refine x_get (.ref (b + 7)) C fl_X11_24 (C_PD hw) rfl dX11_tonsIn_2 ?_
  obtain ⟨q1, hq2, hF⟩ := bnd_e hF
  refine x_goR (fun ls h => x_runV (As := []) [.int a2] h C ml_X11_118 (k_X5_present l D cA s0 z b ν hG 7 q1 hq2) ⟨rfl, rfl, nb rfl, nb rfl⟩ rfl (C_Led led7 hw) rfl hw (nb rfl) ⟨Nat.zero_le _, Nat.zero_le _⟩ dX11_tonsIn_5) ?_
  obtain ⟨h3, hF⟩ := asr_e hF
  refine x_get (.int (ν.1 q1 4)) C fl_X11_122 (C_Tar h3 hw) rfl dX11_tonsIn_8 ?_
  obtain ⟨q4, hq5, hF⟩ := bnd_e hF
  refine t_goT (fun ls h => t_runS (As := [.int a2, .int (ν.1 q1 4)]) [] h C ml_X11_153 (k_X11_requireIndex l D cA s0 z b ν _ hG a2 (ν.1 q1 4) q4 hq5) ⟨rfl, rfl, nb rfl, nb rfl⟩ rfl ⟨rfl, hw⟩ (nb rfl) ⟨nb rfl, nb rfl⟩ dX11_tonsIn_11) hF hS (xA_le hS) C hX (fun _ h => h) (nb rfl) (nb rfl) (fun q6 hF H locs hw hS => ?_)
  refine x_widen (k := 1) (n := 6) (nb rfl) (nb rfl) ?_
  have hw : WC D cA s0 z b ν H := hw
  refine x_iload_n C dX11_tonsIn_14 rfl ?_
  refine x_iconst (0 : Int32) C dX11_tonsIn_15 rfl ?_
  refine x_sipush (9999 : Int32) C dX11_tonsIn_16 rfl ?_
  obtain ⟨q7, hq8, hF⟩ := bnd_e hF
  refine t_goT (fun ls h => t_runS (As := [.int a1, .int (0 : Int32), .int (9999 : Int32)]) [] h C ml_X11_76 (k_X11_requireRange l D cA s0 z b ν _ hG a1 (0 : Int32) (9999 : Int32) q7 hq8) ⟨rfl, rfl, nb rfl, nb rfl⟩ rfl ⟨rfl, hw⟩ (nb rfl) ⟨nb rfl, nb rfl⟩ dX11_tonsIn_19) hF hS (xA_le hS) C hX (fun _ h => h) (nb rfl) (nb rfl) (fun q9 hF H locs hw hS => ?_)
  refine x_widen (k := 2) (n := 12) (nb rfl) (nb rfl) ?_
  have hw : WC D cA s0 z b ν H := hw
  refine x_aload_n C dX11_tonsIn_22 rfl ?_
  refine x_get (.ref (b + 7)) C fl_X11_24 (C_PD hw) rfl dX11_tonsIn_23 ?_
  obtain ⟨q10, hq11, hF⟩ := bnd_e hF
  refine x_goR (fun ls h => x_runV (As := []) [] h C ml_X11_118 (k_X5_present l D cA s0 z b ν hG 7 q10 hq11) ⟨rfl, rfl, nb rfl, nb rfl⟩ rfl (C_Led led7 hw) rfl hw (nb rfl) ⟨nb rfl, nb rfl⟩ dX11_tonsIn_26) ?_
  obtain ⟨h12, hF⟩ := asr_e hF
  refine x_iload_n C dX11_tonsIn_29 rfl ?_
  refine x_iload_n C dX11_tonsIn_30 rfl ?_
  obtain ⟨q13, hq14, hF⟩ := bnd_e hF
  refine x_goR (fun ls h => x_runV (As := [.int a1, .int a2]) [] h C ml_X11_177 (k_X10_tonsWithin l D cA s0 z b ν hG q10 a1 a2 q13 hq14) ⟨rfl, rfl, nb rfl, nb rfl⟩ rfl (C_Tar h12 hw) rfl hw (nb rfl) ⟨nb rfl, nb rfl⟩ dX11_tonsIn_31) ?_
  exact t_iret C rfl dX11_tonsIn_34  (rt_o hF) rfl hw hS (nb rfl) (nb rfl)
noncomputable def g_X11_wasteFee (ν : Mm) (a1 : Int32) : Option (Thr Int32) := bnd (g_X11_requireRange ν a1 (0 : Int32) (999 : Int32)) (fun q1 => bnx q1 (fun q3 => bnd (g_X5_present ν 7) (fun q4 => asr (isTar q4) (bnd (g_X10_wasteFeeFor ν q4 a1) (fun q7 => some (.ok q7))))))
set_option maxRecDepth 20000 in
set_option maxHeartbeats 4000000 in
theorem k_X11_wasteFee (l : Launch) (D : va_G) (cA : Nat → ClassId) (s0 : State) (z : Nat) (b : Nat) (ν : Mm) (sz : Nat) (hG : xG l D cA s0) (a1 : Int32) (r : Thr Int32) (hF : g_X11_wasteFee ν a1 = some r) : vx_Met l yX11_wasteFee (wsG yX11_wasteFee cX11_wasteFee 2 (some (FieldType.int))) { frames := 9, cells := 1, slots := 6, locals := 175 } (xP D cA s0 [.ref (b + 0), .int a1] (fun H => H.size = sz ∧ WC D cA s0 z b ν H)) (xQt (fun q => (some (.int q))) (fun _ H => WC D cA s0 z b ν H) (xA b 2564 sz) r) (xXt (fun H => WC D cA s0 z b ν H) (xA b 2564 sz) r) 1 6 (xA b 2564 sz) := by
  refine t_start (z := z) (b := b) (ν := ν) (s0 := s0) (own := RX11) [(0, .ref (b + 0)), (1, .int a1)] rfl rfl (by decide) (nb rfl) ?_
  intro p e s m args below meth c C hX hw
  obtain ⟨hsz, hw⟩ := hw
  subst hsz
  have hS : va_S (xA b 2564 s.heap.size) s.heap s.heap [] := va_S.rf
  refine x_iload_n C dX11_wasteFee_0 rfl ?_
  refine x_iconst (0 : Int32) C dX11_wasteFee_1 rfl ?_
  refine x_sipush (999 : Int32) C dX11_wasteFee_2 rfl ?_
  obtain ⟨q1, hq2, hF⟩ := bnd_e hF
  refine t_goT (fun ls h => t_runS (As := [.int a1, .int (0 : Int32), .int (999 : Int32)]) [] h C ml_X11_76 (k_X11_requireRange l D cA s0 z b ν _ hG a1 (0 : Int32) (999 : Int32) q1 hq2) ⟨rfl, rfl, nb rfl, nb rfl⟩ rfl ⟨rfl, hw⟩ (nb rfl) ⟨nb rfl, nb rfl⟩ dX11_wasteFee_5) hF hS (xA_le hS) C hX (fun _ h => h) (nb rfl) (nb rfl) (fun q3 hF H locs hw hS => ?_)
  refine x_widen (k := 1) (n := 6) (nb rfl) (nb rfl) ?_
  have hw : WC D cA s0 z b ν H := hw
  refine x_aload_n C dX11_wasteFee_8 rfl ?_
  refine x_get (.ref (b + 7)) C fl_X11_24 (C_PD hw) rfl dX11_wasteFee_9 ?_
  obtain ⟨q4, hq5, hF⟩ := bnd_e hF
  refine x_goR (fun ls h => x_runV (As := []) [] h C ml_X11_118 (k_X5_present l D cA s0 z b ν hG 7 q4 hq5) ⟨rfl, rfl, nb rfl, nb rfl⟩ rfl (C_Led led7 hw) rfl hw (nb rfl) ⟨nb rfl, nb rfl⟩ dX11_wasteFee_12) ?_
  obtain ⟨h6, hF⟩ := asr_e hF
  refine x_iload_n C dX11_wasteFee_15 rfl ?_
  obtain ⟨q7, hq8, hF⟩ := bnd_e hF
  refine x_goR (fun ls h => x_runV (As := [.int a1]) [] h C ml_X11_181 (k_X10_wasteFeeFor l D cA s0 z b ν hG q4 a1 q7 hq8) ⟨rfl, rfl, nb rfl, nb rfl⟩ rfl (C_Tar h6 hw) rfl hw (nb rfl) ⟨nb rfl, nb rfl⟩ dX11_wasteFee_16) ?_
  exact t_iret C rfl dX11_wasteFee_19  (rt_o hF) rfl hw hS (nb rfl) (nb rfl)
noncomputable def g_X11_requireShip (ν : Mm) (a1 : Int32) : Option (Thr Unit) := bnd (g_X11_requireIndex ν a1 (ν.1 7 5)) (fun q1 => bnx q1 (fun q3 => some (.ok ())))
set_option maxRecDepth 20000 in
set_option maxHeartbeats 4000000 in
theorem k_X11_requireShip (l : Launch) (D : va_G) (cA : Nat → ClassId) (s0 : State) (z : Nat) (b : Nat) (ν : Mm) (sz : Nat) (hG : xG l D cA s0) (a1 : Int32) (r : Thr Unit) (hF : g_X11_requireShip ν a1 = some r) : vx_Met l yX11_requireShip (wsG yX11_requireShip cX11_requireShip 2 none) { frames := 8, cells := 1, slots := 6, locals := 154 } (xP D cA s0 [.ref (b + 0), .int a1] (fun H => H.size = sz ∧ WC D cA s0 z b ν H)) (xQt (fun q => none) (fun _ H => WC D cA s0 z b ν H) (xA b 2564 sz) r) (xXt (fun H => WC D cA s0 z b ν H) (xA b 2564 sz) r) 1 6 (xA b 2564 sz) := by
  refine t_start (z := z) (b := b) (ν := ν) (s0 := s0) (own := RX11) [(0, .ref (b + 0)), (1, .int a1)] rfl rfl (by decide) (nb rfl) ?_
  intro p e s m args below meth c C hX hw
  obtain ⟨hsz, hw⟩ := hw
  subst hsz
  have hS : va_S (xA b 2564 s.heap.size) s.heap s.heap [] := va_S.rf
  refine x_iload_n C dX11_requireShip_0 rfl ?_
  refine x_aload_n C dX11_requireShip_1 rfl ?_
  refine x_get (.ref (b + 7)) C fl_X11_24 (C_PD hw) rfl dX11_requireShip_2 ?_
  refine x_get (.int (ν.1 7 5)) C fl_X11_90 (C_Led led7 hw) rfl dX11_requireShip_5 ?_
  obtain ⟨q1, hq2, hF⟩ := bnd_e hF
  refine t_goT (fun ls h => t_runS (As := [.int a1, .int (ν.1 7 5)]) [] h C ml_X11_153 (k_X11_requireIndex l D cA s0 z b ν _ hG a1 (ν.1 7 5) q1 hq2) ⟨rfl, rfl, nb rfl, nb rfl⟩ rfl ⟨rfl, hw⟩ (nb rfl) ⟨nb rfl, nb rfl⟩ dX11_requireShip_8) hF hS (xA_le hS) C hX (fun _ h => h) (nb rfl) (nb rfl) (fun q3 hF H locs hw hS => ?_)
  refine x_widen (k := 1) (n := 6) (nb rfl) (nb rfl) ?_
  have hw : WC D cA s0 z b ν H := hw
  exact t_vret C rfl dX11_requireShip_11 (rt_o hF) rfl hw hS (nb rfl) (nb rfl)
noncomputable def g_X11_tons (ν : Mm) (a1 : Int32) : Option (Thr Int32) := bnd (g_X11_requireShip ν a1) (fun q1 => bnx q1 (fun q3 => asr (vp_in a1 8) (some (.ok (ν.1 (7 + (6 + (cl a1))) 1)))))
set_option maxRecDepth 20000 in
set_option maxHeartbeats 4000000 in
theorem k_X11_tons (l : Launch) (D : va_G) (cA : Nat → ClassId) (s0 : State) (z : Nat) (b : Nat) (ν : Mm) (sz : Nat) (hG : xG l D cA s0) (a1 : Int32) (r : Thr Int32) (hF : g_X11_tons ν a1 = some r) : vx_Met l yX11_tons (wsG yX11_tons cX11_tons 2 (some (FieldType.int))) { frames := 9, cells := 1, slots := 6, locals := 175 } (xP D cA s0 [.ref (b + 0), .int a1] (fun H => H.size = sz ∧ WC D cA s0 z b ν H)) (xQt (fun q => (some (.int q))) (fun _ H => WC D cA s0 z b ν H) (xA b 2564 sz) r) (xXt (fun H => WC D cA s0 z b ν H) (xA b 2564 sz) r) 1 6 (xA b 2564 sz) := by
  refine t_start (z := z) (b := b) (ν := ν) (s0 := s0) (own := RX11) [(0, .ref (b + 0)), (1, .int a1)] rfl rfl (by decide) (nb rfl) ?_
  intro p e s m args below meth c C hX hw
  obtain ⟨hsz, hw⟩ := hw
  subst hsz
  have hS : va_S (xA b 2564 s.heap.size) s.heap s.heap [] := va_S.rf
  refine x_aload_n C dX11_tons_0 rfl ?_
  refine x_iload_n C dX11_tons_1 rfl ?_
  obtain ⟨q1, hq2, hF⟩ := bnd_e hF
  refine t_goT (fun ls h => t_runV (As := [.int a1]) [] h C ml_X11_184 (k_X11_requireShip l D cA s0 z b ν _ hG a1 q1 hq2) ⟨rfl, rfl, nb rfl, nb rfl⟩ rfl (C_PD hw) rfl ⟨rfl, hw⟩ (nb rfl) ⟨nb rfl, nb rfl⟩ dX11_tons_2) hF hS (xA_le hS) C hX (fun _ h => h) (nb rfl) (nb rfl) (fun q3 hF H locs hw hS => ?_)
  refine x_widen (k := 1) (n := 6) (nb rfl) (nb rfl) ?_
  have hw : WC D cA s0 z b ν H := hw
  refine x_aload_n C dX11_tons_5 rfl ?_
  refine x_get (.ref (b + 7)) C fl_X11_24 (C_PD hw) rfl dX11_tons_6 ?_
  refine x_get (.ref (b + (7 + 1))) C fl_X11_187 (C_Led led7 hw) rfl dX11_tons_9 ?_
  refine x_iload_n C dX11_tons_12 rfl ?_
  obtain ⟨h4, hF⟩ := asr_e hF
  obtain ⟨hn5, hl6⟩ := vpn h4 (by decide)
  refine x_aald 3 C (C_ships led7 hw) rfl hn5 hl6 (by decide) rfl dX11_tons_13 ?_
  obtain ⟨nr7, hq8, hst9⟩ := C_Ship (mk_Ship led7 hl6) hw
  refine x_get (.int (ν.1 (7 + (6 + (cl a1))) 1)) C fl_X11_191 hq8 rfl dX11_tons_14 ?_
  exact t_iret C rfl dX11_tons_17  (rt_o hF) rfl hw hS (nb rfl) (nb rfl)
noncomputable def g_X11_calls (ν : Mm) (a1 : Int32) (a2 : Int32) : Option (Thr Int32) := bnd (g_X11_requireShip ν a1) (fun q1 => bnx q1 (fun q3 => bnd (g_X11_requireRange ν a2 (0 : Int32) (9 : Int32)) (fun q4 => bnx q4 (fun q6 => bnd (g_X5_callsInYear ν 7 a1 a2) (fun q7 => some (.ok q7))))))
set_option maxRecDepth 20000 in
set_option maxHeartbeats 4000000 in
theorem k_X11_calls (l : Launch) (D : va_G) (cA : Nat → ClassId) (s0 : State) (z : Nat) (b : Nat) (ν : Mm) (sz : Nat) (hG : xG l D cA s0) (a1 : Int32) (a2 : Int32) (r : Thr Int32) (hF : g_X11_calls ν a1 a2 = some r) : vx_Met l yX11_calls (wsG yX11_calls cX11_calls 3 (some (FieldType.int))) { frames := 9, cells := 2, slots := 12, locals := 175 } (xP D cA s0 [.ref (b + 0), .int a1, .int a2] (fun H => H.size = sz ∧ WC D cA s0 z b ν H)) (xQt (fun q => (some (.int q))) (fun _ H => WC D cA s0 z b ν H) (xA b 2564 sz) r) (xXt (fun H => WC D cA s0 z b ν H) (xA b 2564 sz) r) 2 12 (xA b 2564 sz) := by
  refine t_start (z := z) (b := b) (ν := ν) (s0 := s0) (own := RX11) [(0, .ref (b + 0)), (1, .int a1), (2, .int a2)] rfl rfl (by decide) (nb rfl) ?_
  intro p e s m args below meth c C hX hw
  obtain ⟨hsz, hw⟩ := hw
  subst hsz
  have hS : va_S (xA b 2564 s.heap.size) s.heap s.heap [] := va_S.rf
  refine x_aload_n C dX11_calls_0 rfl ?_
  refine x_iload_n C dX11_calls_1 rfl ?_
  obtain ⟨q1, hq2, hF⟩ := bnd_e hF
  refine t_goT (fun ls h => t_runV (As := [.int a1]) [] h C ml_X11_184 (k_X11_requireShip l D cA s0 z b ν _ hG a1 q1 hq2) ⟨rfl, rfl, nb rfl, nb rfl⟩ rfl (C_PD hw) rfl ⟨rfl, hw⟩ (nb rfl) ⟨nb rfl, nb rfl⟩ dX11_calls_2) hF hS (xA_le hS) C hX (fun _ h => h) (nb rfl) (nb rfl) (fun q3 hF H locs hw hS => ?_)
  refine x_widen (k := 1) (n := 6) (nb rfl) (nb rfl) ?_
  have hw : WC D cA s0 z b ν H := hw
  refine x_iload_n C dX11_calls_5 rfl ?_
  refine x_iconst (0 : Int32) C dX11_calls_6 rfl ?_
  refine x_bipush (9 : Int32) C dX11_calls_7 rfl ?_
  obtain ⟨q4, hq5, hF⟩ := bnd_e hF
  refine t_goT (fun ls h => t_runS (As := [.int a2, .int (0 : Int32), .int (9 : Int32)]) [] h C ml_X11_76 (k_X11_requireRange l D cA s0 z b ν _ hG a2 (0 : Int32) (9 : Int32) q4 hq5) ⟨rfl, rfl, nb rfl, nb rfl⟩ rfl ⟨rfl, hw⟩ (nb rfl) ⟨nb rfl, nb rfl⟩ dX11_calls_9) hF hS (xA_le hS) C hX (fun _ h => h) (nb rfl) (nb rfl) (fun q6 hF H locs hw hS => ?_)
  refine x_widen (k := 2) (n := 12) (nb rfl) (nb rfl) ?_
  have hw : WC D cA s0 z b ν H := hw
  refine x_aload_n C dX11_calls_12 rfl ?_
  refine x_get (.ref (b + 7)) C fl_X11_24 (C_PD hw) rfl dX11_calls_13 ?_
  refine x_iload_n C dX11_calls_16 rfl ?_
  refine x_iload_n C dX11_calls_17 rfl ?_
  obtain ⟨q7, hq8, hF⟩ := bnd_e hF
  refine x_goR (fun ls h => x_runV (As := [.int a1, .int a2]) [] h C ml_X11_196 (k_X5_callsInYear l D cA s0 z b ν hG 7 a1 a2 q7 hq8) ⟨rfl, rfl, nb rfl, nb rfl⟩ rfl (C_Led led7 hw) rfl hw (nb rfl) ⟨nb rfl, nb rfl⟩ dX11_calls_18) ?_
  exact t_iret C rfl dX11_calls_21  (rt_o hF) rfl hw hS (nb rfl) (nb rfl)
noncomputable def g_X11_requireCall (ν : Mm) (a1 : Int32) : Option (Thr Unit) := bnd (g_X11_requireIndex ν a1 (ν.1 7 6)) (fun q1 => bnx q1 (fun q3 => some (.ok ())))
set_option maxRecDepth 20000 in
set_option maxHeartbeats 4000000 in
theorem k_X11_requireCall (l : Launch) (D : va_G) (cA : Nat → ClassId) (s0 : State) (z : Nat) (b : Nat) (ν : Mm) (sz : Nat) (hG : xG l D cA s0) (a1 : Int32) (r : Thr Unit) (hF : g_X11_requireCall ν a1 = some r) : vx_Met l yX11_requireCall (wsG yX11_requireCall cX11_requireCall 2 none) { frames := 8, cells := 1, slots := 6, locals := 154 } (xP D cA s0 [.ref (b + 0), .int a1] (fun H => H.size = sz ∧ WC D cA s0 z b ν H)) (xQt (fun q => none) (fun _ H => WC D cA s0 z b ν H) (xA b 2564 sz) r) (xXt (fun H => WC D cA s0 z b ν H) (xA b 2564 sz) r) 1 6 (xA b 2564 sz) := by
  refine t_start (z := z) (b := b) (ν := ν) (s0 := s0) (own := RX11) [(0, .ref (b + 0)), (1, .int a1)] rfl rfl (by decide) (nb rfl) ?_
  intro p e s m args below meth c C hX hw
  obtain ⟨hsz, hw⟩ := hw
  subst hsz
  have hS : va_S (xA b 2564 s.heap.size) s.heap s.heap [] := va_S.rf
  refine x_iload_n C dX11_requireCall_0 rfl ?_
  refine x_aload_n C dX11_requireCall_1 rfl ?_
  refine x_get (.ref (b + 7)) C fl_X11_24 (C_PD hw) rfl dX11_requireCall_2 ?_
  refine x_get (.int (ν.1 7 6)) C fl_X11_103 (C_Led led7 hw) rfl dX11_requireCall_5 ?_
  obtain ⟨q1, hq2, hF⟩ := bnd_e hF
  refine t_goT (fun ls h => t_runS (As := [.int a1, .int (ν.1 7 6)]) [] h C ml_X11_153 (k_X11_requireIndex l D cA s0 z b ν _ hG a1 (ν.1 7 6) q1 hq2) ⟨rfl, rfl, nb rfl, nb rfl⟩ rfl ⟨rfl, hw⟩ (nb rfl) ⟨nb rfl, nb rfl⟩ dX11_requireCall_8) hF hS (xA_le hS) C hX (fun _ h => h) (nb rfl) (nb rfl) (fun q3 hF H locs hw hS => ?_)
  refine x_widen (k := 1) (n := 6) (nb rfl) (nb rfl) ?_
  have hw : WC D cA s0 z b ν H := hw
  exact t_vret C rfl dX11_requireCall_11 (rt_o hF) rfl hw hS (nb rfl) (nb rfl)
noncomputable def g_X11_call (ν : Mm) (a1 : Int32) (a2 : Int32) : Option (Thr Int32) := bnd (g_X11_requireCall ν a1) (fun q1 => bnx q1 (fun q3 => bnd (g_X11_requireRange ν a2 (0 : Int32) (7 : Int32)) (fun q4 => bnx q4 (fun q6 => asr (vp_in a1 40) ((if a2 = 0 then some (.ok (ν.1 (7 + (14 + (cl a1))) 0)) else (if a2 = 1 then some (.ok (ν.1 (7 + (14 + (cl a1))) 1)) else (if a2 = 2 then some (.ok (ν.1 (7 + (14 + (cl a1))) 2)) else (if a2 = 3 then some (.ok (ν.1 (7 + (14 + (cl a1))) 3)) else (if a2 = 4 then (if (ν.1 (7 + (14 + (cl a1))) 4) = 0 then some (.ok (0 : Int32)) else some (.ok (1 : Int32))) else (if a2 = 5 then bnd (g_X5_rankOf ν 7 a1) (fun q17 => some (.ok q17)) else (if a2 = 6 then bnd (g_X5_present ν 7) (fun q20 => asr (isTar q20) (bnd (g_X5_rankOf ν 7 a1) (fun q23 => bnd (g_X10_percentAt ν q20 q23) (fun q25 => some (.ok q25))))) else bnd (g_X0_billedLinesOf ν a1) (fun q27 => some (.ok q27))))))))))))))
set_option maxRecDepth 20000 in
set_option maxHeartbeats 4000000 in
theorem k_X11_call (l : Launch) (D : va_G) (cA : Nat → ClassId) (s0 : State) (z : Nat) (b : Nat) (ν : Mm) (sz : Nat) (hG : xG l D cA s0) (a1 : Int32) (a2 : Int32) (r : Thr Int32) (hF : g_X11_call ν a1 a2 = some r) : vx_Met l yX11_call (wsG yX11_call cX11_call 4 (some (FieldType.int))) { frames := 9, cells := 2, slots := 12, locals := 175 } (xP D cA s0 [.ref (b + 0), .int a1, .int a2] (fun H => H.size = sz ∧ WC D cA s0 z b ν H)) (xQt (fun q => (some (.int q))) (fun _ H => WC D cA s0 z b ν H) (xA b 2564 sz) r) (xXt (fun H => WC D cA s0 z b ν H) (xA b 2564 sz) r) 2 12 (xA b 2564 sz) := by
  refine t_start (z := z) (b := b) (ν := ν) (s0 := s0) (own := RX11) [(0, .ref (b + 0)), (1, .int a1), (2, .int a2)] rfl rfl (by decide) (nb rfl) ?_
  intro p e s m args below meth c C hX hw
  obtain ⟨hsz, hw⟩ := hw
  subst hsz
  have hS : va_S (xA b 2564 s.heap.size) s.heap s.heap [] := va_S.rf
  refine x_aload_n C dX11_call_0 rfl ?_
  refine x_iload_n C dX11_call_1 rfl ?_
  obtain ⟨q1, hq2, hF⟩ := bnd_e hF
  refine t_goT (fun ls h => t_runV (As := [.int a1]) [] h C ml_X11_199 (k_X11_requireCall l D cA s0 z b ν _ hG a1 q1 hq2) ⟨rfl, rfl, nb rfl, nb rfl⟩ rfl (C_PD hw) rfl ⟨rfl, hw⟩ (nb rfl) ⟨nb rfl, nb rfl⟩ dX11_call_2) hF hS (xA_le hS) C hX (fun _ h => h) (nb rfl) (nb rfl) (fun q3 hF H locs hw hS => ?_)
  refine x_widen (k := 1) (n := 6) (nb rfl) (nb rfl) ?_
  have hw : WC D cA s0 z b ν H := hw
  refine x_iload_n C dX11_call_5 rfl ?_
  refine x_iconst (0 : Int32) C dX11_call_6 rfl ?_
  refine x_bipush (7 : Int32) C dX11_call_7 rfl ?_
  obtain ⟨q4, hq5, hF⟩ := bnd_e hF
  refine t_goT (fun ls h => t_runS (As := [.int a2, .int (0 : Int32), .int (7 : Int32)]) [] h C ml_X11_76 (k_X11_requireRange l D cA s0 z b ν _ hG a2 (0 : Int32) (7 : Int32) q4 hq5) ⟨rfl, rfl, nb rfl, nb rfl⟩ rfl ⟨rfl, hw⟩ (nb rfl) ⟨nb rfl, nb rfl⟩ dX11_call_9) hF hS (xA_le hS) C hX (fun _ h => h) (nb rfl) (nb rfl) (fun q6 hF H locs hw hS => ?_)
  refine x_widen (k := 2) (n := 12) (nb rfl) (nb rfl) ?_
  have hw : WC D cA s0 z b ν H := hw
  refine x_aload_n C dX11_call_12 rfl ?_
  refine x_get (.ref (b + 7)) C fl_X11_24 (C_PD hw) rfl dX11_call_13 ?_
  refine x_get (.ref (b + (7 + 2))) C fl_X11_202 (C_Led led7 hw) rfl dX11_call_16 ?_
  refine x_iload_n C dX11_call_19 rfl ?_
  obtain ⟨h7, hF⟩ := asr_e hF
  obtain ⟨hn8, hl9⟩ := vpn h7 (by decide)
  refine x_aald 4 C (C_calls led7 hw) rfl hn8 hl9 (by decide) rfl dX11_call_20 ?_
  refine x_astore_n [(3, .ref (b + (7 + (14 + (cl a1))))), (0, .ref (b + 0)), (1, .int a1), (2, .int a2)] C dX11_call_21 rfl (by decide) rfl ?_
  refine x_iload_n C dX11_call_22 rfl ?_
  by_cases c10 : a2 = 0
  · have hF := ite_t hF c10
    refine x_tabIn 0 64 C dX11_call_23 (by rw [c10]; rfl) (by decide) (by decide) rfl (by decide) ?_
    refine x_aload_n C dX11_call_64 rfl ?_
    refine x_get (.int (ν.1 (7 + (14 + (cl a1))) 0)) C fl_X11_206 (C_Cal (mk_Cal led7 hl9) hw) rfl dX11_call_65 ?_
    exact t_iret C rfl dX11_call_68  (rt_o hF) rfl hw hS (nb rfl) (nb rfl)
  · have hF := ite_f hF c10
    by_cases c11 : a2 = 1
    · have hF := ite_t hF c11
      refine x_tabIn 1 69 C dX11_call_23 (by rw [c11]; rfl) (by decide) (by decide) rfl (by decide) ?_
      refine x_aload_n C dX11_call_69 rfl ?_
      refine x_get (.int (ν.1 (7 + (14 + (cl a1))) 1)) C fl_X11_211 (C_Cal (mk_Cal led7 hl9) hw) rfl dX11_call_70 ?_
      exact t_iret C rfl dX11_call_73  (rt_o hF) rfl hw hS (nb rfl) (nb rfl)
    · have hF := ite_f hF c11
      by_cases c12 : a2 = 2
      · have hF := ite_t hF c12
        refine x_tabIn 2 74 C dX11_call_23 (by rw [c12]; rfl) (by decide) (by decide) rfl (by decide) ?_
        refine x_aload_n C dX11_call_74 rfl ?_
        refine x_get (.int (ν.1 (7 + (14 + (cl a1))) 2)) C fl_X11_214 (C_Cal (mk_Cal led7 hl9) hw) rfl dX11_call_75 ?_
        exact t_iret C rfl dX11_call_78  (rt_o hF) rfl hw hS (nb rfl) (nb rfl)
      · have hF := ite_f hF c12
        by_cases c13 : a2 = 3
        · have hF := ite_t hF c13
          refine x_tabIn 3 79 C dX11_call_23 (by rw [c13]; rfl) (by decide) (by decide) rfl (by decide) ?_
          refine x_aload_n C dX11_call_79 rfl ?_
          refine x_get (.int (ν.1 (7 + (14 + (cl a1))) 3)) C fl_X11_217 (C_Cal (mk_Cal led7 hl9) hw) rfl dX11_call_80 ?_
          exact t_iret C rfl dX11_call_83  (rt_o hF) rfl hw hS (nb rfl) (nb rfl)
        · have hF := ite_f hF c13
          by_cases c14 : a2 = 4
          · have hF := ite_t hF c14
            refine x_tabIn 4 84 C dX11_call_23 (by rw [c14]; rfl) (by decide) (by decide) rfl (by decide) ?_
            refine x_aload_n C dX11_call_84 rfl ?_
            refine x_get (.int (ν.1 (7 + (14 + (cl a1))) 4)) C fl_X11_220 (C_Cal (mk_Cal led7 hl9) hw) rfl dX11_call_85 ?_
            refine x_if_eq 95 C dX11_call_88 (by decide) (fun c15 => ?_) (fun c15 => ?_)
            · have hF := ite_t hF c15
              refine x_iconst (0 : Int32) C dX11_call_95 rfl ?_
              exact t_iret C rfl dX11_call_96  (rt_o hF) rfl hw hS (nb rfl) (nb rfl)
            · have hF := ite_f hF c15
              refine x_iconst (1 : Int32) C dX11_call_91 rfl ?_
              refine x_goto 96 C dX11_call_92 (by decide) ?_
              exact t_iret C rfl dX11_call_96  (rt_o hF) rfl hw hS (nb rfl) (nb rfl)
          · have hF := ite_f hF c14
            by_cases c16 : a2 = 5
            · have hF := ite_t hF c16
              refine x_tabIn 5 97 C dX11_call_23 (by rw [c16]; rfl) (by decide) (by decide) rfl (by decide) ?_
              refine x_aload_n C dX11_call_97 rfl ?_
              refine x_get (.ref (b + 7)) C fl_X11_24 (C_PD hw) rfl dX11_call_98 ?_
              refine x_iload_n C dX11_call_101 rfl ?_
              obtain ⟨q17, hq18, hF⟩ := bnd_e hF
              refine x_goR (fun ls h => x_runV (As := [.int a1]) [] h C ml_X11_223 (k_X5_rankOf l D cA s0 z b ν hG 7 a1 q17 hq18) ⟨rfl, rfl, nb rfl, nb rfl⟩ rfl (C_Led led7 hw) rfl hw (nb rfl) ⟨nb rfl, nb rfl⟩ dX11_call_102) ?_
              exact t_iret C rfl dX11_call_105  (rt_o hF) rfl hw hS (nb rfl) (nb rfl)
            · have hF := ite_f hF c16
              by_cases c19 : a2 = 6
              · have hF := ite_t hF c19
                refine x_tabIn 6 106 C dX11_call_23 (by rw [c19]; rfl) (by decide) (by decide) rfl (by decide) ?_
                refine x_aload_n C dX11_call_106 rfl ?_
                refine x_get (.ref (b + 7)) C fl_X11_24 (C_PD hw) rfl dX11_call_107 ?_
                obtain ⟨q20, hq21, hF⟩ := bnd_e hF
                refine x_goR (fun ls h => x_runV (As := []) [] h C ml_X11_118 (k_X5_present l D cA s0 z b ν hG 7 q20 hq21) ⟨rfl, rfl, nb rfl, nb rfl⟩ rfl (C_Led led7 hw) rfl hw (nb rfl) ⟨nb rfl, nb rfl⟩ dX11_call_110) ?_
                obtain ⟨h22, hF⟩ := asr_e hF
                refine x_aload_n C dX11_call_113 rfl ?_
                refine x_get (.ref (b + 7)) C fl_X11_24 (C_PD hw) rfl dX11_call_114 ?_
                refine x_iload_n C dX11_call_117 rfl ?_
                obtain ⟨q23, hq24, hF⟩ := bnd_e hF
                refine x_goR (fun ls h => x_runV (As := [.int a1]) [.ref (b + q20)] h C ml_X11_223 (k_X5_rankOf l D cA s0 z b ν hG 7 a1 q23 hq24) ⟨rfl, rfl, nb rfl, nb rfl⟩ rfl (C_Led led7 hw) rfl hw (nb rfl) ⟨nb rfl, nb rfl⟩ dX11_call_118) ?_
                obtain ⟨q25, hq26, hF⟩ := bnd_e hF
                refine x_goR (fun ls h => x_runV (As := [.int q23]) [] h C ml_X11_226 (k_X10_percentAt l D cA s0 z b ν hG q20 q23 q25 hq26) ⟨rfl, rfl, nb rfl, nb rfl⟩ rfl (C_Tar h22 hw) rfl hw (nb rfl) ⟨nb rfl, nb rfl⟩ dX11_call_121) ?_
                exact t_iret C rfl dX11_call_124  (rt_o hF) rfl hw hS (nb rfl) (nb rfl)
              · have hF := ite_f hF c19
                have t29 : a2.toInt ≠ 0 := fun z => c10 ((fa_eqI _ _).mpr z)
                have t30 : a2.toInt ≠ 1 := fun z => c11 ((fa_eqI _ _).mpr z)
                have t31 : a2.toInt ≠ 2 := fun z => c12 ((fa_eqI _ _).mpr z)
                have t32 : a2.toInt ≠ 3 := fun z => c13 ((fa_eqI _ _).mpr z)
                have t33 : a2.toInt ≠ 4 := fun z => c14 ((fa_eqI _ _).mpr z)
                have t34 : a2.toInt ≠ 5 := fun z => c16 ((fa_eqI _ _).mpr z)
                have t35 : a2.toInt ≠ 6 := fun z => c19 ((fa_eqI _ _).mpr z)
                refine x_tabOut 125 C dX11_call_23 (by omega) (by decide) ?_
                refine x_aload_n C dX11_call_125 rfl ?_
                refine x_get (.ref (b + 2562)) C fl_X11_52 (C_PD hw) rfl dX11_call_126 ?_
                refine x_iload_n C dX11_call_129 rfl ?_
                obtain ⟨q27, hq28, hF⟩ := bnd_e hF
                refine x_goR (fun ls h => x_runV (As := [.int a1]) [] h C ml_X11_229 (k_X0_billedLinesOf l D cA s0 z b ν hG a1 q27 hq28) ⟨rfl, rfl, nb rfl, nb rfl⟩ rfl (C_Acc hw) rfl hw (nb rfl) ⟨nb rfl, nb rfl⟩ dX11_call_130) ?_
                exact t_iret C rfl dX11_call_133  (rt_o hF) rfl hw hS (nb rfl) (nb rfl)
noncomputable def g_X11_layDays (ν : Mm) (a1 : Int32) : Option (Thr Int32) := bnd (g_X11_requireCall ν a1) (fun q1 => bnx q1 (fun q3 => bnd (g_X5_layDaysOf ν 7 a1) (fun q4 => some (.ok q4))))
set_option maxRecDepth 20000 in
set_option maxHeartbeats 4000000 in
theorem k_X11_layDays (l : Launch) (D : va_G) (cA : Nat → ClassId) (s0 : State) (z : Nat) (b : Nat) (ν : Mm) (sz : Nat) (hG : xG l D cA s0) (a1 : Int32) (r : Thr Int32) (hF : g_X11_layDays ν a1 = some r) : vx_Met l yX11_layDays (wsG yX11_layDays cX11_layDays 2 (some (FieldType.int))) { frames := 9, cells := 1, slots := 6, locals := 175 } (xP D cA s0 [.ref (b + 0), .int a1] (fun H => H.size = sz ∧ WC D cA s0 z b ν H)) (xQt (fun q => (some (.int q))) (fun _ H => WC D cA s0 z b ν H) (xA b 2564 sz) r) (xXt (fun H => WC D cA s0 z b ν H) (xA b 2564 sz) r) 1 6 (xA b 2564 sz) := by
  refine t_start (z := z) (b := b) (ν := ν) (s0 := s0) (own := RX11) [(0, .ref (b + 0)), (1, .int a1)] rfl rfl (by decide) (nb rfl) ?_
  intro p e s m args below meth c C hX hw
  obtain ⟨hsz, hw⟩ := hw
  subst hsz
  have hS : va_S (xA b 2564 s.heap.size) s.heap s.heap [] := va_S.rf
  refine x_aload_n C dX11_layDays_0 rfl ?_
  refine x_iload_n C dX11_layDays_1 rfl ?_
  obtain ⟨q1, hq2, hF⟩ := bnd_e hF
  refine t_goT (fun ls h => t_runV (As := [.int a1]) [] h C ml_X11_199 (k_X11_requireCall l D cA s0 z b ν _ hG a1 q1 hq2) ⟨rfl, rfl, nb rfl, nb rfl⟩ rfl (C_PD hw) rfl ⟨rfl, hw⟩ (nb rfl) ⟨nb rfl, nb rfl⟩ dX11_layDays_2) hF hS (xA_le hS) C hX (fun _ h => h) (nb rfl) (nb rfl) (fun q3 hF H locs hw hS => ?_)
  refine x_widen (k := 1) (n := 6) (nb rfl) (nb rfl) ?_
  have hw : WC D cA s0 z b ν H := hw
  refine x_aload_n C dX11_layDays_5 rfl ?_
  refine x_get (.ref (b + 7)) C fl_X11_24 (C_PD hw) rfl dX11_layDays_6 ?_
  refine x_iload_n C dX11_layDays_9 rfl ?_
  obtain ⟨q4, hq5, hF⟩ := bnd_e hF
  refine x_goR (fun ls h => x_runV (As := [.int a1]) [] h C ml_X11_232 (k_X5_layDaysOf l D cA s0 z b ν hG 7 a1 q4 hq5) ⟨rfl, rfl, nb rfl, nb rfl⟩ rfl (C_Led led7 hw) rfl hw (nb rfl) ⟨nb rfl, nb rfl⟩ dX11_layDays_10) ?_
  exact t_iret C rfl dX11_layDays_13  (rt_o hF) rfl hw hS (nb rfl) (nb rfl)
noncomputable def g_X11_pending (ν : Mm) (a1 : Int32) : Option (Thr Int32) := bnd (g_X11_requireCall ν a1) (fun q1 => bnx q1 (fun q3 => asr (vp_in a1 40) (some (.ok (ν.1 (7 + (14 + (cl a1))) 5)))))
set_option maxRecDepth 20000 in
set_option maxHeartbeats 4000000 in
theorem k_X11_pending (l : Launch) (D : va_G) (cA : Nat → ClassId) (s0 : State) (z : Nat) (b : Nat) (ν : Mm) (sz : Nat) (hG : xG l D cA s0) (a1 : Int32) (r : Thr Int32) (hF : g_X11_pending ν a1 = some r) : vx_Met l yX11_pending (wsG yX11_pending cX11_pending 2 (some (FieldType.int))) { frames := 9, cells := 1, slots := 6, locals := 175 } (xP D cA s0 [.ref (b + 0), .int a1] (fun H => H.size = sz ∧ WC D cA s0 z b ν H)) (xQt (fun q => (some (.int q))) (fun _ H => WC D cA s0 z b ν H) (xA b 2564 sz) r) (xXt (fun H => WC D cA s0 z b ν H) (xA b 2564 sz) r) 1 6 (xA b 2564 sz) := by
  refine t_start (z := z) (b := b) (ν := ν) (s0 := s0) (own := RX11) [(0, .ref (b + 0)), (1, .int a1)] rfl rfl (by decide) (nb rfl) ?_
  intro p e s m args below meth c C hX hw
  obtain ⟨hsz, hw⟩ := hw
  subst hsz
  have hS : va_S (xA b 2564 s.heap.size) s.heap s.heap [] := va_S.rf
  refine x_aload_n C dX11_pending_0 rfl ?_
  refine x_iload_n C dX11_pending_1 rfl ?_
  obtain ⟨q1, hq2, hF⟩ := bnd_e hF
  refine t_goT (fun ls h => t_runV (As := [.int a1]) [] h C ml_X11_199 (k_X11_requireCall l D cA s0 z b ν _ hG a1 q1 hq2) ⟨rfl, rfl, nb rfl, nb rfl⟩ rfl (C_PD hw) rfl ⟨rfl, hw⟩ (nb rfl) ⟨nb rfl, nb rfl⟩ dX11_pending_2) hF hS (xA_le hS) C hX (fun _ h => h) (nb rfl) (nb rfl) (fun q3 hF H locs hw hS => ?_)
  refine x_widen (k := 1) (n := 6) (nb rfl) (nb rfl) ?_
  have hw : WC D cA s0 z b ν H := hw
  refine x_aload_n C dX11_pending_5 rfl ?_
  refine x_get (.ref (b + 7)) C fl_X11_24 (C_PD hw) rfl dX11_pending_6 ?_
  refine x_get (.ref (b + (7 + 2))) C fl_X11_202 (C_Led led7 hw) rfl dX11_pending_9 ?_
  refine x_iload_n C dX11_pending_12 rfl ?_
  obtain ⟨h4, hF⟩ := asr_e hF
  obtain ⟨hn5, hl6⟩ := vpn h4 (by decide)
  refine x_aald 4 C (C_calls led7 hw) rfl hn5 hl6 (by decide) rfl dX11_pending_13 ?_
  refine x_get (.int (ν.1 (7 + (14 + (cl a1))) 5)) C fl_X11_235 (C_Cal (mk_Cal led7 hl6) hw) rfl dX11_pending_14 ?_
  exact t_iret C rfl dX11_pending_17  (rt_o hF) rfl hw hS (nb rfl) (nb rfl)
noncomputable def g_X11_upheld (ν : Mm) (a1 : Int32) : Option (Thr Int32) := bnd (g_X11_requireCall ν a1) (fun q1 => bnx q1 (fun q3 => asr (vp_in a1 40) (some (.ok (ν.1 (7 + (14 + (cl a1))) 6)))))
set_option maxRecDepth 20000 in
set_option maxHeartbeats 4000000 in
theorem k_X11_upheld (l : Launch) (D : va_G) (cA : Nat → ClassId) (s0 : State) (z : Nat) (b : Nat) (ν : Mm) (sz : Nat) (hG : xG l D cA s0) (a1 : Int32) (r : Thr Int32) (hF : g_X11_upheld ν a1 = some r) : vx_Met l yX11_upheld (wsG yX11_upheld cX11_upheld 2 (some (FieldType.int))) { frames := 9, cells := 1, slots := 6, locals := 175 } (xP D cA s0 [.ref (b + 0), .int a1] (fun H => H.size = sz ∧ WC D cA s0 z b ν H)) (xQt (fun q => (some (.int q))) (fun _ H => WC D cA s0 z b ν H) (xA b 2564 sz) r) (xXt (fun H => WC D cA s0 z b ν H) (xA b 2564 sz) r) 1 6 (xA b 2564 sz) := by
  refine t_start (z := z) (b := b) (ν := ν) (s0 := s0) (own := RX11) [(0, .ref (b + 0)), (1, .int a1)] rfl rfl (by decide) (nb rfl) ?_
  intro p e s m args below meth c C hX hw
  obtain ⟨hsz, hw⟩ := hw
  subst hsz
  have hS : va_S (xA b 2564 s.heap.size) s.heap s.heap [] := va_S.rf
  refine x_aload_n C dX11_upheld_0 rfl ?_
  refine x_iload_n C dX11_upheld_1 rfl ?_
  obtain ⟨q1, hq2, hF⟩ := bnd_e hF
  refine t_goT (fun ls h => t_runV (As := [.int a1]) [] h C ml_X11_199 (k_X11_requireCall l D cA s0 z b ν _ hG a1 q1 hq2) ⟨rfl, rfl, nb rfl, nb rfl⟩ rfl (C_PD hw) rfl ⟨rfl, hw⟩ (nb rfl) ⟨nb rfl, nb rfl⟩ dX11_upheld_2) hF hS (xA_le hS) C hX (fun _ h => h) (nb rfl) (nb rfl) (fun q3 hF H locs hw hS => ?_)
  refine x_widen (k := 1) (n := 6) (nb rfl) (nb rfl) ?_
  have hw : WC D cA s0 z b ν H := hw
  refine x_aload_n C dX11_upheld_5 rfl ?_
  refine x_get (.ref (b + 7)) C fl_X11_24 (C_PD hw) rfl dX11_upheld_6 ?_
  refine x_get (.ref (b + (7 + 2))) C fl_X11_202 (C_Led led7 hw) rfl dX11_upheld_9 ?_
  refine x_iload_n C dX11_upheld_12 rfl ?_
  obtain ⟨h4, hF⟩ := asr_e hF
  obtain ⟨hn5, hl6⟩ := vpn h4 (by decide)
  refine x_aald 4 C (C_calls led7 hw) rfl hn5 hl6 (by decide) rfl dX11_upheld_13 ?_
  refine x_get (.int (ν.1 (7 + (14 + (cl a1))) 6)) C fl_X11_238 (C_Cal (mk_Cal led7 hl6) hw) rfl dX11_upheld_14 ?_
  exact t_iret C rfl dX11_upheld_17  (rt_o hF) rfl hw hS (nb rfl) (nb rfl)
noncomputable def g_X11_billedDays (ν : Mm) (a1 : Int32) : Option (Thr Int32) := bnd (g_X11_requireCall ν a1) (fun q1 => bnx q1 (fun q3 => bnd (g_X0_billedDaysOf ν a1) (fun q4 => some (.ok q4))))
set_option maxRecDepth 20000 in
set_option maxHeartbeats 4000000 in
theorem k_X11_billedDays (l : Launch) (D : va_G) (cA : Nat → ClassId) (s0 : State) (z : Nat) (b : Nat) (ν : Mm) (sz : Nat) (hG : xG l D cA s0) (a1 : Int32) (r : Thr Int32) (hF : g_X11_billedDays ν a1 = some r) : vx_Met l yX11_billedDays (wsG yX11_billedDays cX11_billedDays 2 (some (FieldType.int))) { frames := 9, cells := 1, slots := 6, locals := 175 } (xP D cA s0 [.ref (b + 0), .int a1] (fun H => H.size = sz ∧ WC D cA s0 z b ν H)) (xQt (fun q => (some (.int q))) (fun _ H => WC D cA s0 z b ν H) (xA b 2564 sz) r) (xXt (fun H => WC D cA s0 z b ν H) (xA b 2564 sz) r) 1 6 (xA b 2564 sz) := by
  refine t_start (z := z) (b := b) (ν := ν) (s0 := s0) (own := RX11) [(0, .ref (b + 0)), (1, .int a1)] rfl rfl (by decide) (nb rfl) ?_
  intro p e s m args below meth c C hX hw
  obtain ⟨hsz, hw⟩ := hw
  subst hsz
  have hS : va_S (xA b 2564 s.heap.size) s.heap s.heap [] := va_S.rf
  refine x_aload_n C dX11_billedDays_0 rfl ?_
  refine x_iload_n C dX11_billedDays_1 rfl ?_
  obtain ⟨q1, hq2, hF⟩ := bnd_e hF
  refine t_goT (fun ls h => t_runV (As := [.int a1]) [] h C ml_X11_199 (k_X11_requireCall l D cA s0 z b ν _ hG a1 q1 hq2) ⟨rfl, rfl, nb rfl, nb rfl⟩ rfl (C_PD hw) rfl ⟨rfl, hw⟩ (nb rfl) ⟨nb rfl, nb rfl⟩ dX11_billedDays_2) hF hS (xA_le hS) C hX (fun _ h => h) (nb rfl) (nb rfl) (fun q3 hF H locs hw hS => ?_)
  refine x_widen (k := 1) (n := 6) (nb rfl) (nb rfl) ?_
  have hw : WC D cA s0 z b ν H := hw
  refine x_aload_n C dX11_billedDays_5 rfl ?_
  refine x_get (.ref (b + 2562)) C fl_X11_52 (C_PD hw) rfl dX11_billedDays_6 ?_
  refine x_iload_n C dX11_billedDays_9 rfl ?_
  obtain ⟨q4, hq5, hF⟩ := bnd_e hF
  refine x_goR (fun ls h => x_runV (As := [.int a1]) [] h C ml_X11_241 (k_X0_billedDaysOf l D cA s0 z b ν hG a1 q4 hq5) ⟨rfl, rfl, nb rfl, nb rfl⟩ rfl (C_Acc hw) rfl hw (nb rfl) ⟨nb rfl, nb rfl⟩ dX11_billedDays_10) ?_
  exact t_iret C rfl dX11_billedDays_13  (rt_o hF) rfl hw hS (nb rfl) (nb rfl)
noncomputable def g_X11_billable (ν : Mm) (a1 : Int32) : Option (Thr Int32) := bnd (g_X11_requireCall ν a1) (fun q1 => bnx q1 (fun q3 => bnd (g_X0_billableDaysOf ν a1) (fun q4 => some (.ok q4))))
set_option maxRecDepth 20000 in
set_option maxHeartbeats 4000000 in
theorem k_X11_billable (l : Launch) (D : va_G) (cA : Nat → ClassId) (s0 : State) (z : Nat) (b : Nat) (ν : Mm) (sz : Nat) (hG : xG l D cA s0) (a1 : Int32) (r : Thr Int32) (hF : g_X11_billable ν a1 = some r) : vx_Met l yX11_billable (wsG yX11_billable cX11_billable 2 (some (FieldType.int))) { frames := 9, cells := 1, slots := 6, locals := 175 } (xP D cA s0 [.ref (b + 0), .int a1] (fun H => H.size = sz ∧ WC D cA s0 z b ν H)) (xQt (fun q => (some (.int q))) (fun _ H => WC D cA s0 z b ν H) (xA b 2564 sz) r) (xXt (fun H => WC D cA s0 z b ν H) (xA b 2564 sz) r) 1 6 (xA b 2564 sz) := by
  refine t_start (z := z) (b := b) (ν := ν) (s0 := s0) (own := RX11) [(0, .ref (b + 0)), (1, .int a1)] rfl rfl (by decide) (nb rfl) ?_
  intro p e s m args below meth c C hX hw
  obtain ⟨hsz, hw⟩ := hw
  subst hsz
  have hS : va_S (xA b 2564 s.heap.size) s.heap s.heap [] := va_S.rf
  refine x_aload_n C dX11_billable_0 rfl ?_
  refine x_iload_n C dX11_billable_1 rfl ?_
  obtain ⟨q1, hq2, hF⟩ := bnd_e hF
  refine t_goT (fun ls h => t_runV (As := [.int a1]) [] h C ml_X11_199 (k_X11_requireCall l D cA s0 z b ν _ hG a1 q1 hq2) ⟨rfl, rfl, nb rfl, nb rfl⟩ rfl (C_PD hw) rfl ⟨rfl, hw⟩ (nb rfl) ⟨nb rfl, nb rfl⟩ dX11_billable_2) hF hS (xA_le hS) C hX (fun _ h => h) (nb rfl) (nb rfl) (fun q3 hF H locs hw hS => ?_)
  refine x_widen (k := 1) (n := 6) (nb rfl) (nb rfl) ?_
  have hw : WC D cA s0 z b ν H := hw
  refine x_aload_n C dX11_billable_5 rfl ?_
  refine x_get (.ref (b + 2562)) C fl_X11_52 (C_PD hw) rfl dX11_billable_6 ?_
  refine x_iload_n C dX11_billable_9 rfl ?_
  obtain ⟨q4, hq5, hF⟩ := bnd_e hF
  refine x_goR (fun ls h => x_runV (As := [.int a1]) [] h C ml_X11_244 (k_X0_billableDaysOf l D cA s0 z b ν hG a1 q4 hq5) ⟨rfl, rfl, nb rfl, nb rfl⟩ rfl (C_Acc hw) rfl hw (nb rfl) ⟨nb rfl, nb rfl⟩ dX11_billable_10) ?_
  exact t_iret C rfl dX11_billable_13  (rt_o hF) rfl hw hS (nb rfl) (nb rfl)
noncomputable def g_X11_requireLine (ν : Mm) (a1 : Int32) : Option (Thr Unit) := bnd (g_X11_requireRange ν a1 (0 : Int32) (3 : Int32)) (fun q1 => bnx q1 (fun q3 => some (.ok ())))
set_option maxRecDepth 20000 in
set_option maxHeartbeats 4000000 in
theorem k_X11_requireLine (l : Launch) (D : va_G) (cA : Nat → ClassId) (s0 : State) (z : Nat) (b : Nat) (ν : Mm) (sz : Nat) (hG : xG l D cA s0) (a1 : Int32) (r : Thr Unit) (hF : g_X11_requireLine ν a1 = some r) : vx_Met l yX11_requireLine (wsG yX11_requireLine cX11_requireLine 1 none) { frames := 9, cells := 1, slots := 6, locals := 175 } (xP D cA s0 [.int a1] (fun H => H.size = sz ∧ WC D cA s0 z b ν H)) (xQt (fun q => none) (fun _ H => WC D cA s0 z b ν H) (xA b 2564 sz) r) (xXt (fun H => WC D cA s0 z b ν H) (xA b 2564 sz) r) 1 6 (xA b 2564 sz) := by
  refine t_start (z := z) (b := b) (ν := ν) (s0 := s0) (own := RX11) [(0, .int a1)] rfl rfl (by decide) (nb rfl) ?_
  intro p e s m args below meth c C hX hw
  obtain ⟨hsz, hw⟩ := hw
  subst hsz
  have hS : va_S (xA b 2564 s.heap.size) s.heap s.heap [] := va_S.rf
  refine x_iload_n C dX11_requireLine_0 rfl ?_
  refine x_iconst (0 : Int32) C dX11_requireLine_1 rfl ?_
  refine x_iconst (3 : Int32) C dX11_requireLine_2 rfl ?_
  obtain ⟨q1, hq2, hF⟩ := bnd_e hF
  refine t_goT (fun ls h => t_runS (As := [.int a1, .int (0 : Int32), .int (3 : Int32)]) [] h C ml_X11_76 (k_X11_requireRange l D cA s0 z b ν _ hG a1 (0 : Int32) (3 : Int32) q1 hq2) ⟨rfl, rfl, nb rfl, nb rfl⟩ rfl ⟨rfl, hw⟩ (nb rfl) ⟨nb rfl, nb rfl⟩ dX11_requireLine_3) hF hS (xA_le hS) C hX (fun _ h => h) (nb rfl) (nb rfl) (fun q3 hF H locs hw hS => ?_)
  refine x_widen (k := 1) (n := 6) (nb rfl) (nb rfl) ?_
  have hw : WC D cA s0 z b ν H := hw
  exact t_vret C rfl dX11_requireLine_6 (rt_o hF) rfl hw hS (nb rfl) (nb rfl)
noncomputable def g_X11_amount (ν : Mm) (a1 : Int32) (a2 : Int32) : Option (Thr Int32) := bnd (g_X11_requireCall ν a1) (fun q1 => bnx q1 (fun q3 => bnd (g_X11_requireLine ν a2) (fun q4 => bnx q4 (fun q6 => bnd (g_X5_present ν 7) (fun q7 => asr (isTar q7) (bnd (g_X5_rankOf ν 7 a1) (fun q10 => bnd (g_X5_lineAtRank ν 7 q7 a1 a2 q10) (fun q12 => some (.ok q12)))))))))
set_option maxRecDepth 20000 in
set_option maxHeartbeats 4000000 in
theorem k_X11_amount (l : Launch) (D : va_G) (cA : Nat → ClassId) (s0 : State) (z : Nat) (b : Nat) (ν : Mm) (sz : Nat) (hG : xG l D cA s0) (a1 : Int32) (a2 : Int32) (r : Thr Int32) (hF : g_X11_amount ν a1 a2 = some r) : vx_Met l yX11_amount (wsG yX11_amount cX11_amount 3 (some (FieldType.int))) { frames := 10, cells := 2, slots := 12, locals := 195 } (xP D cA s0 [.ref (b + 0), .int a1, .int a2] (fun H => H.size = sz ∧ WC D cA s0 z b ν H)) (xQt (fun q => (some (.int q))) (fun _ H => WC D cA s0 z b ν H) (xA b 2564 sz) r) (xXt (fun H => WC D cA s0 z b ν H) (xA b 2564 sz) r) 2 12 (xA b 2564 sz) := by
  refine t_start (z := z) (b := b) (ν := ν) (s0 := s0) (own := RX11) [(0, .ref (b + 0)), (1, .int a1), (2, .int a2)] rfl rfl (by decide) (nb rfl) ?_
  intro p e s m args below meth c C hX hw
  obtain ⟨hsz, hw⟩ := hw
  subst hsz
  have hS : va_S (xA b 2564 s.heap.size) s.heap s.heap [] := va_S.rf
  refine x_aload_n C dX11_amount_0 rfl ?_
  refine x_iload_n C dX11_amount_1 rfl ?_
  obtain ⟨q1, hq2, hF⟩ := bnd_e hF
  refine t_goT (fun ls h => t_runV (As := [.int a1]) [] h C ml_X11_199 (k_X11_requireCall l D cA s0 z b ν _ hG a1 q1 hq2) ⟨rfl, rfl, nb rfl, nb rfl⟩ rfl (C_PD hw) rfl ⟨rfl, hw⟩ (nb rfl) ⟨nb rfl, nb rfl⟩ dX11_amount_2) hF hS (xA_le hS) C hX (fun _ h => h) (nb rfl) (nb rfl) (fun q3 hF H locs hw hS => ?_)
  refine x_widen (k := 1) (n := 6) (nb rfl) (nb rfl) ?_
  have hw : WC D cA s0 z b ν H := hw
  refine x_iload_n C dX11_amount_5 rfl ?_
  obtain ⟨q4, hq5, hF⟩ := bnd_e hF
  refine t_goT (fun ls h => t_runS (As := [.int a2]) [] h C ml_X11_247 (k_X11_requireLine l D cA s0 z b ν _ hG a2 q4 hq5) ⟨rfl, rfl, nb rfl, nb rfl⟩ rfl ⟨rfl, hw⟩ (nb rfl) ⟨nb rfl, nb rfl⟩ dX11_amount_6) hF hS (xA_le hS) C hX (fun _ h => h) (nb rfl) (nb rfl) (fun q6 hF H locs hw hS => ?_)
  refine x_widen (k := 2) (n := 12) (nb rfl) (nb rfl) ?_
  have hw : WC D cA s0 z b ν H := hw
  refine x_aload_n C dX11_amount_9 rfl ?_
  refine x_get (.ref (b + 7)) C fl_X11_24 (C_PD hw) rfl dX11_amount_10 ?_
  refine x_iload_n C dX11_amount_13 rfl ?_
  refine x_iload_n C dX11_amount_14 rfl ?_
  refine x_aload_n C dX11_amount_15 rfl ?_
  refine x_get (.ref (b + 7)) C fl_X11_24 (C_PD hw) rfl dX11_amount_16 ?_
  obtain ⟨q7, hq8, hF⟩ := bnd_e hF
  refine x_goR (fun ls h => x_runV (As := []) [.int a2, .int a1, .ref (b + 7)] h C ml_X11_118 (k_X5_present l D cA s0 z b ν hG 7 q7 hq8) ⟨rfl, rfl, nb rfl, nb rfl⟩ rfl (C_Led led7 hw) rfl hw (nb rfl) ⟨nb rfl, nb rfl⟩ dX11_amount_19) ?_
  obtain ⟨h9, hF⟩ := asr_e hF
  refine x_aload_n C dX11_amount_22 rfl ?_
  refine x_get (.ref (b + 7)) C fl_X11_24 (C_PD hw) rfl dX11_amount_23 ?_
  refine x_iload_n C dX11_amount_26 rfl ?_
  obtain ⟨q10, hq11, hF⟩ := bnd_e hF
  refine x_goR (fun ls h => x_runV (As := [.int a1]) [.ref (b + q7), .int a2, .int a1, .ref (b + 7)] h C ml_X11_223 (k_X5_rankOf l D cA s0 z b ν hG 7 a1 q10 hq11) ⟨rfl, rfl, nb rfl, nb rfl⟩ rfl (C_Led led7 hw) rfl hw (nb rfl) ⟨nb rfl, nb rfl⟩ dX11_amount_27) ?_
  obtain ⟨q12, hq13, hF⟩ := bnd_e hF
  refine x_goR (fun ls h => x_runV (As := [.int a1, .int a2, .ref (b + q7), .int q10]) [] h C ml_X11_250 (k_X5_lineAtRank l D cA s0 z b ν hG 7 q7 a1 a2 q10 q12 hq13) ⟨rfl, rfl, nb rfl, nb rfl⟩ rfl (C_Led led7 hw) rfl hw (nb rfl) ⟨nb rfl, nb rfl⟩ dX11_amount_30) ?_
  exact t_iret C rfl dX11_amount_33  (rt_o hF) rfl hw hS (nb rfl) (nb rfl)
noncomputable def g_X11_callTotal (ν : Mm) (a1 : Int32) : Option (Thr Int32) := bnd (g_X11_requireCall ν a1) (fun q1 => bnx q1 (fun q3 => asr (vp_in a1 40) ((if (ν.1 (7 + (14 + (cl a1))) 4) = 0 then bnd (g_X5_rankOf ν 7 a1) (fun q8 => bnd (g_X5_totalAtRank ν 7 a1 q8) (fun q10 => some (.ok q10))) else some (.ok (0 : Int32))))))
set_option maxRecDepth 20000 in
set_option maxHeartbeats 4000000 in
theorem k_X11_callTotal (l : Launch) (D : va_G) (cA : Nat → ClassId) (s0 : State) (z : Nat) (b : Nat) (ν : Mm) (sz : Nat) (hG : xG l D cA s0) (a1 : Int32) (r : Thr Int32) (hF : g_X11_callTotal ν a1 = some r) : vx_Met l yX11_callTotal (wsG yX11_callTotal cX11_callTotal 2 (some (FieldType.int))) { frames := 9, cells := 1, slots := 6, locals := 175 } (xP D cA s0 [.ref (b + 0), .int a1] (fun H => H.size = sz ∧ WC D cA s0 z b ν H)) (xQt (fun q => (some (.int q))) (fun _ H => WC D cA s0 z b ν H) (xA b 2564 sz) r) (xXt (fun H => WC D cA s0 z b ν H) (xA b 2564 sz) r) 1 6 (xA b 2564 sz) := by
  refine t_start (z := z) (b := b) (ν := ν) (s0 := s0) (own := RX11) [(0, .ref (b + 0)), (1, .int a1)] rfl rfl (by decide) (nb rfl) ?_
  intro p e s m args below meth c C hX hw
  obtain ⟨hsz, hw⟩ := hw
  subst hsz
  have hS : va_S (xA b 2564 s.heap.size) s.heap s.heap [] := va_S.rf
  refine x_aload_n C dX11_callTotal_0 rfl ?_
  refine x_iload_n C dX11_callTotal_1 rfl ?_
  obtain ⟨q1, hq2, hF⟩ := bnd_e hF
  refine t_goT (fun ls h => t_runV (As := [.int a1]) [] h C ml_X11_199 (k_X11_requireCall l D cA s0 z b ν _ hG a1 q1 hq2) ⟨rfl, rfl, nb rfl, nb rfl⟩ rfl (C_PD hw) rfl ⟨rfl, hw⟩ (nb rfl) ⟨nb rfl, nb rfl⟩ dX11_callTotal_2) hF hS (xA_le hS) C hX (fun _ h => h) (nb rfl) (nb rfl) (fun q3 hF H locs hw hS => ?_)
  refine x_widen (k := 1) (n := 6) (nb rfl) (nb rfl) ?_
  have hw : WC D cA s0 z b ν H := hw
  refine x_aload_n C dX11_callTotal_5 rfl ?_
  refine x_get (.ref (b + 7)) C fl_X11_24 (C_PD hw) rfl dX11_callTotal_6 ?_
  refine x_get (.ref (b + (7 + 2))) C fl_X11_202 (C_Led led7 hw) rfl dX11_callTotal_9 ?_
  refine x_iload_n C dX11_callTotal_12 rfl ?_
  obtain ⟨h4, hF⟩ := asr_e hF
  obtain ⟨hn5, hl6⟩ := vpn h4 (by decide)
  refine x_aald 4 C (C_calls led7 hw) rfl hn5 hl6 (by decide) rfl dX11_callTotal_13 ?_
  refine x_get (.int (ν.1 (7 + (14 + (cl a1))) 4)) C fl_X11_220 (C_Cal (mk_Cal led7 hl6) hw) rfl dX11_callTotal_14 ?_
  refine x_if_eq 22 C dX11_callTotal_17 (by decide) (fun c7 => ?_) (fun c7 => ?_)
  · have hF := ite_t hF c7
    refine x_aload_n C dX11_callTotal_22 rfl ?_
    refine x_get (.ref (b + 7)) C fl_X11_24 (C_PD hw) rfl dX11_callTotal_23 ?_
    refine x_iload_n C dX11_callTotal_26 rfl ?_
    refine x_aload_n C dX11_callTotal_27 rfl ?_
    refine x_get (.ref (b + 7)) C fl_X11_24 (C_PD hw) rfl dX11_callTotal_28 ?_
    refine x_iload_n C dX11_callTotal_31 rfl ?_
    obtain ⟨q8, hq9, hF⟩ := bnd_e hF
    refine x_goR (fun ls h => x_runV (As := [.int a1]) [.int a1, .ref (b + 7)] h C ml_X11_223 (k_X5_rankOf l D cA s0 z b ν hG 7 a1 q8 hq9) ⟨rfl, rfl, nb rfl, nb rfl⟩ rfl (C_Led led7 hw) rfl hw (nb rfl) ⟨nb rfl, nb rfl⟩ dX11_callTotal_32) ?_
    obtain ⟨q10, hq11, hF⟩ := bnd_e hF
    refine x_goR (fun ls h => x_runV (As := [.int a1, .int q8]) [] h C ml_X11_254 (k_X5_totalAtRank l D cA s0 z b ν hG 7 a1 q8 q10 hq11) ⟨rfl, rfl, nb rfl, nb rfl⟩ rfl (C_Led led7 hw) rfl hw (nb rfl) ⟨nb rfl, nb rfl⟩ dX11_callTotal_35) ?_
    exact t_iret C rfl dX11_callTotal_38  (rt_o hF) rfl hw hS (nb rfl) (nb rfl)
  · have hF := ite_f hF c7
    refine x_iconst (0 : Int32) C dX11_callTotal_20 rfl ?_
    exact t_iret C rfl dX11_callTotal_21  (rt_o hF) rfl hw hS (nb rfl) (nb rfl)
noncomputable def g_X11_requireInvoice (ν : Mm) (a1 : Int32) : Option (Thr Unit) := bnd (g_X11_requireIndex ν a1 (ν.1 7 7)) (fun q1 => bnx q1 (fun q3 => some (.ok ())))
set_option maxRecDepth 20000 in
set_option maxHeartbeats 4000000 in
theorem k_X11_requireInvoice (l : Launch) (D : va_G) (cA : Nat → ClassId) (s0 : State) (z : Nat) (b : Nat) (ν : Mm) (sz : Nat) (hG : xG l D cA s0) (a1 : Int32) (r : Thr Unit) (hF : g_X11_requireInvoice ν a1 = some r) : vx_Met l yX11_requireInvoice (wsG yX11_requireInvoice cX11_requireInvoice 2 none) { frames := 8, cells := 1, slots := 6, locals := 154 } (xP D cA s0 [.ref (b + 0), .int a1] (fun H => H.size = sz ∧ WC D cA s0 z b ν H)) (xQt (fun q => none) (fun _ H => WC D cA s0 z b ν H) (xA b 2564 sz) r) (xXt (fun H => WC D cA s0 z b ν H) (xA b 2564 sz) r) 1 6 (xA b 2564 sz) := by
  refine t_start (z := z) (b := b) (ν := ν) (s0 := s0) (own := RX11) [(0, .ref (b + 0)), (1, .int a1)] rfl rfl (by decide) (nb rfl) ?_
  intro p e s m args below meth c C hX hw
  obtain ⟨hsz, hw⟩ := hw
  subst hsz
  have hS : va_S (xA b 2564 s.heap.size) s.heap s.heap [] := va_S.rf
  refine x_iload_n C dX11_requireInvoice_0 rfl ?_
  refine x_aload_n C dX11_requireInvoice_1 rfl ?_
  refine x_get (.ref (b + 7)) C fl_X11_24 (C_PD hw) rfl dX11_requireInvoice_2 ?_
  refine x_get (.int (ν.1 7 7)) C fl_X11_106 (C_Led led7 hw) rfl dX11_requireInvoice_5 ?_
  obtain ⟨q1, hq2, hF⟩ := bnd_e hF
  refine t_goT (fun ls h => t_runS (As := [.int a1, .int (ν.1 7 7)]) [] h C ml_X11_153 (k_X11_requireIndex l D cA s0 z b ν _ hG a1 (ν.1 7 7) q1 hq2) ⟨rfl, rfl, nb rfl, nb rfl⟩ rfl ⟨rfl, hw⟩ (nb rfl) ⟨nb rfl, nb rfl⟩ dX11_requireInvoice_8) hF hS (xA_le hS) C hX (fun _ h => h) (nb rfl) (nb rfl) (fun q3 hF H locs hw hS => ?_)
  refine x_widen (k := 1) (n := 6) (nb rfl) (nb rfl) ?_
  have hw : WC D cA s0 z b ν H := hw
  exact t_vret C rfl dX11_requireInvoice_11 (rt_o hF) rfl hw hS (nb rfl) (nb rfl)
noncomputable def g_X11_invoice (ν : Mm) (a1 : Int32) (a2 : Int32) : Option (Thr Int32) := bnd (g_X11_requireInvoice ν a1) (fun q1 => bnx q1 (fun q3 => bnd (g_X11_requireRange ν a2 (0 : Int32) (5 : Int32)) (fun q4 => bnx q4 (fun q6 => asr (vp_in a1 60) ((if a2 = 0 then some (.ok (ν.1 (7 + (54 + 2 * (cl a1))) 1)) else (if a2 = 1 then some (.ok (ν.1 (7 + (54 + 2 * (cl a1))) 2)) else (if a2 = 2 then some (.ok (ν.1 (7 + (54 + 2 * (cl a1))) 3)) else (if a2 = 3 then some (.ok (ν.1 (7 + (54 + 2 * (cl a1))) 4)) else (if a2 = 4 then some (.ok (ν.1 (7 + (54 + 2 * (cl a1))) 5)) else some (.ok (ν.1 (7 + (54 + 2 * (cl a1))) 6))))))))))))
set_option maxRecDepth 20000 in
set_option maxHeartbeats 4000000 in
theorem k_X11_invoice (l : Launch) (D : va_G) (cA : Nat → ClassId) (s0 : State) (z : Nat) (b : Nat) (ν : Mm) (sz : Nat) (hG : xG l D cA s0) (a1 : Int32) (a2 : Int32) (r : Thr Int32) (hF : g_X11_invoice ν a1 a2 = some r) : vx_Met l yX11_invoice (wsG yX11_invoice cX11_invoice 4 (some (FieldType.int))) { frames := 9, cells := 2, slots := 12, locals := 175 } (xP D cA s0 [.ref (b + 0), .int a1, .int a2] (fun H => H.size = sz ∧ WC D cA s0 z b ν H)) (xQt (fun q => (some (.int q))) (fun _ H => WC D cA s0 z b ν H) (xA b 2564 sz) r) (xXt (fun H => WC D cA s0 z b ν H) (xA b 2564 sz) r) 2 12 (xA b 2564 sz) := by
  refine t_start (z := z) (b := b) (ν := ν) (s0 := s0) (own := RX11) [(0, .ref (b + 0)), (1, .int a1), (2, .int a2)] rfl rfl (by decide) (nb rfl) ?_
  intro p e s m args below meth c C hX hw
  obtain ⟨hsz, hw⟩ := hw
  subst hsz
  have hS : va_S (xA b 2564 s.heap.size) s.heap s.heap [] := va_S.rf
  refine x_aload_n C dX11_invoice_0 rfl ?_
  refine x_iload_n C dX11_invoice_1 rfl ?_
  obtain ⟨q1, hq2, hF⟩ := bnd_e hF
  refine t_goT (fun ls h => t_runV (As := [.int a1]) [] h C ml_X11_257 (k_X11_requireInvoice l D cA s0 z b ν _ hG a1 q1 hq2) ⟨rfl, rfl, nb rfl, nb rfl⟩ rfl (C_PD hw) rfl ⟨rfl, hw⟩ (nb rfl) ⟨nb rfl, nb rfl⟩ dX11_invoice_2) hF hS (xA_le hS) C hX (fun _ h => h) (nb rfl) (nb rfl) (fun q3 hF H locs hw hS => ?_)
  refine x_widen (k := 1) (n := 6) (nb rfl) (nb rfl) ?_
  have hw : WC D cA s0 z b ν H := hw
  refine x_iload_n C dX11_invoice_5 rfl ?_
  refine x_iconst (0 : Int32) C dX11_invoice_6 rfl ?_
  refine x_iconst (5 : Int32) C dX11_invoice_7 rfl ?_
  obtain ⟨q4, hq5, hF⟩ := bnd_e hF
  refine t_goT (fun ls h => t_runS (As := [.int a2, .int (0 : Int32), .int (5 : Int32)]) [] h C ml_X11_76 (k_X11_requireRange l D cA s0 z b ν _ hG a2 (0 : Int32) (5 : Int32) q4 hq5) ⟨rfl, rfl, nb rfl, nb rfl⟩ rfl ⟨rfl, hw⟩ (nb rfl) ⟨nb rfl, nb rfl⟩ dX11_invoice_8) hF hS (xA_le hS) C hX (fun _ h => h) (nb rfl) (nb rfl) (fun q6 hF H locs hw hS => ?_)
  refine x_widen (k := 2) (n := 12) (nb rfl) (nb rfl) ?_
  have hw : WC D cA s0 z b ν H := hw
  refine x_aload_n C dX11_invoice_11 rfl ?_
  refine x_get (.ref (b + 7)) C fl_X11_24 (C_PD hw) rfl dX11_invoice_12 ?_
  refine x_get (.ref (b + (7 + 3))) C fl_X11_260 (C_Led led7 hw) rfl dX11_invoice_15 ?_
  refine x_iload_n C dX11_invoice_18 rfl ?_
  obtain ⟨h7, hF⟩ := asr_e hF
  obtain ⟨hn8, hl9⟩ := vpn h7 (by decide)
  refine x_aald 5 C (C_invoices led7 hw) rfl hn8 hl9 (by decide) rfl dX11_invoice_19 ?_
  refine x_astore_n [(3, .ref (b + (7 + (54 + 2 * (cl a1))))), (0, .ref (b + 0)), (1, .int a1), (2, .int a2)] C dX11_invoice_20 rfl (by decide) rfl ?_
  refine x_iload_n C dX11_invoice_21 rfl ?_
  by_cases c10 : a2 = 0
  · have hF := ite_t hF c10
    refine x_tabIn 0 56 C dX11_invoice_22 (by rw [c10]; rfl) (by decide) (by decide) rfl (by decide) ?_
    refine x_aload_n C dX11_invoice_56 rfl ?_
    refine x_get (.int (ν.1 (7 + (54 + 2 * (cl a1))) 1)) C fl_X11_264 (C_Inv (mk_Inv led7 hl9) hw) rfl dX11_invoice_57 ?_
    exact t_iret C rfl dX11_invoice_60  (rt_o hF) rfl hw hS (nb rfl) (nb rfl)
  · have hF := ite_f hF c10
    by_cases c11 : a2 = 1
    · have hF := ite_t hF c11
      refine x_tabIn 1 61 C dX11_invoice_22 (by rw [c11]; rfl) (by decide) (by decide) rfl (by decide) ?_
      refine x_aload_n C dX11_invoice_61 rfl ?_
      refine x_get (.int (ν.1 (7 + (54 + 2 * (cl a1))) 2)) C fl_X11_269 (C_Inv (mk_Inv led7 hl9) hw) rfl dX11_invoice_62 ?_
      exact t_iret C rfl dX11_invoice_65  (rt_o hF) rfl hw hS (nb rfl) (nb rfl)
    · have hF := ite_f hF c11
      by_cases c12 : a2 = 2
      · have hF := ite_t hF c12
        refine x_tabIn 2 66 C dX11_invoice_22 (by rw [c12]; rfl) (by decide) (by decide) rfl (by decide) ?_
        refine x_aload_n C dX11_invoice_66 rfl ?_
        refine x_get (.int (ν.1 (7 + (54 + 2 * (cl a1))) 3)) C fl_X11_272 (C_Inv (mk_Inv led7 hl9) hw) rfl dX11_invoice_67 ?_
        exact t_iret C rfl dX11_invoice_70  (rt_o hF) rfl hw hS (nb rfl) (nb rfl)
      · have hF := ite_f hF c12
        by_cases c13 : a2 = 3
        · have hF := ite_t hF c13
          refine x_tabIn 3 71 C dX11_invoice_22 (by rw [c13]; rfl) (by decide) (by decide) rfl (by decide) ?_
          refine x_aload_n C dX11_invoice_71 rfl ?_
          refine x_get (.int (ν.1 (7 + (54 + 2 * (cl a1))) 4)) C fl_X11_273 (C_Inv (mk_Inv led7 hl9) hw) rfl dX11_invoice_72 ?_
          exact t_iret C rfl dX11_invoice_75  (rt_o hF) rfl hw hS (nb rfl) (nb rfl)
        · have hF := ite_f hF c13
          by_cases c14 : a2 = 4
          · have hF := ite_t hF c14
            refine x_tabIn 4 76 C dX11_invoice_22 (by rw [c14]; rfl) (by decide) (by decide) rfl (by decide) ?_
            refine x_aload_n C dX11_invoice_76 rfl ?_
            refine x_get (.int (ν.1 (7 + (54 + 2 * (cl a1))) 5)) C fl_X11_276 (C_Inv (mk_Inv led7 hl9) hw) rfl dX11_invoice_77 ?_
            exact t_iret C rfl dX11_invoice_80  (rt_o hF) rfl hw hS (nb rfl) (nb rfl)
          · have hF := ite_f hF c14
            have t15 : a2.toInt ≠ 0 := fun z => c10 ((fa_eqI _ _).mpr z)
            have t16 : a2.toInt ≠ 1 := fun z => c11 ((fa_eqI _ _).mpr z)
            have t17 : a2.toInt ≠ 2 := fun z => c12 ((fa_eqI _ _).mpr z)
            have t18 : a2.toInt ≠ 3 := fun z => c13 ((fa_eqI _ _).mpr z)
            have t19 : a2.toInt ≠ 4 := fun z => c14 ((fa_eqI _ _).mpr z)
            refine x_tabOut 81 C dX11_invoice_22 (by omega) (by decide) ?_
            refine x_aload_n C dX11_invoice_81 rfl ?_
            refine x_get (.int (ν.1 (7 + (54 + 2 * (cl a1))) 6)) C fl_X11_279 (C_Inv (mk_Inv led7 hl9) hw) rfl dX11_invoice_82 ?_
            exact t_iret C rfl dX11_invoice_85  (rt_o hF) rfl hw hS (nb rfl) (nb rfl)
noncomputable def g_X11_line (ν : Mm) (a1 : Int32) (a2 : Int32) : Option (Thr Int32) := bnd (g_X11_requireInvoice ν a1) (fun q1 => bnx q1 (fun q3 => bnd (g_X11_requireLine ν a2) (fun q4 => bnx q4 (fun q6 => asr (vp_in a1 60) (asr (vp_in a2 4) (some (.ok (ν.1 ((7 + (54 + 2 * (cl a1))) + 1) (cl a2)))))))))
set_option maxRecDepth 20000 in
set_option maxHeartbeats 4000000 in
theorem k_X11_line (l : Launch) (D : va_G) (cA : Nat → ClassId) (s0 : State) (z : Nat) (b : Nat) (ν : Mm) (sz : Nat) (hG : xG l D cA s0) (a1 : Int32) (a2 : Int32) (r : Thr Int32) (hF : g_X11_line ν a1 a2 = some r) : vx_Met l yX11_line (wsG yX11_line cX11_line 3 (some (FieldType.int))) { frames := 10, cells := 2, slots := 12, locals := 195 } (xP D cA s0 [.ref (b + 0), .int a1, .int a2] (fun H => H.size = sz ∧ WC D cA s0 z b ν H)) (xQt (fun q => (some (.int q))) (fun _ H => WC D cA s0 z b ν H) (xA b 2564 sz) r) (xXt (fun H => WC D cA s0 z b ν H) (xA b 2564 sz) r) 2 12 (xA b 2564 sz) := by
  refine t_start (z := z) (b := b) (ν := ν) (s0 := s0) (own := RX11) [(0, .ref (b + 0)), (1, .int a1), (2, .int a2)] rfl rfl (by decide) (nb rfl) ?_
  intro p e s m args below meth c C hX hw
  obtain ⟨hsz, hw⟩ := hw
  subst hsz
  have hS : va_S (xA b 2564 s.heap.size) s.heap s.heap [] := va_S.rf
  refine x_aload_n C dX11_line_0 rfl ?_
  refine x_iload_n C dX11_line_1 rfl ?_
  obtain ⟨q1, hq2, hF⟩ := bnd_e hF
  refine t_goT (fun ls h => t_runV (As := [.int a1]) [] h C ml_X11_257 (k_X11_requireInvoice l D cA s0 z b ν _ hG a1 q1 hq2) ⟨rfl, rfl, nb rfl, nb rfl⟩ rfl (C_PD hw) rfl ⟨rfl, hw⟩ (nb rfl) ⟨nb rfl, nb rfl⟩ dX11_line_2) hF hS (xA_le hS) C hX (fun _ h => h) (nb rfl) (nb rfl) (fun q3 hF H locs hw hS => ?_)
  refine x_widen (k := 1) (n := 6) (nb rfl) (nb rfl) ?_
  have hw : WC D cA s0 z b ν H := hw
  refine x_iload_n C dX11_line_5 rfl ?_
  obtain ⟨q4, hq5, hF⟩ := bnd_e hF
  refine t_goT (fun ls h => t_runS (As := [.int a2]) [] h C ml_X11_247 (k_X11_requireLine l D cA s0 z b ν _ hG a2 q4 hq5) ⟨rfl, rfl, nb rfl, nb rfl⟩ rfl ⟨rfl, hw⟩ (nb rfl) ⟨nb rfl, nb rfl⟩ dX11_line_6) hF hS (xA_le hS) C hX (fun _ h => h) (nb rfl) (nb rfl) (fun q6 hF H locs hw hS => ?_)
  refine x_widen (k := 2) (n := 12) (nb rfl) (nb rfl) ?_
  have hw : WC D cA s0 z b ν H := hw
  refine x_aload_n C dX11_line_9 rfl ?_
  refine x_get (.ref (b + 7)) C fl_X11_24 (C_PD hw) rfl dX11_line_10 ?_
  refine x_get (.ref (b + (7 + 3))) C fl_X11_260 (C_Led led7 hw) rfl dX11_line_13 ?_
  refine x_iload_n C dX11_line_16 rfl ?_
  obtain ⟨h7, hF⟩ := asr_e hF
  obtain ⟨hn8, hl9⟩ := vpn h7 (by decide)
  refine x_aald 5 C (C_invoices led7 hw) rfl hn8 hl9 (by decide) rfl dX11_line_17 ?_
  refine x_get (.ref (b + ((7 + (54 + 2 * (cl a1))) + 1))) C fl_X11_282 (C_Inv (mk_Inv led7 hl9) hw) rfl dX11_line_18 ?_
  refine x_iload_n C dX11_line_21 rfl ?_
  obtain ⟨h10, hF⟩ := asr_e hF
  obtain ⟨hn11, hl12⟩ := vpn h10 (by decide)
  refine x_ialdN C (C_amounts (mk_Inv led7 hl9) hw) hn11 hl12 (by decide) dX11_line_22 ?_
  exact t_iret C rfl dX11_line_23  (rt_o hF) rfl hw hS (nb rfl) (nb rfl)
noncomputable def g_X11_net (ν : Mm) (a1 : Int32) : Option (Thr Int32) := bnd (g_X11_requireInvoice ν a1) (fun q1 => bnx q1 (fun q3 => asr (vp_in a1 60) (bnd (g_X4_netAmount ν (7 + (54 + 2 * (cl a1)))) (fun q7 => some (.ok q7)))))
set_option maxRecDepth 20000 in
set_option maxHeartbeats 4000000 in
theorem k_X11_net (l : Launch) (D : va_G) (cA : Nat → ClassId) (s0 : State) (z : Nat) (b : Nat) (ν : Mm) (sz : Nat) (hG : xG l D cA s0) (a1 : Int32) (r : Thr Int32) (hF : g_X11_net ν a1 = some r) : vx_Met l yX11_net (wsG yX11_net cX11_net 2 (some (FieldType.int))) { frames := 9, cells := 1, slots := 6, locals := 175 } (xP D cA s0 [.ref (b + 0), .int a1] (fun H => H.size = sz ∧ WC D cA s0 z b ν H)) (xQt (fun q => (some (.int q))) (fun _ H => WC D cA s0 z b ν H) (xA b 2564 sz) r) (xXt (fun H => WC D cA s0 z b ν H) (xA b 2564 sz) r) 1 6 (xA b 2564 sz) := by
  refine t_start (z := z) (b := b) (ν := ν) (s0 := s0) (own := RX11) [(0, .ref (b + 0)), (1, .int a1)] rfl rfl (by decide) (nb rfl) ?_
  intro p e s m args below meth c C hX hw
  obtain ⟨hsz, hw⟩ := hw
  subst hsz
  have hS : va_S (xA b 2564 s.heap.size) s.heap s.heap [] := va_S.rf
  refine x_aload_n C dX11_net_0 rfl ?_
  refine x_iload_n C dX11_net_1 rfl ?_
  obtain ⟨q1, hq2, hF⟩ := bnd_e hF
  refine t_goT (fun ls h => t_runV (As := [.int a1]) [] h C ml_X11_257 (k_X11_requireInvoice l D cA s0 z b ν _ hG a1 q1 hq2) ⟨rfl, rfl, nb rfl, nb rfl⟩ rfl (C_PD hw) rfl ⟨rfl, hw⟩ (nb rfl) ⟨nb rfl, nb rfl⟩ dX11_net_2) hF hS (xA_le hS) C hX (fun _ h => h) (nb rfl) (nb rfl) (fun q3 hF H locs hw hS => ?_)
  refine x_widen (k := 1) (n := 6) (nb rfl) (nb rfl) ?_
  have hw : WC D cA s0 z b ν H := hw
  refine x_aload_n C dX11_net_5 rfl ?_
  refine x_get (.ref (b + 7)) C fl_X11_24 (C_PD hw) rfl dX11_net_6 ?_
  refine x_get (.ref (b + (7 + 3))) C fl_X11_260 (C_Led led7 hw) rfl dX11_net_9 ?_
  refine x_iload_n C dX11_net_12 rfl ?_
  obtain ⟨h4, hF⟩ := asr_e hF
  obtain ⟨hn5, hl6⟩ := vpn h4 (by decide)
  refine x_aald 5 C (C_invoices led7 hw) rfl hn5 hl6 (by decide) rfl dX11_net_13 ?_
  obtain ⟨q7, hq8, hF⟩ := bnd_e hF
  refine x_goR (fun ls h => x_runV (As := []) [] h C ml_X11_285 (k_X4_netAmount l D cA s0 z b ν hG (7 + (54 + 2 * (cl a1))) q7 hq8) ⟨rfl, rfl, nb rfl, nb rfl⟩ rfl (C_Inv (mk_Inv led7 hl6) hw) rfl hw (nb rfl) ⟨nb rfl, nb rfl⟩ dX11_net_14) ?_
  exact t_iret C rfl dX11_net_17  (rt_o hF) rfl hw hS (nb rfl) (nb rfl)
noncomputable def g_X11_open (ν : Mm) (a1 : Int32) : Option (Thr Int32) := bnd (g_X11_requireInvoice ν a1) (fun q1 => bnx q1 (fun q3 => bnd (g_X0_openAmount ν a1) (fun q4 => some (.ok q4))))
set_option maxRecDepth 20000 in
set_option maxHeartbeats 4000000 in
theorem k_X11_open (l : Launch) (D : va_G) (cA : Nat → ClassId) (s0 : State) (z : Nat) (b : Nat) (ν : Mm) (sz : Nat) (hG : xG l D cA s0) (a1 : Int32) (r : Thr Int32) (hF : g_X11_open ν a1 = some r) : vx_Met l yX11_open (wsG yX11_open cX11_open 2 (some (FieldType.int))) { frames := 9, cells := 1, slots := 6, locals := 175 } (xP D cA s0 [.ref (b + 0), .int a1] (fun H => H.size = sz ∧ WC D cA s0 z b ν H)) (xQt (fun q => (some (.int q))) (fun _ H => WC D cA s0 z b ν H) (xA b 2564 sz) r) (xXt (fun H => WC D cA s0 z b ν H) (xA b 2564 sz) r) 1 6 (xA b 2564 sz) := by
  refine t_start (z := z) (b := b) (ν := ν) (s0 := s0) (own := RX11) [(0, .ref (b + 0)), (1, .int a1)] rfl rfl (by decide) (nb rfl) ?_
  intro p e s m args below meth c C hX hw
  obtain ⟨hsz, hw⟩ := hw
  subst hsz
  have hS : va_S (xA b 2564 s.heap.size) s.heap s.heap [] := va_S.rf
  refine x_aload_n C dX11_open_0 rfl ?_
  refine x_iload_n C dX11_open_1 rfl ?_
  obtain ⟨q1, hq2, hF⟩ := bnd_e hF
  refine t_goT (fun ls h => t_runV (As := [.int a1]) [] h C ml_X11_257 (k_X11_requireInvoice l D cA s0 z b ν _ hG a1 q1 hq2) ⟨rfl, rfl, nb rfl, nb rfl⟩ rfl (C_PD hw) rfl ⟨rfl, hw⟩ (nb rfl) ⟨nb rfl, nb rfl⟩ dX11_open_2) hF hS (xA_le hS) C hX (fun _ h => h) (nb rfl) (nb rfl) (fun q3 hF H locs hw hS => ?_)
  refine x_widen (k := 1) (n := 6) (nb rfl) (nb rfl) ?_
  have hw : WC D cA s0 z b ν H := hw
  refine x_aload_n C dX11_open_5 rfl ?_
  refine x_get (.ref (b + 2562)) C fl_X11_52 (C_PD hw) rfl dX11_open_6 ?_
  refine x_iload_n C dX11_open_9 rfl ?_
  obtain ⟨q4, hq5, hF⟩ := bnd_e hF
  refine x_goR (fun ls h => x_runV (As := [.int a1]) [] h C ml_X11_288 (k_X0_openAmount l D cA s0 z b ν hG a1 q4 hq5) ⟨rfl, rfl, nb rfl, nb rfl⟩ rfl (C_Acc hw) rfl hw (nb rfl) ⟨nb rfl, nb rfl⟩ dX11_open_10) ?_
  exact t_iret C rfl dX11_open_13  (rt_o hF) rfl hw hS (nb rfl) (nb rfl)
noncomputable def g_X11_rebuilt (ν : Mm) (a1 : Int32) (a2 : Int32) : Option (Thr Int32) := bnd (g_X11_requireInvoice ν a1) (fun q1 => bnx q1 (fun q3 => bnd (g_X11_requireLine ν a2) (fun q4 => bnx q4 (fun q6 => asr (vp_in a1 60) (bnd (g_X0_rebuiltLine ν (7 + (54 + 2 * (cl a1))) a2) (fun q10 => some (.ok q10)))))))
set_option maxRecDepth 20000 in
set_option maxHeartbeats 4000000 in
theorem k_X11_rebuilt (l : Launch) (D : va_G) (cA : Nat → ClassId) (s0 : State) (z : Nat) (b : Nat) (ν : Mm) (sz : Nat) (hG : xG l D cA s0) (a1 : Int32) (a2 : Int32) (r : Thr Int32) (hF : g_X11_rebuilt ν a1 a2 = some r) : vx_Met l yX11_rebuilt (wsG yX11_rebuilt cX11_rebuilt 3 (some (FieldType.int))) { frames := 10, cells := 2, slots := 12, locals := 195 } (xP D cA s0 [.ref (b + 0), .int a1, .int a2] (fun H => H.size = sz ∧ WC D cA s0 z b ν H)) (xQt (fun q => (some (.int q))) (fun _ H => WC D cA s0 z b ν H) (xA b 2564 sz) r) (xXt (fun H => WC D cA s0 z b ν H) (xA b 2564 sz) r) 2 12 (xA b 2564 sz) := by
  refine t_start (z := z) (b := b) (ν := ν) (s0 := s0) (own := RX11) [(0, .ref (b + 0)), (1, .int a1), (2, .int a2)] rfl rfl (by decide) (nb rfl) ?_
  intro p e s m args below meth c C hX hw
  obtain ⟨hsz, hw⟩ := hw
  subst hsz
  have hS : va_S (xA b 2564 s.heap.size) s.heap s.heap [] := va_S.rf
  refine x_aload_n C dX11_rebuilt_0 rfl ?_
  refine x_iload_n C dX11_rebuilt_1 rfl ?_
  obtain ⟨q1, hq2, hF⟩ := bnd_e hF
  refine t_goT (fun ls h => t_runV (As := [.int a1]) [] h C ml_X11_257 (k_X11_requireInvoice l D cA s0 z b ν _ hG a1 q1 hq2) ⟨rfl, rfl, nb rfl, nb rfl⟩ rfl (C_PD hw) rfl ⟨rfl, hw⟩ (nb rfl) ⟨nb rfl, nb rfl⟩ dX11_rebuilt_2) hF hS (xA_le hS) C hX (fun _ h => h) (nb rfl) (nb rfl) (fun q3 hF H locs hw hS => ?_)
  refine x_widen (k := 1) (n := 6) (nb rfl) (nb rfl) ?_
  have hw : WC D cA s0 z b ν H := hw
  refine x_iload_n C dX11_rebuilt_5 rfl ?_
  obtain ⟨q4, hq5, hF⟩ := bnd_e hF
  refine t_goT (fun ls h => t_runS (As := [.int a2]) [] h C ml_X11_247 (k_X11_requireLine l D cA s0 z b ν _ hG a2 q4 hq5) ⟨rfl, rfl, nb rfl, nb rfl⟩ rfl ⟨rfl, hw⟩ (nb rfl) ⟨nb rfl, nb rfl⟩ dX11_rebuilt_6) hF hS (xA_le hS) C hX (fun _ h => h) (nb rfl) (nb rfl) (fun q6 hF H locs hw hS => ?_)
  refine x_widen (k := 2) (n := 12) (nb rfl) (nb rfl) ?_
  have hw : WC D cA s0 z b ν H := hw
  refine x_aload_n C dX11_rebuilt_9 rfl ?_
  refine x_get (.ref (b + 2562)) C fl_X11_52 (C_PD hw) rfl dX11_rebuilt_10 ?_
  refine x_aload_n C dX11_rebuilt_13 rfl ?_
  refine x_get (.ref (b + 7)) C fl_X11_24 (C_PD hw) rfl dX11_rebuilt_14 ?_
  refine x_get (.ref (b + (7 + 3))) C fl_X11_260 (C_Led led7 hw) rfl dX11_rebuilt_17 ?_
  refine x_iload_n C dX11_rebuilt_20 rfl ?_
  obtain ⟨h7, hF⟩ := asr_e hF
  obtain ⟨hn8, hl9⟩ := vpn h7 (by decide)
  refine x_aald 5 C (C_invoices led7 hw) rfl hn8 hl9 (by decide) rfl dX11_rebuilt_21 ?_
  refine x_iload_n C dX11_rebuilt_22 rfl ?_
  obtain ⟨q10, hq11, hF⟩ := bnd_e hF
  refine x_goR (fun ls h => x_runV (As := [.ref (b + (7 + (54 + 2 * (cl a1)))), .int a2]) [] h C ml_X11_291 (k_X0_rebuiltLine l D cA s0 z b ν hG (7 + (54 + 2 * (cl a1))) a2 q10 hq11) ⟨rfl, rfl, nb rfl, nb rfl⟩ rfl (C_Acc hw) rfl hw (nb rfl) ⟨nb rfl, nb rfl⟩ dX11_rebuilt_23) ?_
  exact t_iret C rfl dX11_rebuilt_26  (rt_o hF) rfl hw hS (nb rfl) (nb rfl)
noncomputable def g_X11_isStale (ν : Mm) (a1 : Int32) : Option (Thr Bool) := bnd (g_X11_requireInvoice ν a1) (fun q1 => bnx q1 (fun q3 => bnd (g_X0_differsFromRebuilt ν a1) (fun q4 => some (.ok q4))))
set_option maxRecDepth 20000 in
set_option maxHeartbeats 4000000 in
theorem k_X11_isStale (l : Launch) (D : va_G) (cA : Nat → ClassId) (s0 : State) (z : Nat) (b : Nat) (ν : Mm) (sz : Nat) (hG : xG l D cA s0) (a1 : Int32) (r : Thr Bool) (hF : g_X11_isStale ν a1 = some r) : vx_Met l yX11_isStale (wsG yX11_isStale cX11_isStale 2 (some (FieldType.boolean))) { frames := 9, cells := 1, slots := 6, locals := 175 } (xP D cA s0 [.ref (b + 0), .int a1] (fun H => H.size = sz ∧ WC D cA s0 z b ν H)) (xQt (fun q => (some (.int (bI q)))) (fun _ H => WC D cA s0 z b ν H) (xA b 2564 sz) r) (xXt (fun H => WC D cA s0 z b ν H) (xA b 2564 sz) r) 1 6 (xA b 2564 sz) := by
  refine t_start (z := z) (b := b) (ν := ν) (s0 := s0) (own := RX11) [(0, .ref (b + 0)), (1, .int a1)] rfl rfl (by decide) (nb rfl) ?_
  intro p e s m args below meth c C hX hw
  obtain ⟨hsz, hw⟩ := hw
  subst hsz
  have hS : va_S (xA b 2564 s.heap.size) s.heap s.heap [] := va_S.rf
  refine x_aload_n C dX11_isStale_0 rfl ?_
  refine x_iload_n C dX11_isStale_1 rfl ?_
  obtain ⟨q1, hq2, hF⟩ := bnd_e hF
  refine t_goT (fun ls h => t_runV (As := [.int a1]) [] h C ml_X11_257 (k_X11_requireInvoice l D cA s0 z b ν _ hG a1 q1 hq2) ⟨rfl, rfl, nb rfl, nb rfl⟩ rfl (C_PD hw) rfl ⟨rfl, hw⟩ (nb rfl) ⟨nb rfl, nb rfl⟩ dX11_isStale_2) hF hS (xA_le hS) C hX (fun _ h => h) (nb rfl) (nb rfl) (fun q3 hF H locs hw hS => ?_)
  refine x_widen (k := 1) (n := 6) (nb rfl) (nb rfl) ?_
  have hw : WC D cA s0 z b ν H := hw
  refine x_aload_n C dX11_isStale_5 rfl ?_
  refine x_get (.ref (b + 2562)) C fl_X11_52 (C_PD hw) rfl dX11_isStale_6 ?_
  refine x_iload_n C dX11_isStale_9 rfl ?_
  obtain ⟨q4, hq5, hF⟩ := bnd_e hF
  refine x_goR (fun ls h => x_runV (As := [.int a1]) [] h C ml_X11_295 (k_X0_differsFromRebuilt l D cA s0 z b ν hG a1 q4 hq5) ⟨rfl, rfl, nb rfl, nb rfl⟩ rfl (C_Acc hw) rfl hw (nb rfl) ⟨nb rfl, nb rfl⟩ dX11_isStale_10) ?_
  exact t_zret C rfl dX11_isStale_13 (bI_nar _) (rt_o hF) rfl hw hS (nb rfl) (nb rfl)
noncomputable def g_X11_staleCount_L4 (ν : Mm) : Nat → Int32 → Int32 → Option (Int32)
  | 0, _, _ => none
  | n + 1, x1, x2 => (if (ν.1 7 7) ≤ x2 then some x1 else bnd (g_X0_differsFromRebuilt ν x2) (fun q2 => (if q2 = true then (g_X11_staleCount_L4 ν n (x1 + (1 : Int32)) (x2 + (1 : Int32))) else (g_X11_staleCount_L4 ν n x1 (x2 + (1 : Int32))))))
noncomputable def g_X11_staleCount (ν : Mm) : Option (Int32) := (g_X11_staleCount_L4 ν 10000 (0 : Int32) (0 : Int32))
set_option maxRecDepth 20000 in
set_option maxHeartbeats 4000000 in
theorem k_X11_staleCount (l : Launch) (D : va_G) (cA : Nat → ClassId) (s0 : State) (z : Nat) (b : Nat) (ν : Mm) (hG : xG l D cA s0) (r : Int32) (hF : g_X11_staleCount ν = some r) : Met l yX11_staleCount (wsG yX11_staleCount cX11_staleCount 3 (some (FieldType.int))) { frames := 5, cells := 0, slots := 0, locals := 119 } (xP D cA s0 [.ref (b + 0)] (WC D cA s0 z b ν)) (xQr (some (.int r))) 0 0 xN := by
  refine x_start (own := RX11) [(0, .ref (b + 0))] rfl rfl (by decide) (nb rfl) ?_
  intro p e s m args below meth c C hw
  have h_L4 : ∀ (n : Nat) (x1 : Int32) (x2 : Int32), g_X11_staleCount_L4 ν n x1 x2 = some r → xW p l e { frames := 5, cells := 0, slots := 0, locals := 119 } s m args below meth c 3 (MQ below (xQr (some (.int r))) args s 0 0 xN) s.heap [] 0 0 4 [(0, .ref (b + 0)), (1, .int x1), (2, .int x2)] [] := by
    intro n
    induction n with
    | zero =>
      intro x1 x2 hF
      exact no_some hF
    | succ n ih =>
      intro x1 x2 hF
      have ih4 := ih
      refine x_iload_n C dX11_staleCount_4 rfl ?_
      refine x_aload_n C dX11_staleCount_5 rfl ?_
      refine x_get (.ref (b + 7)) C fl_X11_24 (C_PD hw) rfl dX11_staleCount_6 ?_
      refine x_get (.int (ν.1 7 7)) C fl_X11_106 (C_Led led7 hw) rfl dX11_staleCount_9 ?_
      refine x_icmp_ge 35 C dX11_staleCount_12 (by decide) (fun c1 => ?_) (fun c1 => ?_)
      · have hF := ite_t hF c1
        refine x_iload_n C dX11_staleCount_35 rfl ?_
        exact x_iretR C rfl dX11_staleCount_36  (r_i hF)
      · have hF := ite_f hF c1
        refine x_aload_n C dX11_staleCount_15 rfl ?_
        refine x_get (.ref (b + 2562)) C fl_X11_52 (C_PD hw) rfl dX11_staleCount_16 ?_
        refine x_iload_n C dX11_staleCount_19 rfl ?_
        obtain ⟨q2, hq3, hF⟩ := bnd_e hF
        refine x_goR (fun ls h => x_runV (As := [.int x2]) [] h C ml_X11_295 (k_X0_differsFromRebuilt l D cA s0 z b ν hG x2 q2 hq3) ⟨rfl, rfl, nb rfl, nb rfl⟩ rfl (C_Acc hw) rfl hw (nb rfl) ⟨Nat.zero_le _, Nat.zero_le _⟩ dX11_staleCount_20) ?_
        refine x_ifB_eq 29 C dX11_staleCount_23 (by decide) (fun c4 => ?_) (fun c4 => ?_)
        · have hF := ite_f hF (nbt c4)
          refine x_iinc (x2 + (1 : Int32)) [(2, .int (x2 + (1 : Int32))), (0, .ref (b + 0)), (1, .int x1)] C dX11_staleCount_29 rfl rfl (by decide) rfl ?_
          refine x_goto 4 C dX11_staleCount_32 (by decide) ?_
          refine x_sub [(0, .ref (b + 0)), (1, .int x1), (2, .int (x2 + (1 : Int32)))] [1, 2, 0] rfl ?_
          exact ih4 x1 (x2 + (1 : Int32)) hF
        · have hF := ite_t hF c4
          refine x_iinc (x1 + (1 : Int32)) [(1, .int (x1 + (1 : Int32))), (0, .ref (b + 0)), (2, .int x2)] C dX11_staleCount_26 rfl rfl (by decide) rfl ?_
          refine x_iinc (x2 + (1 : Int32)) [(2, .int (x2 + (1 : Int32))), (1, .int (x1 + (1 : Int32))), (0, .ref (b + 0))] C dX11_staleCount_29 rfl rfl (by decide) rfl ?_
          refine x_goto 4 C dX11_staleCount_32 (by decide) ?_
          refine x_sub [(0, .ref (b + 0)), (1, .int (x1 + (1 : Int32))), (2, .int (x2 + (1 : Int32)))] [2, 1, 0] rfl ?_
          exact ih4 (x1 + (1 : Int32)) (x2 + (1 : Int32)) hF
  refine x_iconst (0 : Int32) C dX11_staleCount_0 rfl ?_
  refine x_istore_n [(1, .int (0 : Int32)), (0, .ref (b + 0))] C dX11_staleCount_1 rfl (by decide) rfl ?_
  refine x_iconst (0 : Int32) C dX11_staleCount_2 rfl ?_
  refine x_istore_n [(2, .int (0 : Int32)), (1, .int (0 : Int32)), (0, .ref (b + 0))] C dX11_staleCount_3 rfl (by decide) rfl ?_
  refine x_sub [(0, .ref (b + 0)), (1, .int (0 : Int32)), (2, .int (0 : Int32))] [2, 1, 0] rfl ?_
  exact h_L4 10000 (0 : Int32) (0 : Int32) hF
noncomputable def g_X11_contested (ν : Mm) (a1 : Int32) : Option (Thr Int32) := bnd (g_X11_requireInvoice ν a1) (fun q1 => bnx q1 (fun q3 => asr (vp_in a1 60) (bnd (g_X4_stands ν (7 + (54 + 2 * (cl a1))) (3 : Int32)) (fun q7 => (if q7 = true then asr (vp_in (ν.1 (7 + (54 + 2 * (cl a1))) 1) 40) (bnd (g_X2_contestedDays ν (7 + (14 + (cl (ν.1 (7 + (54 + 2 * (cl a1))) 1))))) (fun q13 => bnd (g_J6_bitCount_0f7a4 ((ν.1 (7 + (54 + 2 * (cl a1))) 6) &&& q13)) (fun q15 => some (.ok q15)))) else some (.ok (0 : Int32)))))))
set_option maxRecDepth 20000 in
set_option maxHeartbeats 4000000 in
theorem k_X11_contested (l : Launch) (D : va_G) (cA : Nat → ClassId) (s0 : State) (z : Nat) (b : Nat) (ν : Mm) (sz : Nat) (hG : xG l D cA s0) (a1 : Int32) (r : Thr Int32) (hF : g_X11_contested ν a1 = some r) : vx_Met l yX11_contested (wsG yX11_contested cX11_contested 3 (some (FieldType.int))) { frames := 9, cells := 1, slots := 6, locals := 175 } (xP D cA s0 [.ref (b + 0), .int a1] (fun H => H.size = sz ∧ WC D cA s0 z b ν H)) (xQt (fun q => (some (.int q))) (fun _ H => WC D cA s0 z b ν H) (xA b 2564 sz) r) (xXt (fun H => WC D cA s0 z b ν H) (xA b 2564 sz) r) 1 6 (xA b 2564 sz) := by
  refine t_start (z := z) (b := b) (ν := ν) (s0 := s0) (own := RX11) [(0, .ref (b + 0)), (1, .int a1)] rfl rfl (by decide) (nb rfl) ?_
  intro p e s m args below meth c C hX hw
  obtain ⟨hsz, hw⟩ := hw
  subst hsz
  have hS : va_S (xA b 2564 s.heap.size) s.heap s.heap [] := va_S.rf
  refine x_aload_n C dX11_contested_0 rfl ?_
  refine x_iload_n C dX11_contested_1 rfl ?_
  obtain ⟨q1, hq2, hF⟩ := bnd_e hF
  refine t_goT (fun ls h => t_runV (As := [.int a1]) [] h C ml_X11_257 (k_X11_requireInvoice l D cA s0 z b ν _ hG a1 q1 hq2) ⟨rfl, rfl, nb rfl, nb rfl⟩ rfl (C_PD hw) rfl ⟨rfl, hw⟩ (nb rfl) ⟨nb rfl, nb rfl⟩ dX11_contested_2) hF hS (xA_le hS) C hX (fun _ h => h) (nb rfl) (nb rfl) (fun q3 hF H locs hw hS => ?_)
  refine x_widen (k := 1) (n := 6) (nb rfl) (nb rfl) ?_
  have hw : WC D cA s0 z b ν H := hw
  refine x_aload_n C dX11_contested_5 rfl ?_
  refine x_get (.ref (b + 7)) C fl_X11_24 (C_PD hw) rfl dX11_contested_6 ?_
  refine x_get (.ref (b + (7 + 3))) C fl_X11_260 (C_Led led7 hw) rfl dX11_contested_9 ?_
  refine x_iload_n C dX11_contested_12 rfl ?_
  obtain ⟨h4, hF⟩ := asr_e hF
  obtain ⟨hn5, hl6⟩ := vpn h4 (by decide)
  refine x_aald 5 C (C_invoices led7 hw) rfl hn5 hl6 (by decide) rfl dX11_contested_13 ?_
  refine x_astore_n [(2, .ref (b + (7 + (54 + 2 * (cl a1))))), (0, .ref (b + 0)), (1, .int a1)] C dX11_contested_14 rfl (by decide) rfl ?_
  refine x_aload_n C dX11_contested_15 rfl ?_
  refine x_iconst (3 : Int32) C dX11_contested_16 rfl ?_
  obtain ⟨q7, hq8, hF⟩ := bnd_e hF
  refine x_goR (fun ls h => x_runV (As := [.int (3 : Int32)]) [] h C ml_X11_299 (k_X4_stands l D cA s0 z b ν hG (7 + (54 + 2 * (cl a1))) (3 : Int32) q7 hq8) ⟨rfl, rfl, nb rfl, nb rfl⟩ rfl (C_Inv (mk_Inv led7 hl6) hw) rfl hw (nb rfl) ⟨nb rfl, nb rfl⟩ dX11_contested_17) ?_
  refine x_ifB_ne 25 C dX11_contested_20 (by decide) (fun c9 => ?_) (fun c9 => ?_)
  · have hF := ite_t hF c9
    refine x_aload_n C dX11_contested_25 rfl ?_
    refine x_get (.int (ν.1 (7 + (54 + 2 * (cl a1))) 6)) C fl_X11_279 (C_Inv (mk_Inv led7 hl6) hw) rfl dX11_contested_26 ?_
    refine x_aload_n C dX11_contested_29 rfl ?_
    refine x_get (.ref (b + 7)) C fl_X11_24 (C_PD hw) rfl dX11_contested_30 ?_
    refine x_get (.ref (b + (7 + 2))) C fl_X11_202 (C_Led led7 hw) rfl dX11_contested_33 ?_
    refine x_aload_n C dX11_contested_36 rfl ?_
    refine x_get (.int (ν.1 (7 + (54 + 2 * (cl a1))) 1)) C fl_X11_264 (C_Inv (mk_Inv led7 hl6) hw) rfl dX11_contested_37 ?_
    obtain ⟨h10, hF⟩ := asr_e hF
    obtain ⟨hn11, hl12⟩ := vpn h10 (by decide)
    refine x_aald 4 C (C_calls led7 hw) rfl hn11 hl12 (by decide) rfl dX11_contested_40 ?_
    obtain ⟨q13, hq14, hF⟩ := bnd_e hF
    refine x_goR (fun ls h => x_runV (As := []) [.int (ν.1 (7 + (54 + 2 * (cl a1))) 6)] h C ml_X11_302 (k_X2_contestedDays l D cA s0 z b ν hG (7 + (14 + (cl (ν.1 (7 + (54 + 2 * (cl a1))) 1)))) q13 hq14) ⟨rfl, rfl, nb rfl, nb rfl⟩ rfl (C_Cal (mk_Cal led7 hl12) hw) rfl hw (nb rfl) ⟨nb rfl, nb rfl⟩ dX11_contested_41) ?_
    refine x_iand C dX11_contested_44 ?_
    obtain ⟨q15, hq16, hF⟩ := bnd_e hF
    refine x_goR (fun ls h => x_runS (As := [.int ((ν.1 (7 + (54 + 2 * (cl a1))) 6) &&& q13)]) [] h C ml_X11_305 (k_J6_bitCount_0f7a4 l D cA s0 z hG ((ν.1 (7 + (54 + 2 * (cl a1))) 6) &&& q13) q15 hq16) ⟨rfl, rfl, nb rfl, nb rfl⟩ rfl trivial (nb rfl) ⟨nb rfl, nb rfl⟩ dX11_contested_45) ?_
    exact t_iret C rfl dX11_contested_48  (rt_o hF) rfl hw hS (nb rfl) (nb rfl)
  · have hF := ite_f hF (nbt c9)
    refine x_iconst (0 : Int32) C dX11_contested_23 rfl ?_
    exact t_iret C rfl dX11_contested_24  (rt_o hF) rfl hw hS (nb rfl) (nb rfl)
noncomputable def g_X11_note (ν : Mm) (a1 : Int32) (a2 : Int32) : Option (Thr Int32) := bnd (g_X11_requireIndex ν a1 (ν.1 7 8)) (fun q1 => bnx q1 (fun q3 => bnd (g_X11_requireRange ν a2 (0 : Int32) (3 : Int32)) (fun q4 => bnx q4 (fun q6 => asr (vp_in a1 40) ((if a2 = 0 then some (.ok (ν.1 (7 + (174 + (cl a1))) 0)) else (if a2 = 1 then some (.ok (ν.1 (7 + (174 + (cl a1))) 1)) else (if a2 = 2 then some (.ok (ν.1 (7 + (174 + (cl a1))) 2)) else some (.ok (ν.1 (7 + (174 + (cl a1))) 3))))))))))
set_option maxRecDepth 20000 in
set_option maxHeartbeats 4000000 in
theorem k_X11_note (l : Launch) (D : va_G) (cA : Nat → ClassId) (s0 : State) (z : Nat) (b : Nat) (ν : Mm) (sz : Nat) (hG : xG l D cA s0) (a1 : Int32) (a2 : Int32) (r : Thr Int32) (hF : g_X11_note ν a1 a2 = some r) : vx_Met l yX11_note (wsG yX11_note cX11_note 4 (some (FieldType.int))) { frames := 9, cells := 2, slots := 12, locals := 175 } (xP D cA s0 [.ref (b + 0), .int a1, .int a2] (fun H => H.size = sz ∧ WC D cA s0 z b ν H)) (xQt (fun q => (some (.int q))) (fun _ H => WC D cA s0 z b ν H) (xA b 2564 sz) r) (xXt (fun H => WC D cA s0 z b ν H) (xA b 2564 sz) r) 2 12 (xA b 2564 sz) := by
  refine t_start (z := z) (b := b) (ν := ν) (s0 := s0) (own := RX11) [(0, .ref (b + 0)), (1, .int a1), (2, .int a2)] rfl rfl (by decide) (nb rfl) ?_
  intro p e s m args below meth c C hX hw
  obtain ⟨hsz, hw⟩ := hw
  subst hsz
  have hS : va_S (xA b 2564 s.heap.size) s.heap s.heap [] := va_S.rf
  refine x_iload_n C dX11_note_0 rfl ?_
  refine x_aload_n C dX11_note_1 rfl ?_
  refine x_get (.ref (b + 7)) C fl_X11_24 (C_PD hw) rfl dX11_note_2 ?_
  refine x_get (.int (ν.1 7 8)) C fl_X11_109 (C_Led led7 hw) rfl dX11_note_5 ?_
  obtain ⟨q1, hq2, hF⟩ := bnd_e hF
  refine t_goT (fun ls h => t_runS (As := [.int a1, .int (ν.1 7 8)]) [] h C ml_X11_153 (k_X11_requireIndex l D cA s0 z b ν _ hG a1 (ν.1 7 8) q1 hq2) ⟨rfl, rfl, nb rfl, nb rfl⟩ rfl ⟨rfl, hw⟩ (nb rfl) ⟨nb rfl, nb rfl⟩ dX11_note_8) hF hS (xA_le hS) C hX (fun _ h => h) (nb rfl) (nb rfl) (fun q3 hF H locs hw hS => ?_)
  refine x_widen (k := 1) (n := 6) (nb rfl) (nb rfl) ?_
  have hw : WC D cA s0 z b ν H := hw
  refine x_iload_n C dX11_note_11 rfl ?_
  refine x_iconst (0 : Int32) C dX11_note_12 rfl ?_
  refine x_iconst (3 : Int32) C dX11_note_13 rfl ?_
  obtain ⟨q4, hq5, hF⟩ := bnd_e hF
  refine t_goT (fun ls h => t_runS (As := [.int a2, .int (0 : Int32), .int (3 : Int32)]) [] h C ml_X11_76 (k_X11_requireRange l D cA s0 z b ν _ hG a2 (0 : Int32) (3 : Int32) q4 hq5) ⟨rfl, rfl, nb rfl, nb rfl⟩ rfl ⟨rfl, hw⟩ (nb rfl) ⟨nb rfl, nb rfl⟩ dX11_note_14) hF hS (xA_le hS) C hX (fun _ h => h) (nb rfl) (nb rfl) (fun q6 hF H locs hw hS => ?_)
  refine x_widen (k := 2) (n := 12) (nb rfl) (nb rfl) ?_
  have hw : WC D cA s0 z b ν H := hw
  refine x_aload_n C dX11_note_17 rfl ?_
  refine x_get (.ref (b + 7)) C fl_X11_24 (C_PD hw) rfl dX11_note_18 ?_
  refine x_get (.ref (b + (7 + 4))) C fl_X11_310 (C_Led led7 hw) rfl dX11_note_21 ?_
  refine x_iload_n C dX11_note_24 rfl ?_
  obtain ⟨h7, hF⟩ := asr_e hF
  obtain ⟨hn8, hl9⟩ := vpn h7 (by decide)
  refine x_aald 6 C (C_notes led7 hw) rfl hn8 hl9 (by decide) rfl dX11_note_25 ?_
  refine x_astore_n [(3, .ref (b + (7 + (174 + (cl a1))))), (0, .ref (b + 0)), (1, .int a1), (2, .int a2)] C dX11_note_26 rfl (by decide) rfl ?_
  refine x_iload_n C dX11_note_27 rfl ?_
  by_cases c10 : a2 = 0
  · have hF := ite_t hF c10
    refine x_tabIn 0 56 C dX11_note_28 (by rw [c10]; rfl) (by decide) (by decide) rfl (by decide) ?_
    refine x_aload_n C dX11_note_56 rfl ?_
    refine x_get (.int (ν.1 (7 + (174 + (cl a1))) 0)) C fl_X11_314 (C_Note (mk_Note led7 hl9) hw) rfl dX11_note_57 ?_
    exact t_iret C rfl dX11_note_60  (rt_o hF) rfl hw hS (nb rfl) (nb rfl)
  · have hF := ite_f hF c10
    by_cases c11 : a2 = 1
    · have hF := ite_t hF c11
      refine x_tabIn 1 61 C dX11_note_28 (by rw [c11]; rfl) (by decide) (by decide) rfl (by decide) ?_
      refine x_aload_n C dX11_note_61 rfl ?_
      refine x_get (.int (ν.1 (7 + (174 + (cl a1))) 1)) C fl_X11_319 (C_Note (mk_Note led7 hl9) hw) rfl dX11_note_62 ?_
      exact t_iret C rfl dX11_note_65  (rt_o hF) rfl hw hS (nb rfl) (nb rfl)
    · have hF := ite_f hF c11
      by_cases c12 : a2 = 2
      · have hF := ite_t hF c12
        refine x_tabIn 2 66 C dX11_note_28 (by rw [c12]; rfl) (by decide) (by decide) rfl (by decide) ?_
        refine x_aload_n C dX11_note_66 rfl ?_
        refine x_get (.int (ν.1 (7 + (174 + (cl a1))) 2)) C fl_X11_320 (C_Note (mk_Note led7 hl9) hw) rfl dX11_note_67 ?_
        exact t_iret C rfl dX11_note_70  (rt_o hF) rfl hw hS (nb rfl) (nb rfl)
      · have hF := ite_f hF c12
        have t13 : a2.toInt ≠ 0 := fun z => c10 ((fa_eqI _ _).mpr z)
        have t14 : a2.toInt ≠ 1 := fun z => c11 ((fa_eqI _ _).mpr z)
        have t15 : a2.toInt ≠ 2 := fun z => c12 ((fa_eqI _ _).mpr z)
        refine x_tabOut 71 C dX11_note_28 (by omega) (by decide) ?_
        refine x_aload_n C dX11_note_71 rfl ?_
        refine x_get (.int (ν.1 (7 + (174 + (cl a1))) 3)) C fl_X11_321 (C_Note (mk_Note led7 hl9) hw) rfl dX11_note_72 ?_
        exact t_iret C rfl dX11_note_75  (rt_o hF) rfl hw hS (nb rfl) (nb rfl)
noncomputable def g_X11_balance (ν : Mm) (a1 : Int32) : Option (Thr Int64) := bnd (g_X11_requireShip ν a1) (fun q1 => bnx q1 (fun q3 => bnd (g_X0_balanceOf ν a1) (fun q4 => some (.ok q4))))
set_option maxRecDepth 20000 in
set_option maxHeartbeats 4000000 in
theorem k_X11_balance (l : Launch) (D : va_G) (cA : Nat → ClassId) (s0 : State) (z : Nat) (b : Nat) (ν : Mm) (sz : Nat) (hG : xG l D cA s0) (a1 : Int32) (r : Thr Int64) (hF : g_X11_balance ν a1 = some r) : vx_Met l yX11_balance (wsG yX11_balance cX11_balance 2 (some (FieldType.long))) { frames := 9, cells := 1, slots := 6, locals := 175 } (xP D cA s0 [.ref (b + 0), .int a1] (fun H => H.size = sz ∧ WC D cA s0 z b ν H)) (xQt (fun q => (some (.long q))) (fun _ H => WC D cA s0 z b ν H) (xA b 2564 sz) r) (xXt (fun H => WC D cA s0 z b ν H) (xA b 2564 sz) r) 1 6 (xA b 2564 sz) := by
  refine t_start (z := z) (b := b) (ν := ν) (s0 := s0) (own := RX11) [(0, .ref (b + 0)), (1, .int a1)] rfl rfl (by decide) (nb rfl) ?_
  intro p e s m args below meth c C hX hw
  obtain ⟨hsz, hw⟩ := hw
  subst hsz
  have hS : va_S (xA b 2564 s.heap.size) s.heap s.heap [] := va_S.rf
  refine x_aload_n C dX11_balance_0 rfl ?_
  refine x_iload_n C dX11_balance_1 rfl ?_
  obtain ⟨q1, hq2, hF⟩ := bnd_e hF
  refine t_goT (fun ls h => t_runV (As := [.int a1]) [] h C ml_X11_184 (k_X11_requireShip l D cA s0 z b ν _ hG a1 q1 hq2) ⟨rfl, rfl, nb rfl, nb rfl⟩ rfl (C_PD hw) rfl ⟨rfl, hw⟩ (nb rfl) ⟨nb rfl, nb rfl⟩ dX11_balance_2) hF hS (xA_le hS) C hX (fun _ h => h) (nb rfl) (nb rfl) (fun q3 hF H locs hw hS => ?_)
  refine x_widen (k := 1) (n := 6) (nb rfl) (nb rfl) ?_
  have hw : WC D cA s0 z b ν H := hw
  refine x_aload_n C dX11_balance_5 rfl ?_
  refine x_get (.ref (b + 2562)) C fl_X11_52 (C_PD hw) rfl dX11_balance_6 ?_
  refine x_iload_n C dX11_balance_9 rfl ?_
  obtain ⟨q4, hq5, hF⟩ := bnd_e hF
  refine x_goR (fun ls h => x_runV (As := [.int a1]) [] h C ml_X11_324 (k_X0_balanceOf l D cA s0 z b ν hG a1 q4 hq5) ⟨rfl, rfl, nb rfl, nb rfl⟩ rfl (C_Acc hw) rfl hw (nb rfl) ⟨nb rfl, nb rfl⟩ dX11_balance_10) ?_
  exact t_lret C rfl dX11_balance_13  (rt_o hF) rfl hw hS (nb rfl) (nb rfl)
noncomputable def g_X11_paid (ν : Mm) (a1 : Int32) : Option (Thr Int64) := bnd (g_X11_requireShip ν a1) (fun q1 => bnx q1 (fun q3 => asr (vp_in a1 8) (some (.ok (ν.2.1 (7 + (6 + (cl a1))) 2)))))
set_option maxRecDepth 20000 in
set_option maxHeartbeats 4000000 in
theorem k_X11_paid (l : Launch) (D : va_G) (cA : Nat → ClassId) (s0 : State) (z : Nat) (b : Nat) (ν : Mm) (sz : Nat) (hG : xG l D cA s0) (a1 : Int32) (r : Thr Int64) (hF : g_X11_paid ν a1 = some r) : vx_Met l yX11_paid (wsG yX11_paid cX11_paid 2 (some (FieldType.long))) { frames := 9, cells := 1, slots := 6, locals := 175 } (xP D cA s0 [.ref (b + 0), .int a1] (fun H => H.size = sz ∧ WC D cA s0 z b ν H)) (xQt (fun q => (some (.long q))) (fun _ H => WC D cA s0 z b ν H) (xA b 2564 sz) r) (xXt (fun H => WC D cA s0 z b ν H) (xA b 2564 sz) r) 1 6 (xA b 2564 sz) := by
  refine t_start (z := z) (b := b) (ν := ν) (s0 := s0) (own := RX11) [(0, .ref (b + 0)), (1, .int a1)] rfl rfl (by decide) (nb rfl) ?_
  intro p e s m args below meth c C hX hw
  obtain ⟨hsz, hw⟩ := hw
  subst hsz
  have hS : va_S (xA b 2564 s.heap.size) s.heap s.heap [] := va_S.rf
  refine x_aload_n C dX11_paid_0 rfl ?_
  refine x_iload_n C dX11_paid_1 rfl ?_
  obtain ⟨q1, hq2, hF⟩ := bnd_e hF
  refine t_goT (fun ls h => t_runV (As := [.int a1]) [] h C ml_X11_184 (k_X11_requireShip l D cA s0 z b ν _ hG a1 q1 hq2) ⟨rfl, rfl, nb rfl, nb rfl⟩ rfl (C_PD hw) rfl ⟨rfl, hw⟩ (nb rfl) ⟨nb rfl, nb rfl⟩ dX11_paid_2) hF hS (xA_le hS) C hX (fun _ h => h) (nb rfl) (nb rfl) (fun q3 hF H locs hw hS => ?_)
  refine x_widen (k := 1) (n := 6) (nb rfl) (nb rfl) ?_
  have hw : WC D cA s0 z b ν H := hw
  refine x_aload_n C dX11_paid_5 rfl ?_
  refine x_get (.ref (b + 7)) C fl_X11_24 (C_PD hw) rfl dX11_paid_6 ?_
  refine x_get (.ref (b + (7 + 1))) C fl_X11_187 (C_Led led7 hw) rfl dX11_paid_9 ?_
  refine x_iload_n C dX11_paid_12 rfl ?_
  obtain ⟨h4, hF⟩ := asr_e hF
  obtain ⟨hn5, hl6⟩ := vpn h4 (by decide)
  refine x_aald 3 C (C_ships led7 hw) rfl hn5 hl6 (by decide) rfl dX11_paid_13 ?_
  obtain ⟨nr7, hq8, hst9⟩ := C_Ship (mk_Ship led7 hl6) hw
  refine x_get (.long (ν.2.1 (7 + (6 + (cl a1))) 2)) C fl_X11_328 hq8 rfl dX11_paid_14 ?_
  exact t_lret C rfl dX11_paid_17  (rt_o hF) rfl hw hS (nb rfl) (nb rfl)
noncomputable def g_X11_oldestOpen_L7 (ν : Mm) (a1 : Int32) : Nat → Int32 → Option (Thr Int32)
  | 0, _ => none
  | n + 1, x2 => (if (ν.1 7 7) ≤ x2 then some (.ok (-1 : Int32)) else bnd (g_X0_shipOf ν x2) (fun q5 => (if q5 = a1 then bnd (g_X0_openAmount ν x2) (fun q8 => (if q8 ≤ 0 then (g_X11_oldestOpen_L7 ν a1 n (x2 + (1 : Int32))) else some (.ok x2))) else (g_X11_oldestOpen_L7 ν a1 n (x2 + (1 : Int32))))))
noncomputable def g_X11_oldestOpen (ν : Mm) (a1 : Int32) : Option (Thr Int32) := bnd (g_X11_requireShip ν a1) (fun q1 => bnx q1 (fun q3 => (g_X11_oldestOpen_L7 ν a1 10000 (0 : Int32))))
set_option maxRecDepth 20000 in
set_option maxHeartbeats 4000000 in
theorem k_X11_oldestOpen (l : Launch) (D : va_G) (cA : Nat → ClassId) (s0 : State) (z : Nat) (b : Nat) (ν : Mm) (sz : Nat) (hG : xG l D cA s0) (a1 : Int32) (r : Thr Int32) (hF : g_X11_oldestOpen ν a1 = some r) : vx_Met l yX11_oldestOpen (wsG yX11_oldestOpen cX11_oldestOpen 3 (some (FieldType.int))) { frames := 9, cells := 1, slots := 6, locals := 175 } (xP D cA s0 [.ref (b + 0), .int a1] (fun H => H.size = sz ∧ WC D cA s0 z b ν H)) (xQt (fun q => (some (.int q))) (fun _ H => WC D cA s0 z b ν H) (xA b 2564 sz) r) (xXt (fun H => WC D cA s0 z b ν H) (xA b 2564 sz) r) 1 6 (xA b 2564 sz) := by
  refine t_start (z := z) (b := b) (ν := ν) (s0 := s0) (own := RX11) [(0, .ref (b + 0)), (1, .int a1)] rfl rfl (by decide) (nb rfl) ?_
  intro p e s m args below meth c C hX hw
  obtain ⟨hsz, hw⟩ := hw
  subst hsz
  have hS : va_S (xA b 2564 s.heap.size) s.heap s.heap [] := va_S.rf
  have h_L7 : ∀ (n : Nat) (x2 : Int32) (H : Heap) (locs : List Loc) (hw : WC D cA s0 z b ν H) (hS : va_S (xA b 2564 s.heap.size) s.heap H locs), g_X11_oldestOpen_L7 ν a1 n x2 = some r → xW p l e { frames := 9, cells := 1, slots := 6, locals := 175 } s m args below meth c 3 (vx_MQ below (xQt (fun q => (some (.int q))) (fun _ H => WC D cA s0 z b ν H) (xA b 2564 s.heap.size) r) (xXt (fun H => WC D cA s0 z b ν H) (xA b 2564 s.heap.size) r) args s 1 6 (xA b 2564 s.heap.size)) H locs 1 6 7 [(0, .ref (b + 0)), (1, .int a1), (2, .int x2)] [] := by
    intro n
    induction n with
    | zero =>
      intro x2 H locs hw hS hF
      exact no_some hF
    | succ n ih =>
      intro x2 H locs hw hS hF
      have ih7 := ih
      refine x_iload_n C dX11_oldestOpen_7 rfl ?_
      refine x_aload_n C dX11_oldestOpen_8 rfl ?_
      refine x_get (.ref (b + 7)) C fl_X11_24 (C_PD hw) rfl dX11_oldestOpen_9 ?_
      refine x_get (.int (ν.1 7 7)) C fl_X11_106 (C_Led led7 hw) rfl dX11_oldestOpen_12 ?_
      refine x_icmp_ge 49 C dX11_oldestOpen_15 (by decide) (fun c4 => ?_) (fun c4 => ?_)
      · have hF := ite_t hF c4
        refine x_iconst (-1 : Int32) C dX11_oldestOpen_49 rfl ?_
        exact t_iret C rfl dX11_oldestOpen_50  (rt_o hF) rfl hw hS (nb rfl) (nb rfl)
      · have hF := ite_f hF c4
        refine x_aload_n C dX11_oldestOpen_18 rfl ?_
        refine x_get (.ref (b + 2562)) C fl_X11_52 (C_PD hw) rfl dX11_oldestOpen_19 ?_
        refine x_iload_n C dX11_oldestOpen_22 rfl ?_
        obtain ⟨q5, hq6, hF⟩ := bnd_e hF
        refine x_goR (fun ls h => x_runV (As := [.int x2]) [] h C ml_X11_332 (k_X0_shipOf l D cA s0 z b ν hG x2 q5 hq6) ⟨rfl, rfl, nb rfl, nb rfl⟩ rfl (C_Acc hw) rfl hw (nb rfl) ⟨nb rfl, nb rfl⟩ dX11_oldestOpen_23) ?_
        refine x_iload_n C dX11_oldestOpen_26 rfl ?_
        refine x_icmp_ne 43 C dX11_oldestOpen_27 (by decide) (fun c7 => ?_) (fun c7 => ?_)
        · have hF := ite_f hF c7
          refine x_iinc (x2 + (1 : Int32)) [(2, .int (x2 + (1 : Int32))), (0, .ref (b + 0)), (1, .int a1)] C dX11_oldestOpen_43 rfl rfl (by decide) rfl ?_
          refine x_goto 7 C dX11_oldestOpen_46 (by decide) ?_
          refine x_sub [(0, .ref (b + 0)), (1, .int a1), (2, .int (x2 + (1 : Int32)))] [1, 2, 0] rfl ?_
          exact ih7 (x2 + (1 : Int32)) _ _ hw hS hF
        · have hF := ite_t hF c7
          refine x_aload_n C dX11_oldestOpen_30 rfl ?_
          refine x_get (.ref (b + 2562)) C fl_X11_52 (C_PD hw) rfl dX11_oldestOpen_31 ?_
          refine x_iload_n C dX11_oldestOpen_34 rfl ?_
          obtain ⟨q8, hq9, hF⟩ := bnd_e hF
          refine x_goR (fun ls h => x_runV (As := [.int x2]) [] h C ml_X11_288 (k_X0_openAmount l D cA s0 z b ν hG x2 q8 hq9) ⟨rfl, rfl, nb rfl, nb rfl⟩ rfl (C_Acc hw) rfl hw (nb rfl) ⟨nb rfl, nb rfl⟩ dX11_oldestOpen_35) ?_
          refine x_if_le 43 C dX11_oldestOpen_38 (by decide) (fun c10 => ?_) (fun c10 => ?_)
          · have hF := ite_t hF c10
            refine x_iinc (x2 + (1 : Int32)) [(2, .int (x2 + (1 : Int32))), (0, .ref (b + 0)), (1, .int a1)] C dX11_oldestOpen_43 rfl rfl (by decide) rfl ?_
            refine x_goto 7 C dX11_oldestOpen_46 (by decide) ?_
            refine x_sub [(0, .ref (b + 0)), (1, .int a1), (2, .int (x2 + (1 : Int32)))] [1, 2, 0] rfl ?_
            exact ih7 (x2 + (1 : Int32)) _ _ hw hS hF
          · have hF := ite_f hF c10
            refine x_iload_n C dX11_oldestOpen_41 rfl ?_
            exact t_iret C rfl dX11_oldestOpen_42  (rt_o hF) rfl hw hS (nb rfl) (nb rfl)
  refine x_aload_n C dX11_oldestOpen_0 rfl ?_
  refine x_iload_n C dX11_oldestOpen_1 rfl ?_
  obtain ⟨q1, hq2, hF⟩ := bnd_e hF
  refine t_goT (fun ls h => t_runV (As := [.int a1]) [] h C ml_X11_184 (k_X11_requireShip l D cA s0 z b ν _ hG a1 q1 hq2) ⟨rfl, rfl, nb rfl, nb rfl⟩ rfl (C_PD hw) rfl ⟨rfl, hw⟩ (nb rfl) ⟨nb rfl, nb rfl⟩ dX11_oldestOpen_2) hF hS (xA_le hS) C hX (fun _ h => h) (nb rfl) (nb rfl) (fun q3 hF H locs hw hS => ?_)
  refine x_widen (k := 1) (n := 6) (nb rfl) (nb rfl) ?_
  have hw : WC D cA s0 z b ν H := hw
  refine x_iconst (0 : Int32) C dX11_oldestOpen_5 rfl ?_
  refine x_istore_n [(2, .int (0 : Int32)), (0, .ref (b + 0)), (1, .int a1)] C dX11_oldestOpen_6 rfl (by decide) rfl ?_
  refine x_sub [(0, .ref (b + 0)), (1, .int a1), (2, .int (0 : Int32))] [1, 2, 0] rfl ?_
  exact h_L7 10000 (0 : Int32) _ _ hw hS hF
