noncomputable def g_X11_net (ν : Mm) (a1 : Int32) : Option (Thr Int32) := bnd (g_X11_requireInvoice ν a1) (fun q1 => bnx q1 (fun q3 => asr (vp_in a1 60) (bnd (g_X4_netAmount ν (7 + (62 + 2 * (cl a1)))) (fun q7 => some (.ok q7)))))
set_option maxRecDepth 20000 in
set_option maxHeartbeats 4000000 in
theorem k_X11_net (l : Launch) (D : va_G) (cA : Nat → ClassId) (s0 : State) (z : Nat) (b : Nat) (ν : Mm) (sz : Nat) (hG : xG l D cA s0) (a1 : Int32) (r : Thr Int32) (hF : g_X11_net ν a1 = some r) : vx_Met l yX11_net (wsG yX11_net cX11_net 2 (some (FieldType.int))) { frames := 9, cells := 1, slots := 6, locals := 175 } (xP D cA s0 [.ref (b + 0), .int a1] (fun H => H.size = sz ∧ WC D cA s0 z b ν H)) (xQt (fun q => (some (.int q))) (fun _ H => WC D cA s0 z b ν H) (xA b 2628 sz) r) (xXt (fun H => WC D cA s0 z b ν H) (xA b 2628 sz) r) 1 6 (xA b 2628 sz) := by
  refine t_start (z := z) (b := b) (ν := ν) (s0 := s0) (own := RX11) [(0, .ref (b + 0)), (1, .int a1)] rfl rfl (by decide) (nb rfl) ?_
  intro p e s m args below meth c C hX hw
  obtain ⟨hsz, hw⟩ := hw
  subst hsz
  have hS : va_S (xA b 2628 s.heap.size) s.heap s.heap [] := va_S.rf
  refine x_aload_n C dX11_net_0 rfl ?_
  refine x_iload_n C dX11_net_1 rfl ?_
  obtain ⟨q1, hq2, hF⟩ := bnd_e hF
  refine t_goT (fun ls h => t_runV (As := [.int a1]) [] h C ml_X11_257 (k_X11_requireInvoice l D cA s0 z b ν _ hG a1 q1 hq2) ⟨rfl, rfl, nb rfl, nb rfl⟩ rfl (C_PD hw) rfl ⟨rfl, hw⟩ (nb rfl) ⟨nb rfl, nb rfl⟩ dX11_net_2) hF hS (xA_le hS) C hX (fun _ h => h) (nb rfl) (nb rfl) (fun q3 hF H locs hw hS => ?_)
  refine x_widen (k := 1) (n := 6) (nb rfl) (nb rfl) ?_
  have hw : WC D cA s0 z b ν H := hw
  refine x_aload_n C dX11_net_5 rfl ?_
  refine x_get (.ref (b + 7)) C fl_X11_24 (C_PD hw) rfl dX11_net_6 ?_
  refine x_get (.ref (b + (7 + 3))) C fl_X11_260 (C_Led led7 hw) rfl dX11_net_9 ?_
  refine x_iload_n C dX11_net_12 rfl ?_
  obtain ⟨h4, hF⟩ := asr_e hF
  obtain ⟨hn5, hl6⟩ := vpn h4 (by decide)
  refine x_aald 5 C (C_invoices led7 hw) rfl hn5 hl6 (by decide) rfl dX11_net_13 ?_
  obtain ⟨q7, hq8, hF⟩ := bnd_e hF
  refine x_goR (fun ls h => x_runV (As := []) [] h C ml_X11_285 (k_X4_netAmount l D cA s0 z b ν hG (7 + (62 + 2 * (cl a1))) q7 hq8) ⟨rfl, rfl, nb rfl, nb rfl⟩ rfl (C_Inv (mk_Inv led7 hl6) hw) rfl hw (nb rfl) ⟨nb rfl, nb rfl⟩ dX11_net_14) ?_
  exact t_iret C rfl dX11_net_17  (rt_o hF) rfl hw hS (nb rfl) (nb rfl)
noncomputable def g_X11_open (ν : Mm) (a1 : Int32) : Option (Thr Int32) := bnd (g_X11_requireInvoice ν a1) (fun q1 => bnx q1 (fun q3 => bnd (g_X0_openAmount ν a1) (fun q4 => some (.ok q4))))
set_option maxRecDepth 20000 in
set_option maxHeartbeats 4000000 in
theorem k_X11_open (l : Launch) (D : va_G) (cA : Nat → ClassId) (s0 : State) (z : Nat) (b : Nat) (ν : Mm) (sz : Nat) (hG : xG l D cA s0) (a1 : Int32) (r : Thr Int32) (hF : g_X11_open ν a1 = some r) : vx_Met l yX11_open (wsG yX11_open cX11_open 2 (some (FieldType.int))) { frames := 9, cells := 1, slots := 6, locals := 175 } (xP D cA s0 [.ref (b + 0), .int a1] (fun H => H.size = sz ∧ WC D cA s0 z b ν H)) (xQt (fun q => (some (.int q))) (fun _ H => WC D cA s0 z b ν H) (xA b 2628 sz) r) (xXt (fun H => WC D cA s0 z b ν H) (xA b 2628 sz) r) 1 6 (xA b 2628 sz) := by
  refine t_start (z := z) (b := b) (ν := ν) (s0 := s0) (own := RX11) [(0, .ref (b + 0)), (1, .int a1)] rfl rfl (by decide) (nb rfl) ?_
  intro p e s m args below meth c C hX hw
  obtain ⟨hsz, hw⟩ := hw
  subst hsz
  have hS : va_S (xA b 2628 s.heap.size) s.heap s.heap [] := va_S.rf
  refine x_aload_n C dX11_open_0 rfl ?_
  refine x_iload_n C dX11_open_1 rfl ?_
  obtain ⟨q1, hq2, hF⟩ := bnd_e hF
  refine t_goT (fun ls h => t_runV (As := [.int a1]) [] h C ml_X11_257 (k_X11_requireInvoice l D cA s0 z b ν _ hG a1 q1 hq2) ⟨rfl, rfl, nb rfl, nb rfl⟩ rfl (C_PD hw) rfl ⟨rfl, hw⟩ (nb rfl) ⟨nb rfl, nb rfl⟩ dX11_open_2) hF hS (xA_le hS) C hX (fun _ h => h) (nb rfl) (nb rfl) (fun q3 hF H locs hw hS => ?_)
  refine x_widen (k := 1) (n := 6) (nb rfl) (nb rfl) ?_
  have hw : WC D cA s0 z b ν H := hw
  refine x_aload_n C dX11_open_5 rfl ?_
  refine x_get (.ref (b + 2626)) C fl_X11_52 (C_PD hw) rfl dX11_open_6 ?_
  refine x_iload_n C dX11_open_9 rfl ?_
  obtain ⟨q4, hq5, hF⟩ := bnd_e hF
  refine x_goR (fun ls h => x_runV (As := [.int a1]) [] h C ml_X11_288 (k_X0_openAmount l D cA s0 z b ν hG a1 q4 hq5) ⟨rfl, rfl, nb rfl, nb rfl⟩ rfl (C_Acc hw) rfl hw (nb rfl) ⟨nb rfl, nb rfl⟩ dX11_open_10) ?_
  exact t_iret C rfl dX11_open_13  (rt_o hF) rfl hw hS (nb rfl) (nb rfl)
noncomputable def g_X11_rebuilt (ν : Mm) (a1 : Int32) (a2 : Int32) : Option (Thr Int32) := bnd (g_X11_requireInvoice ν a1) (fun q1 => bnx q1 (fun q3 => bnd (g_X11_requireLine ν a2) (fun q4 => bnx q4 (fun q6 => asr (vp_in a1 60) (bnd (g_X0_rebuiltLine ν (7 + (62 + 2 * (cl a1))) a2) (fun q10 => some (.ok q10)))))))
set_option maxRecDepth 20000 in
set_option maxHeartbeats 4000000 in
theorem k_X11_rebuilt (l : Launch) (D : va_G) (cA : Nat → ClassId) (s0 : State) (z : Nat) (b : Nat) (ν : Mm) (sz : Nat) (hG : xG l D cA s0) (a1 : Int32) (a2 : Int32) (r : Thr Int32) (hF : g_X11_rebuilt ν a1 a2 = some r) : vx_Met l yX11_rebuilt (wsG yX11_rebuilt cX11_rebuilt 3 (some (FieldType.int))) { frames := 10, cells := 2, slots := 12, locals := 195 } (xP D cA s0 [.ref (b + 0), .int a1, .int a2] (fun H => H.size = sz ∧ WC D cA s0 z b ν H)) (xQt (fun q => (some (.int q))) (fun _ H => WC D cA s0 z b ν H) (xA b 2628 sz) r) (xXt (fun H => WC D cA s0 z b ν H) (xA b 2628 sz) r) 2 12 (xA b 2628 sz) := by
  refine t_start (z := z) (b := b) (ν := ν) (s0 := s0) (own := RX11) [(0, .ref (b + 0)), (1, .int a1), (2, .int a2)] rfl rfl (by decide) (nb rfl) ?_
  intro p e s m args below meth c C hX hw
  obtain ⟨hsz, hw⟩ := hw
  subst hsz
  have hS : va_S (xA b 2628 s.heap.size) s.heap s.heap [] := va_S.rf
  refine x_aload_n C dX11_rebuilt_0 rfl ?_
  refine x_iload_n C dX11_rebuilt_1 rfl ?_
  obtain ⟨q1, hq2, hF⟩ := bnd_e hF
  refine t_goT (fun ls h => t_runV (As := [.int a1]) [] h C ml_X11_257 (k_X11_requireInvoice l D cA s0 z b ν _ hG a1 q1 hq2) ⟨rfl, rfl, nb rfl, nb rfl⟩ rfl (C_PD hw) rfl ⟨rfl, hw⟩ (nb rfl) ⟨nb rfl, nb rfl⟩ dX11_rebuilt_2) hF hS (xA_le hS) C hX (fun _ h => h) (nb rfl) (nb rfl) (fun q3 hF H locs hw hS => ?_)
  refine x_widen (k := 1) (n := 6) (nb rfl) (nb rfl) ?_
  have hw : WC D cA s0 z b ν H := hw
  refine x_iload_n C dX11_rebuilt_5 rfl ?_
  obtain ⟨q4, hq5, hF⟩ := bnd_e hF
  refine t_goT (fun ls h => t_runS (As := [.int a2]) [] h C ml_X11_247 (k_X11_requireLine l D cA s0 z b ν _ hG a2 q4 hq5) ⟨rfl, rfl, nb rfl, nb rfl⟩ rfl ⟨rfl, hw⟩ (nb rfl) ⟨nb rfl, nb rfl⟩ dX11_rebuilt_6) hF hS (xA_le hS) C hX (fun _ h => h) (nb rfl) (nb rfl) (fun q6 hF H locs hw hS => ?_)
  refine x_widen (k := 2) (n := 12) (nb rfl) (nb rfl) ?_
  have hw : WC D cA s0 z b ν H := hw
  refine x_aload_n C dX11_rebuilt_9 rfl ?_
  refine x_get (.ref (b + 2626)) C fl_X11_52 (C_PD hw) rfl dX11_rebuilt_10 ?_
  refine x_aload_n C dX11_rebuilt_13 rfl ?_
  refine x_get (.ref (b + 7)) C fl_X11_24 (C_PD hw) rfl dX11_rebuilt_14 ?_
  refine x_get (.ref (b + (7 + 3))) C fl_X11_260 (C_Led led7 hw) rfl dX11_rebuilt_17 ?_
  refine x_iload_n C dX11_rebuilt_20 rfl ?_
  obtain ⟨h7, hF⟩ := asr_e hF
  obtain ⟨hn8, hl9⟩ := vpn h7 (by decide)
  refine x_aald 5 C (C_invoices led7 hw) rfl hn8 hl9 (by decide) rfl dX11_rebuilt_21 ?_
  refine x_iload_n C dX11_rebuilt_22 rfl ?_
  obtain ⟨q10, hq11, hF⟩ := bnd_e hF
  refine x_goR (fun ls h => x_runV (As := [.ref (b + (7 + (62 + 2 * (cl a1)))), .int a2]) [] h C ml_X11_291 (k_X0_rebuiltLine l D cA s0 z b ν hG (7 + (62 + 2 * (cl a1))) a2 q10 hq11) ⟨rfl, rfl, nb rfl, nb rfl⟩ rfl (C_Acc hw) rfl hw (nb rfl) ⟨nb rfl, nb rfl⟩ dX11_rebuilt_23) ?_
  exact t_iret C rfl dX11_rebuilt_26  (rt_o hF) rfl hw hS (nb rfl) (nb rfl)
noncomputable def g_X11_isStale (ν : Mm) (a1 : Int32) : Option (Thr Bool) := bnd (g_X11_requireInvoice ν a1) (fun q1 => bnx q1 (fun q3 => bnd (g_X0_differsFromRebuilt ν a1) (fun q4 => some (.ok q4))))
set_option maxRecDepth 20000 in
set_option maxHeartbeats 4000000 in
theorem k_X11_isStale (l : Launch) (D : va_G) (cA : Nat → ClassId) (s0 : State) (z : Nat) (b : Nat) (ν : Mm) (sz : Nat) (hG : xG l D cA s0) (a1 : Int32) (r : Thr Bool) (hF : g_X11_isStale ν a1 = some r) : vx_Met l yX11_isStale (wsG yX11_isStale cX11_isStale 2 (some (FieldType.boolean))) { frames := 9, cells := 1, slots := 6, locals := 175 } (xP D cA s0 [.ref (b + 0), .int a1] (fun H => H.size = sz ∧ WC D cA s0 z b ν H)) (xQt (fun q => (some (.int (bI q)))) (fun _ H => WC D cA s0 z b ν H) (xA b 2628 sz) r) (xXt (fun H => WC D cA s0 z b ν H) (xA b 2628 sz) r) 1 6 (xA b 2628 sz) := by
  refine t_start (z := z) (b := b) (ν := ν) (s0 := s0) (own := RX11) [(0, .ref (b + 0)), (1, .int a1)] rfl rfl (by decide) (nb rfl) ?_
  intro p e s m args below meth c C hX hw
  obtain ⟨hsz, hw⟩ := hw
  subst hsz
  have hS : va_S (xA b 2628 s.heap.size) s.heap s.heap [] := va_S.rf
  refine x_aload_n C dX11_isStale_0 rfl ?_
  refine x_iload_n C dX11_isStale_1 rfl ?_
  obtain ⟨q1, hq2, hF⟩ := bnd_e hF
  refine t_goT (fun ls h => t_runV (As := [.int a1]) [] h C ml_X11_257 (k_X11_requireInvoice l D cA s0 z b ν _ hG a1 q1 hq2) ⟨rfl, rfl, nb rfl, nb rfl⟩ rfl (C_PD hw) rfl ⟨rfl, hw⟩ (nb rfl) ⟨nb rfl, nb rfl⟩ dX11_isStale_2) hF hS (xA_le hS) C hX (fun _ h => h) (nb rfl) (nb rfl) (fun q3 hF H locs hw hS => ?_)
  refine x_widen (k := 1) (n := 6) (nb rfl) (nb rfl) ?_
  have hw : WC D cA s0 z b ν H := hw
  refine x_aload_n C dX11_isStale_5 rfl ?_
  refine x_get (.ref (b + 2626)) C fl_X11_52 (C_PD hw) rfl dX11_isStale_6 ?_
  refine x_iload_n C dX11_isStale_9 rfl ?_
  obtain ⟨q4, hq5, hF⟩ := bnd_e hF
  refine x_goR (fun ls h => x_runV (As := [.int a1]) [] h C ml_X11_295 (k_X0_differsFromRebuilt l D cA s0 z b ν hG a1 q4 hq5) ⟨rfl, rfl, nb rfl, nb rfl⟩ rfl (C_Acc hw) rfl hw (nb rfl) ⟨nb rfl, nb rfl⟩ dX11_isStale_10) ?_
  exact t_zret C rfl dX11_isStale_13 (bI_nar _) (rt_o hF) rfl hw hS (nb rfl) (nb rfl)
noncomputable def g_X11_staleCount_L4 (ν : Mm) : Nat → Int32 → Int32 → Option (Int32)
  | 0, _, _ => none
  | n + 1, x1, x2 => (if (ν.1 7 7) ≤ x2 then some x1 else bnd (g_X0_differsFromRebuilt ν x2) (fun q2 => (if q2 = true then (g_X11_staleCount_L4 ν n (x1 + (1 : Int32)) (x2 + (1 : Int32))) else (g_X11_staleCount_L4 ν n x1 (x2 + (1 : Int32))))))
noncomputable def g_X11_staleCount (ν : Mm) : Option (Int32) := (g_X11_staleCount_L4 ν 10000 (0 : Int32) (0 : Int32))
set_option maxRecDepth 20000 in
set_option maxHeartbeats 4000000 in
theorem k_X11_staleCount (l : Launch) (D : va_G) (cA : Nat → ClassId) (s0 : State) (z : Nat) (b : Nat) (ν : Mm) (hG : xG l D cA s0) (r : Int32) (hF : g_X11_staleCount ν = some r) : Met l yX11_staleCount (wsG yX11_staleCount cX11_staleCount 3 (some (FieldType.int))) { frames := 5, cells := 0, slots := 0, locals := 119 } (xP D cA s0 [.ref (b + 0)] (WC D cA s0 z b ν)) (xQr (some (.int r))) 0 0 xN := by
  refine x_start (own := RX11) [(0, .ref (b + 0))] rfl rfl (by decide) (nb rfl) ?_
  intro p e s m args below meth c C hw
  have h_L4 : ∀ (n : Nat) (x1 : Int32) (x2 : Int32), g_X11_staleCount_L4 ν n x1 x2 = some r → xW p l e { frames := 5, cells := 0, slots := 0, locals := 119 } s m args below meth c 3 (MQ below (xQr (some (.int r))) args s 0 0 xN) s.heap [] 0 0 4 [(0, .ref (b + 0)), (1, .int x1), (2, .int x2)] [] := by
    intro n
    induction n with
    | zero =>
      intro x1 x2 hF
      exact no_some hF
    | succ n ih =>
      intro x1 x2 hF
      have ih4 := ih
      refine x_iload_n C dX11_staleCount_4 rfl ?_
      refine x_aload_n C dX11_staleCount_5 rfl ?_
      refine x_get (.ref (b + 7)) C fl_X11_24 (C_PD hw) rfl dX11_staleCount_6 ?_
      refine x_get (.int (ν.1 7 7)) C fl_X11_106 (C_Led led7 hw) rfl dX11_staleCount_9 ?_
      refine x_icmp_ge 35 C dX11_staleCount_12 (by decide) (fun c1 => ?_) (fun c1 => ?_)
      · have hF := ite_t hF c1
        refine x_iload_n C dX11_staleCount_35 rfl ?_
        exact x_iretR C rfl dX11_staleCount_36  (r_i hF)
      · have hF := ite_f hF c1
        refine x_aload_n C dX11_staleCount_15 rfl ?_
        refine x_get (.ref (b + 2626)) C fl_X11_52 (C_PD hw) rfl dX11_staleCount_16 ?_
        refine x_iload_n C dX11_staleCount_19 rfl ?_
        obtain ⟨q2, hq3, hF⟩ := bnd_e hF
        refine x_goR (fun ls h => x_runV (As := [.int x2]) [] h C ml_X11_295 (k_X0_differsFromRebuilt l D cA s0 z b ν hG x2 q2 hq3) ⟨rfl, rfl, nb rfl, nb rfl⟩ rfl (C_Acc hw) rfl hw (nb rfl) ⟨Nat.zero_le _, Nat.zero_le _⟩ dX11_staleCount_20) ?_
        refine x_ifB_eq 29 C dX11_staleCount_23 (by decide) (fun c4 => ?_) (fun c4 => ?_)
        · have hF := ite_f hF (nbt c4)
          refine x_iinc (x2 + (1 : Int32)) [(2, .int (x2 + (1 : Int32))), (0, .ref (b + 0)), (1, .int x1)] C dX11_staleCount_29 rfl rfl (by decide) rfl ?_
          refine x_goto 4 C dX11_staleCount_32 (by decide) ?_
          refine x_sub [(0, .ref (b + 0)), (1, .int x1), (2, .int (x2 + (1 : Int32)))] [1, 2, 0] rfl ?_
          exact ih4 x1 (x2 + (1 : Int32)) hF
        · have hF := ite_t hF c4
          refine x_iinc (x1 + (1 : Int32)) [(1, .int (x1 + (1 : Int32))), (0, .ref (b + 0)), (2, .int x2)] C dX11_staleCount_26 rfl rfl (by decide) rfl ?_
          refine x_iinc (x2 + (1 : Int32)) [(2, .int (x2 + (1 : Int32))), (1, .int (x1 + (1 : Int32))), (0, .ref (b + 0))] C dX11_staleCount_29 rfl rfl (by decide) rfl ?_
          refine x_goto 4 C dX11_staleCount_32 (by decide) ?_
          refine x_sub [(0, .ref (b + 0)), (1, .int (x1 + (1 : Int32))), (2, .int (x2 + (1 : Int32)))] [2, 1, 0] rfl ?_
          exact ih4 (x1 + (1 : Int32)) (x2 + (1 : Int32)) hF
  refine x_iconst (0 : Int32) C dX11_staleCount_0 rfl ?_
  refine x_istore_n [(1, .int (0 : Int32)), (0, .ref (b + 0))] C dX11_staleCount_1 rfl (by decide) rfl ?_
  refine x_iconst (0 : Int32) C dX11_staleCount_2 rfl ?_
  refine x_istore_n [(2, .int (0 : Int32)), (1, .int (0 : Int32)), (0, .ref (b + 0))] C dX11_staleCount_3 rfl (by decide) rfl ?_
  refine x_sub [(0, .ref (b + 0)), (1, .int (0 : Int32)), (2, .int (0 : Int32))] [2, 1, 0] rfl ?_
  exact h_L4 10000 (0 : Int32) (0 : Int32) hF
noncomputable def g_X11_contested (ν : Mm) (a1 : Int32) : Option (Thr Int32) := bnd (g_X11_requireInvoice ν a1) (fun q1 => bnx q1 (fun q3 => asr (vp_in a1 60) (bnd (g_X4_stands ν (7 + (62 + 2 * (cl a1))) (3 : Int32)) (fun q7 => (if q7 = true then asr (vp_in (ν.1 (7 + (62 + 2 * (cl a1))) 1) 40) (bnd (g_X2_contestedDays ν (7 + (22 + (cl (ν.1 (7 + (62 + 2 * (cl a1))) 1))))) (fun q13 => bnd (g_J6_bitCount_0f7a4 ((ν.1 (7 + (62 + 2 * (cl a1))) 6) &&& q13)) (fun q15 => some (.ok q15)))) else some (.ok (0 : Int32)))))))
set_option maxRecDepth 20000 in
set_option maxHeartbeats 4000000 in
theorem k_X11_contested (l : Launch) (D : va_G) (cA : Nat → ClassId) (s0 : State) (z : Nat) (b : Nat) (ν : Mm) (sz : Nat) (hG : xG l D cA s0) (a1 : Int32) (r : Thr Int32) (hF : g_X11_contested ν a1 = some r) : vx_Met l yX11_contested (wsG yX11_contested cX11_contested 3 (some (FieldType.int))) { frames := 9, cells := 1, slots := 6, locals := 175 } (xP D cA s0 [.ref (b + 0), .int a1] (fun H => H.size = sz ∧ WC D cA s0 z b ν H)) (xQt (fun q => (some (.int q))) (fun _ H => WC D cA s0 z b ν H) (xA b 2628 sz) r) (xXt (fun H => WC D cA s0 z b ν H) (xA b 2628 sz) r) 1 6 (xA b 2628 sz) := by
  refine t_start (z := z) (b := b) (ν := ν) (s0 := s0) (own := RX11) [(0, .ref (b + 0)), (1, .int a1)] rfl rfl (by decide) (nb rfl) ?_
  intro p e s m args below meth c C hX hw
  obtain ⟨hsz, hw⟩ := hw
  subst hsz
  have hS : va_S (xA b 2628 s.heap.size) s.heap s.heap [] := va_S.rf
  refine x_aload_n C dX11_contested_0 rfl ?_
  refine x_iload_n C dX11_contested_1 rfl ?_
  obtain ⟨q1, hq2, hF⟩ := bnd_e hF
  refine t_goT (fun ls h => t_runV (As := [.int a1]) [] h C ml_X11_257 (k_X11_requireInvoice l D cA s0 z b ν _ hG a1 q1 hq2) ⟨rfl, rfl, nb rfl, nb rfl⟩ rfl (C_PD hw) rfl ⟨rfl, hw⟩ (nb rfl) ⟨nb rfl, nb rfl⟩ dX11_contested_2) hF hS (xA_le hS) C hX (fun _ h => h) (nb rfl) (nb rfl) (fun q3 hF H locs hw hS => ?_)
  refine x_widen (k := 1) (n := 6) (nb rfl) (nb rfl) ?_
  have hw : WC D cA s0 z b ν H := hw
  refine x_aload_n C dX11_contested_5 rfl ?_
  refine x_get (.ref (b + 7)) C fl_X11_24 (C_PD hw) rfl dX11_contested_6 ?_
  refine x_get (.ref (b + (7 + 3))) C fl_X11_260 (C_Led led7 hw) rfl dX11_contested_9 ?_
  refine x_iload_n C dX11_contested_12 rfl ?_
  obtain ⟨h4, hF⟩ := asr_e hF
  obtain ⟨hn5, hl6⟩ := vpn h4 (by decide)
  refine x_aald 5 C (C_invoices led7 hw) rfl hn5 hl6 (by decide) rfl dX11_contested_13 ?_
  refine x_astore_n [(2, .ref (b + (7 + (62 + 2 * (cl a1))))), (0, .ref (b + 0)), (1, .int a1)] C dX11_contested_14 rfl (by decide) rfl ?_
  refine x_aload_n C dX11_contested_15 rfl ?_
  refine x_iconst (3 : Int32) C dX11_contested_16 rfl ?_
  obtain ⟨q7, hq8, hF⟩ := bnd_e hF
  refine x_goR (fun ls h => x_runV (As := [.int (3 : Int32)]) [] h C ml_X11_299 (k_X4_stands l D cA s0 z b ν hG (7 + (62 + 2 * (cl a1))) (3 : Int32) q7 hq8) ⟨rfl, rfl, nb rfl, nb rfl⟩ rfl (C_Inv (mk_Inv led7 hl6) hw) rfl hw (nb rfl) ⟨nb rfl, nb rfl⟩ dX11_contested_17) ?_
  refine x_ifB_ne 25 C dX11_contested_20 (by decide) (fun c9 => ?_) (fun c9 => ?_)
  · have hF := ite_t hF c9
    refine x_aload_n C dX11_contested_25 rfl ?_
    refine x_get (.int (ν.1 (7 + (62 + 2 * (cl a1))) 6)) C fl_X11_279 (C_Inv (mk_Inv led7 hl6) hw) rfl dX11_contested_26 ?_
    refine x_aload_n C dX11_contested_29 rfl ?_
    refine x_get (.ref (b + 7)) C fl_X11_24 (C_PD hw) rfl dX11_contested_30 ?_
    refine x_get (.ref (b + (7 + 2))) C fl_X11_202 (C_Led led7 hw) rfl dX11_contested_33 ?_
    refine x_aload_n C dX11_contested_36 rfl ?_
    refine x_get (.int (ν.1 (7 + (62 + 2 * (cl a1))) 1)) C fl_X11_264 (C_Inv (mk_Inv led7 hl6) hw) rfl dX11_contested_37 ?_
    obtain ⟨h10, hF⟩ := asr_e hF
    obtain ⟨hn11, hl12⟩ := vpn h10 (by decide)
    refine x_aald 4 C (C_calls led7 hw) rfl hn11 hl12 (by decide) rfl dX11_contested_40 ?_
    obtain ⟨q13, hq14, hF⟩ := bnd_e hF
    refine x_goR (fun ls h => x_runV (As := []) [.int (ν.1 (7 + (62 + 2 * (cl a1))) 6)] h C ml_X11_302 (k_X2_contestedDays l D cA s0 z b ν hG (7 + (22 + (cl (ν.1 (7 + (62 + 2 * (cl a1))) 1)))) q13 hq14) ⟨rfl, rfl, nb rfl, nb rfl⟩ rfl (C_Cal (mk_Cal led7 hl12) hw) rfl hw (nb rfl) ⟨nb rfl, nb rfl⟩ dX11_contested_41) ?_
    refine x_iand C dX11_contested_44 ?_
    obtain ⟨q15, hq16, hF⟩ := bnd_e hF
    refine x_goR (fun ls h => x_runS (As := [.int ((ν.1 (7 + (62 + 2 * (cl a1))) 6) &&& q13)]) [] h C ml_X11_305 (k_J6_bitCount_0f7a4 l D cA s0 z hG ((ν.1 (7 + (62 + 2 * (cl a1))) 6) &&& q13) q15 hq16) ⟨rfl, rfl, nb rfl, nb rfl⟩ rfl trivial (nb rfl) ⟨nb rfl, nb rfl⟩ dX11_contested_45) ?_
    exact t_iret C rfl dX11_contested_48  (rt_o hF) rfl hw hS (nb rfl) (nb rfl)
  · have hF := ite_f hF (nbt c9)
    refine x_iconst (0 : Int32) C dX11_contested_23 rfl ?_
    exact t_iret C rfl dX11_contested_24  (rt_o hF) rfl hw hS (nb rfl) (nb rfl)
noncomputable def g_X11_note (ν : Mm) (a1 : Int32) (a2 : Int32) : Option (Thr Int32) := bnd (g_X11_requireIndex ν a1 (ν.1 7 8)) (fun q1 => bnx q1 (fun q3 => bnd (g_X11_requireRange ν a2 (0 : Int32) (3 : Int32)) (fun q4 => bnx q4 (fun q6 => asr (vp_in a1 40) ((if a2 = 0 then some (.ok (ν.1 (7 + (182 + (cl a1))) 0)) else (if a2 = 1 then some (.ok (ν.1 (7 + (182 + (cl a1))) 1)) else (if a2 = 2 then some (.ok (ν.1 (7 + (182 + (cl a1))) 2)) else some (.ok (ν.1 (7 + (182 + (cl a1))) 3))))))))))
set_option maxRecDepth 20000 in
set_option maxHeartbeats 4000000 in
theorem k_X11_note (l : Launch) (D : va_G) (cA : Nat → ClassId) (s0 : State) (z : Nat) (b : Nat) (ν : Mm) (sz : Nat) (hG : xG l D cA s0) (a1 : Int32) (a2 : Int32) (r : Thr Int32) (hF : g_X11_note ν a1 a2 = some r) : vx_Met l yX11_note (wsG yX11_note cX11_note 4 (some (FieldType.int))) { frames := 9, cells := 2, slots := 12, locals := 175 } (xP D cA s0 [.ref (b + 0), .int a1, .int a2] (fun H => H.size = sz ∧ WC D cA s0 z b ν H)) (xQt (fun q => (some (.int q))) (fun _ H => WC D cA s0 z b ν H) (xA b 2628 sz) r) (xXt (fun H => WC D cA s0 z b ν H) (xA b 2628 sz) r) 2 12 (xA b 2628 sz) := by
  refine t_start (z := z) (b := b) (ν := ν) (s0 := s0) (own := RX11) [(0, .ref (b + 0)), (1, .int a1), (2, .int a2)] rfl rfl (by decide) (nb rfl) ?_
  intro p e s m args below meth c C hX hw
  obtain ⟨hsz, hw⟩ := hw
  subst hsz
  have hS : va_S (xA b 2628 s.heap.size) s.heap s.heap [] := va_S.rf
  refine x_iload_n C dX11_note_0 rfl ?_
  refine x_aload_n C dX11_note_1 rfl ?_
  refine x_get (.ref (b + 7)) C fl_X11_24 (C_PD hw) rfl dX11_note_2 ?_
  refine x_get (.int (ν.1 7 8)) C fl_X11_109 (C_Led led7 hw) rfl dX11_note_5 ?_
  obtain ⟨q1, hq2, hF⟩ := bnd_e hF
  refine t_goT (fun ls h => t_runS (As := [.int a1, .int (ν.1 7 8)]) [] h C ml_X11_153 (k_X11_requireIndex l D cA s0 z b ν _ hG a1 (ν.1 7 8) q1 hq2) ⟨rfl, rfl, nb rfl, nb rfl⟩ rfl ⟨rfl, hw⟩ (nb rfl) ⟨nb rfl, nb rfl⟩ dX11_note_8) hF hS (xA_le hS) C hX (fun _ h => h) (nb rfl) (nb rfl) (fun q3 hF H locs hw hS => ?_)
  refine x_widen (k := 1) (n := 6) (nb rfl) (nb rfl) ?_
  have hw : WC D cA s0 z b ν H := hw
  refine x_iload_n C dX11_note_11 rfl ?_
  refine x_iconst (0 : Int32) C dX11_note_12 rfl ?_
  refine x_iconst (3 : Int32) C dX11_note_13 rfl ?_
  obtain ⟨q4, hq5, hF⟩ := bnd_e hF
  refine t_goT (fun ls h => t_runS (As := [.int a2, .int (0 : Int32), .int (3 : Int32)]) [] h C ml_X11_76 (k_X11_requireRange l D cA s0 z b ν _ hG a2 (0 : Int32) (3 : Int32) q4 hq5) ⟨rfl, rfl, nb rfl, nb rfl⟩ rfl ⟨rfl, hw⟩ (nb rfl) ⟨nb rfl, nb rfl⟩ dX11_note_14) hF hS (xA_le hS) C hX (fun _ h => h) (nb rfl) (nb rfl) (fun q6 hF H locs hw hS => ?_)
  refine x_widen (k := 2) (n := 12) (nb rfl) (nb rfl) ?_
  have hw : WC D cA s0 z b ν H := hw
  refine x_aload_n C dX11_note_17 rfl ?_
  refine x_get (.ref (b + 7)) C fl_X11_24 (C_PD hw) rfl dX11_note_18 ?_
  refine x_get (.ref (b + (7 + 4))) C fl_X11_310 (C_Led led7 hw) rfl dX11_note_21 ?_
  refine x_iload_n C dX11_note_24 rfl ?_
  obtain ⟨h7, hF⟩ := asr_e hF
  obtain ⟨hn8, hl9⟩ := vpn h7 (by decide)
  refine x_aald 6 C (C_notes led7 hw) rfl hn8 hl9 (by decide) rfl dX11_note_25 ?_
  refine x_astore_n [(3, .ref (b + (7 + (182 + (cl a1))))), (0, .ref (b + 0)), (1, .int a1), (2, .int a2)] C dX11_note_26 rfl (by decide) rfl ?_
  refine x_iload_n C dX11_note_27 rfl ?_
  by_cases c10 : a2 = 0
  · have hF := ite_t hF c10
    refine x_tabIn 0 56 C dX11_note_28 (by rw [c10]; rfl) (by decide) (by decide) rfl (by decide) ?_
    refine x_aload_n C dX11_note_56 rfl ?_
    refine x_get (.int (ν.1 (7 + (182 + (cl a1))) 0)) C fl_X11_314 (C_Note (mk_Note led7 hl9) hw) rfl dX11_note_57 ?_
    exact t_iret C rfl dX11_note_60  (rt_o hF) rfl hw hS (nb rfl) (nb rfl)
  · have hF := ite_f hF c10
    by_cases c11 : a2 = 1
    · have hF := ite_t hF c11
      refine x_tabIn 1 61 C dX11_note_28 (by rw [c11]; rfl) (by decide) (by decide) rfl (by decide) ?_
      refine x_aload_n C dX11_note_61 rfl ?_
      refine x_get (.int (ν.1 (7 + (182 + (cl a1))) 1)) C fl_X11_319 (C_Note (mk_Note led7 hl9) hw) rfl dX11_note_62 ?_
      exact t_iret C rfl dX11_note_65  (rt_o hF) rfl hw hS (nb rfl) (nb rfl)
    · have hF := ite_f hF c11
      by_cases c12 : a2 = 2
      · have hF := ite_t hF c12
        refine x_tabIn 2 66 C dX11_note_28 (by rw [c12]; rfl) (by decide) (by decide) rfl (by decide) ?_
        refine x_aload_n C dX11_note_66 rfl ?_
        refine x_get (.int (ν.1 (7 + (182 + (cl a1))) 2)) C fl_X11_320 (C_Note (mk_Note led7 hl9) hw) rfl dX11_note_67 ?_
        exact t_iret C rfl dX11_note_70  (rt_o hF) rfl hw hS (nb rfl) (nb rfl)
      · have hF := ite_f hF c12
        have t13 : a2.toInt ≠ 0 := fun z => c10 ((fa_eqI _ _).mpr z)
        have t14 : a2.toInt ≠ 1 := fun z => c11 ((fa_eqI _ _).mpr z)
        have t15 : a2.toInt ≠ 2 := fun z => c12 ((fa_eqI _ _).mpr z)
        refine x_tabOut 71 C dX11_note_28 (by omega) (by decide) ?_
        refine x_aload_n C dX11_note_71 rfl ?_
        refine x_get (.int (ν.1 (7 + (182 + (cl a1))) 3)) C fl_X11_321 (C_Note (mk_Note led7 hl9) hw) rfl dX11_note_72 ?_
        exact t_iret C rfl dX11_note_75  (rt_o hF) rfl hw hS (nb rfl) (nb rfl)
noncomputable def g_X11_balance (ν : Mm) (a1 : Int32) : Option (Thr Int64) := bnd (g_X11_requireShip ν a1) (fun q1 => bnx q1 (fun q3 => bnd (g_X0_balanceOf ν a1) (fun q4 => some (.ok q4))))
set_option maxRecDepth 20000 in
set_option maxHeartbeats 4000000 in
theorem k_X11_balance (l : Launch) (D : va_G) (cA : Nat → ClassId) (s0 : State) (z : Nat) (b : Nat) (ν : Mm) (sz : Nat) (hG : xG l D cA s0) (a1 : Int32) (r : Thr Int64) (hF : g_X11_balance ν a1 = some r) : vx_Met l yX11_balance (wsG yX11_balance cX11_balance 2 (some (FieldType.long))) { frames := 9, cells := 1, slots := 6, locals := 175 } (xP D cA s0 [.ref (b + 0), .int a1] (fun H => H.size = sz ∧ WC D cA s0 z b ν H)) (xQt (fun q => (some (.long q))) (fun _ H => WC D cA s0 z b ν H) (xA b 2628 sz) r) (xXt (fun H => WC D cA s0 z b ν H) (xA b 2628 sz) r) 1 6 (xA b 2628 sz) := by
  refine t_start (z := z) (b := b) (ν := ν) (s0 := s0) (own := RX11) [(0, .ref (b + 0)), (1, .int a1)] rfl rfl (by decide) (nb rfl) ?_
  intro p e s m args below meth c C hX hw
  obtain ⟨hsz, hw⟩ := hw
  subst hsz
  have hS : va_S (xA b 2628 s.heap.size) s.heap s.heap [] := va_S.rf
  refine x_aload_n C dX11_balance_0 rfl ?_
  refine x_iload_n C dX11_balance_1 rfl ?_
  obtain ⟨q1, hq2, hF⟩ := bnd_e hF
  refine t_goT (fun ls h => t_runV (As := [.int a1]) [] h C ml_X11_184 (k_X11_requireShip l D cA s0 z b ν _ hG a1 q1 hq2) ⟨rfl, rfl, nb rfl, nb rfl⟩ rfl (C_PD hw) rfl ⟨rfl, hw⟩ (nb rfl) ⟨nb rfl, nb rfl⟩ dX11_balance_2) hF hS (xA_le hS) C hX (fun _ h => h) (nb rfl) (nb rfl) (fun q3 hF H locs hw hS => ?_)
  refine x_widen (k := 1) (n := 6) (nb rfl) (nb rfl) ?_
  have hw : WC D cA s0 z b ν H := hw
  refine x_aload_n C dX11_balance_5 rfl ?_
  refine x_get (.ref (b + 2626)) C fl_X11_52 (C_PD hw) rfl dX11_balance_6 ?_
  refine x_iload_n C dX11_balance_9 rfl ?_
  obtain ⟨q4, hq5, hF⟩ := bnd_e hF
  refine x_goR (fun ls h => x_runV (As := [.int a1]) [] h C ml_X11_324 (k_X0_balanceOf l D cA s0 z b ν hG a1 q4 hq5) ⟨rfl, rfl, nb rfl, nb rfl⟩ rfl (C_Acc hw) rfl hw (nb rfl) ⟨nb rfl, nb rfl⟩ dX11_balance_10) ?_
  exact t_lret C rfl dX11_balance_13  (rt_o hF) rfl hw hS (nb rfl) (nb rfl)
noncomputable def g_X11_paid (ν : Mm) (a1 : Int32) : Option (Thr Int64) := bnd (g_X11_requireShip ν a1) (fun q1 => bnx q1 (fun q3 => asr (vp_in a1 8) (some (.ok (ν.2.1 (7 + (6 + 2 * (cl a1))) 3)))))
set_option maxRecDepth 20000 in
set_option maxHeartbeats 4000000 in
theorem k_X11_paid (l : Launch) (D : va_G) (cA : Nat → ClassId) (s0 : State) (z : Nat) (b : Nat) (ν : Mm) (sz : Nat) (hG : xG l D cA s0) (a1 : Int32) (r : Thr Int64) (hF : g_X11_paid ν a1 = some r) : vx_Met l yX11_paid (wsG yX11_paid cX11_paid 2 (some (FieldType.long))) { frames := 9, cells := 1, slots := 6, locals := 175 } (xP D cA s0 [.ref (b + 0), .int a1] (fun H => H.size = sz ∧ WC D cA s0 z b ν H)) (xQt (fun q => (some (.long q))) (fun _ H => WC D cA s0 z b ν H) (xA b 2628 sz) r) (xXt (fun H => WC D cA s0 z b ν H) (xA b 2628 sz) r) 1 6 (xA b 2628 sz) := by
  refine t_start (z := z) (b := b) (ν := ν) (s0 := s0) (own := RX11) [(0, .ref (b + 0)), (1, .int a1)] rfl rfl (by decide) (nb rfl) ?_
  intro p e s m args below meth c C hX hw
  obtain ⟨hsz, hw⟩ := hw
  subst hsz
  have hS : va_S (xA b 2628 s.heap.size) s.heap s.heap [] := va_S.rf
  refine x_aload_n C dX11_paid_0 rfl ?_
  refine x_iload_n C dX11_paid_1 rfl ?_
  obtain ⟨q1, hq2, hF⟩ := bnd_e hF
  refine t_goT (fun ls h => t_runV (As := [.int a1]) [] h C ml_X11_184 (k_X11_requireShip l D cA s0 z b ν _ hG a1 q1 hq2) ⟨rfl, rfl, nb rfl, nb rfl⟩ rfl (C_PD hw) rfl ⟨rfl, hw⟩ (nb rfl) ⟨nb rfl, nb rfl⟩ dX11_paid_2) hF hS (xA_le hS) C hX (fun _ h => h) (nb rfl) (nb rfl) (fun q3 hF H locs hw hS => ?_)
  refine x_widen (k := 1) (n := 6) (nb rfl) (nb rfl) ?_
  have hw : WC D cA s0 z b ν H := hw
  refine x_aload_n C dX11_paid_5 rfl ?_
  refine x_get (.ref (b + 7)) C fl_X11_24 (C_PD hw) rfl dX11_paid_6 ?_
  refine x_get (.ref (b + (7 + 1))) C fl_X11_187 (C_Led led7 hw) rfl dX11_paid_9 ?_
  refine x_iload_n C dX11_paid_12 rfl ?_
  obtain ⟨h4, hF⟩ := asr_e hF
  obtain ⟨hn5, hl6⟩ := vpn h4 (by decide)
  refine x_aald 3 C (C_ships led7 hw) rfl hn5 hl6 (by decide) rfl dX11_paid_13 ?_
  refine x_get (.long (ν.2.1 (7 + (6 + 2 * (cl a1))) 3)) C fl_X11_328 (C_Ship (mk_Ship led7 hl6) hw) rfl dX11_paid_14 ?_
  exact t_lret C rfl dX11_paid_17  (rt_o hF) rfl hw hS (nb rfl) (nb rfl)
noncomputable def g_X11_oldestOpen_L7 (ν : Mm) (a1 : Int32) : Nat → Int32 → Option (Thr Int32)
  | 0, _ => none
  | n + 1, x2 => (if (ν.1 7 7) ≤ x2 then some (.ok (-1 : Int32)) else bnd (g_X0_shipOf ν x2) (fun q5 => (if q5 = a1 then bnd (g_X0_openAmount ν x2) (fun q8 => (if q8 ≤ 0 then (g_X11_oldestOpen_L7 ν a1 n (x2 + (1 : Int32))) else some (.ok x2))) else (g_X11_oldestOpen_L7 ν a1 n (x2 + (1 : Int32))))))
noncomputable def g_X11_oldestOpen (ν : Mm) (a1 : Int32) : Option (Thr Int32) := bnd (g_X11_requireShip ν a1) (fun q1 => bnx q1 (fun q3 => (g_X11_oldestOpen_L7 ν a1 10000 (0 : Int32))))
set_option maxRecDepth 20000 in
set_option maxHeartbeats 4000000 in
theorem k_X11_oldestOpen (l : Launch) (D : va_G) (cA : Nat → ClassId) (s0 : State) (z : Nat) (b : Nat) (ν : Mm) (sz : Nat) (hG : xG l D cA s0) (a1 : Int32) (r : Thr Int32) (hF : g_X11_oldestOpen ν a1 = some r) : vx_Met l yX11_oldestOpen (wsG yX11_oldestOpen cX11_oldestOpen 3 (some (FieldType.int))) { frames := 9, cells := 1, slots := 6, locals := 175 } (xP D cA s0 [.ref (b + 0), .int a1] (fun H => H.size = sz ∧ WC D cA s0 z b ν H)) (xQt (fun q => (some (.int q))) (fun _ H => WC D cA s0 z b ν H) (xA b 2628 sz) r) (xXt (fun H => WC D cA s0 z b ν H) (xA b 2628 sz) r) 1 6 (xA b 2628 sz) := by
  refine t_start (z := z) (b := b) (ν := ν) (s0 := s0) (own := RX11) [(0, .ref (b + 0)), (1, .int a1)] rfl rfl (by decide) (nb rfl) ?_
  intro p e s m args below meth c C hX hw
  obtain ⟨hsz, hw⟩ := hw
  subst hsz
  have hS : va_S (xA b 2628 s.heap.size) s.heap s.heap [] := va_S.rf
  have h_L7 : ∀ (n : Nat) (x2 : Int32) (H : Heap) (locs : List Loc) (hw : WC D cA s0 z b ν H) (hS : va_S (xA b 2628 s.heap.size) s.heap H locs), g_X11_oldestOpen_L7 ν a1 n x2 = some r → xW p l e { frames := 9, cells := 1, slots := 6, locals := 175 } s m args below meth c 3 (vx_MQ below (xQt (fun q => (some (.int q))) (fun _ H => WC D cA s0 z b ν H) (xA b 2628 s.heap.size) r) (xXt (fun H => WC D cA s0 z b ν H) (xA b 2628 s.heap.size) r) args s 1 6 (xA b 2628 s.heap.size)) H locs 1 6 7 [(0, .ref (b + 0)), (1, .int a1), (2, .int x2)] [] := by
    intro n
    induction n with
    | zero =>
      intro x2 H locs hw hS hF
      exact no_some hF
    | succ n ih =>
      intro x2 H locs hw hS hF
      have ih7 := ih
      refine x_iload_n C dX11_oldestOpen_7 rfl ?_
      refine x_aload_n C dX11_oldestOpen_8 rfl ?_
      refine x_get (.ref (b + 7)) C fl_X11_24 (C_PD hw) rfl dX11_oldestOpen_9 ?_
      refine x_get (.int (ν.1 7 7)) C fl_X11_106 (C_Led led7 hw) rfl dX11_oldestOpen_12 ?_
      refine x_icmp_ge 49 C dX11_oldestOpen_15 (by decide) (fun c4 => ?_) (fun c4 => ?_)
      · have hF := ite_t hF c4
        refine x_iconst (-1 : Int32) C dX11_oldestOpen_49 rfl ?_
        exact t_iret C rfl dX11_oldestOpen_50  (rt_o hF) rfl hw hS (nb rfl) (nb rfl)
      · have hF := ite_f hF c4
        refine x_aload_n C dX11_oldestOpen_18 rfl ?_
        refine x_get (.ref (b + 2626)) C fl_X11_52 (C_PD hw) rfl dX11_oldestOpen_19 ?_
        refine x_iload_n C dX11_oldestOpen_22 rfl ?_
        obtain ⟨q5, hq6, hF⟩ := bnd_e hF
        refine x_goR (fun ls h => x_runV (As := [.int x2]) [] h C ml_X11_332 (k_X0_shipOf l D cA s0 z b ν hG x2 q5 hq6) ⟨rfl, rfl, nb rfl, nb rfl⟩ rfl (C_Acc hw) rfl hw (nb rfl) ⟨nb rfl, nb rfl⟩ dX11_oldestOpen_23) ?_
        refine x_iload_n C dX11_oldestOpen_26 rfl ?_
        refine x_icmp_ne 43 C dX11_oldestOpen_27 (by decide) (fun c7 => ?_) (fun c7 => ?_)
        · have hF := ite_f hF c7
          refine x_iinc (x2 + (1 : Int32)) [(2, .int (x2 + (1 : Int32))), (0, .ref (b + 0)), (1, .int a1)] C dX11_oldestOpen_43 rfl rfl (by decide) rfl ?_
          refine x_goto 7 C dX11_oldestOpen_46 (by decide) ?_
          refine x_sub [(0, .ref (b + 0)), (1, .int a1), (2, .int (x2 + (1 : Int32)))] [1, 2, 0] rfl ?_
          exact ih7 (x2 + (1 : Int32)) _ _ hw hS hF
        · have hF := ite_t hF c7
          refine x_aload_n C dX11_oldestOpen_30 rfl ?_
          refine x_get (.ref (b + 2626)) C fl_X11_52 (C_PD hw) rfl dX11_oldestOpen_31 ?_
          refine x_iload_n C dX11_oldestOpen_34 rfl ?_
          obtain ⟨q8, hq9, hF⟩ := bnd_e hF
          refine x_goR (fun ls h => x_runV (As := [.int x2]) [] h C ml_X11_288 (k_X0_openAmount l D cA s0 z b ν hG x2 q8 hq9) ⟨rfl, rfl, nb rfl, nb rfl⟩ rfl (C_Acc hw) rfl hw (nb rfl) ⟨nb rfl, nb rfl⟩ dX11_oldestOpen_35) ?_
          refine x_if_le 43 C dX11_oldestOpen_38 (by decide) (fun c10 => ?_) (fun c10 => ?_)
          · have hF := ite_t hF c10
            refine x_iinc (x2 + (1 : Int32)) [(2, .int (x2 + (1 : Int32))), (0, .ref (b + 0)), (1, .int a1)] C dX11_oldestOpen_43 rfl rfl (by decide) rfl ?_
            refine x_goto 7 C dX11_oldestOpen_46 (by decide) ?_
            refine x_sub [(0, .ref (b + 0)), (1, .int a1), (2, .int (x2 + (1 : Int32)))] [1, 2, 0] rfl ?_
            exact ih7 (x2 + (1 : Int32)) _ _ hw hS hF
          · have hF := ite_f hF c10
            refine x_iload_n C dX11_oldestOpen_41 rfl ?_
            exact t_iret C rfl dX11_oldestOpen_42  (rt_o hF) rfl hw hS (nb rfl) (nb rfl)
  refine x_aload_n C dX11_oldestOpen_0 rfl ?_
  refine x_iload_n C dX11_oldestOpen_1 rfl ?_
  obtain ⟨q1, hq2, hF⟩ := bnd_e hF
  refine t_goT (fun ls h => t_runV (As := [.int a1]) [] h C ml_X11_184 (k_X11_requireShip l D cA s0 z b ν _ hG a1 q1 hq2) ⟨rfl, rfl, nb rfl, nb rfl⟩ rfl (C_PD hw) rfl ⟨rfl, hw⟩ (nb rfl) ⟨nb rfl, nb rfl⟩ dX11_oldestOpen_2) hF hS (xA_le hS) C hX (fun _ h => h) (nb rfl) (nb rfl) (fun q3 hF H locs hw hS => ?_)
  refine x_widen (k := 1) (n := 6) (nb rfl) (nb rfl) ?_
  have hw : WC D cA s0 z b ν H := hw
  refine x_iconst (0 : Int32) C dX11_oldestOpen_5 rfl ?_
  refine x_istore_n [(2, .int (0 : Int32)), (0, .ref (b + 0)), (1, .int a1)] C dX11_oldestOpen_6 rfl (by decide) rfl ?_
  refine x_sub [(0, .ref (b + 0)), (1, .int a1), (2, .int (0 : Int32))] [1, 2, 0] rfl ?_
  exact h_L7 10000 (0 : Int32) _ _ hw hS hF
noncomputable def g_X11_overdue_L12 (ν : Mm) (a1 : Int32) : Nat → Int32 → Int32 → Option (Thr Int32)
  | 0, _, _ => none
  | n + 1, x2, x3 => (if (ν.1 7 7) ≤ x3 then some (.ok x2) else asr (vp_in x3 60) ((if ((ν.1 7 10) - (ν.1 (7 + (62 + 2 * (cl x3))) 2)) < a1 then (g_X11_overdue_L12 ν a1 n x2 (x3 + (1 : Int32))) else bnd (g_X0_openAmount ν x3) (fun q9 => (if q9 ≤ 0 then (g_X11_overdue_L12 ν a1 n x2 (x3 + (1 : Int32))) else (g_X11_overdue_L12 ν a1 n (x2 + (1 : Int32)) (x3 + (1 : Int32))))))))
noncomputable def g_X11_overdue (ν : Mm) (a1 : Int32) : Option (Thr Int32) := bnd (g_X11_requireRange ν a1 (0 : Int32) (3599 : Int32)) (fun q1 => bnx q1 (fun q3 => (g_X11_overdue_L12 ν a1 10000 (0 : Int32) (0 : Int32))))
set_option maxRecDepth 20000 in
set_option maxHeartbeats 4000000 in
theorem k_X11_overdue (l : Launch) (D : va_G) (cA : Nat → ClassId) (s0 : State) (z : Nat) (b : Nat) (ν : Mm) (sz : Nat) (hG : xG l D cA s0) (a1 : Int32) (r : Thr Int32) (hF : g_X11_overdue ν a1 = some r) : vx_Met l yX11_overdue (wsG yX11_overdue cX11_overdue 4 (some (FieldType.int))) { frames := 9, cells := 1, slots := 6, locals := 175 } (xP D cA s0 [.ref (b + 0), .int a1] (fun H => H.size = sz ∧ WC D cA s0 z b ν H)) (xQt (fun q => (some (.int q))) (fun _ H => WC D cA s0 z b ν H) (xA b 2628 sz) r) (xXt (fun H => WC D cA s0 z b ν H) (xA b 2628 sz) r) 1 6 (xA b 2628 sz) := by
  refine t_start (z := z) (b := b) (ν := ν) (s0 := s0) (own := RX11) [(0, .ref (b + 0)), (1, .int a1)] rfl rfl (by decide) (nb rfl) ?_
  intro p e s m args below meth c C hX hw
  obtain ⟨hsz, hw⟩ := hw
  subst hsz
  have hS : va_S (xA b 2628 s.heap.size) s.heap s.heap [] := va_S.rf
  have h_L12 : ∀ (n : Nat) (x2 : Int32) (x3 : Int32) (H : Heap) (locs : List Loc) (hw : WC D cA s0 z b ν H) (hS : va_S (xA b 2628 s.heap.size) s.heap H locs), g_X11_overdue_L12 ν a1 n x2 x3 = some r → xW p l e { frames := 9, cells := 1, slots := 6, locals := 175 } s m args below meth c 4 (vx_MQ below (xQt (fun q => (some (.int q))) (fun _ H => WC D cA s0 z b ν H) (xA b 2628 s.heap.size) r) (xXt (fun H => WC D cA s0 z b ν H) (xA b 2628 s.heap.size) r) args s 1 6 (xA b 2628 s.heap.size)) H locs 1 6 12 [(0, .ref (b + 0)), (1, .int a1), (2, .int x2), (3, .int x3)] [] := by
    intro n
    induction n with
    | zero =>
      intro x2 x3 H locs hw hS hF
      exact no_some hF
    | succ n ih =>
      intro x2 x3 H locs hw hS hF
      have ih12 := ih
      refine x_iload_n C dX11_overdue_12 rfl ?_
      refine x_aload_n C dX11_overdue_13 rfl ?_
      refine x_get (.ref (b + 7)) C fl_X11_24 (C_PD hw) rfl dX11_overdue_14 ?_
      refine x_get (.int (ν.1 7 7)) C fl_X11_106 (C_Led led7 hw) rfl dX11_overdue_17 ?_
      refine x_icmp_ge 67 C dX11_overdue_20 (by decide) (fun c4 => ?_) (fun c4 => ?_)
      · have hF := ite_t hF c4
        refine x_iload_n C dX11_overdue_67 rfl ?_
        exact t_iret C rfl dX11_overdue_68  (rt_o hF) rfl hw hS (nb rfl) (nb rfl)
      · have hF := ite_f hF c4
        refine x_aload_n C dX11_overdue_23 rfl ?_
        refine x_get (.ref (b + 7)) C fl_X11_24 (C_PD hw) rfl dX11_overdue_24 ?_
        refine x_get (.int (ν.1 7 10)) C fl_X11_115 (C_Led led7 hw) rfl dX11_overdue_27 ?_
        refine x_aload_n C dX11_overdue_30 rfl ?_
        refine x_get (.ref (b + 7)) C fl_X11_24 (C_PD hw) rfl dX11_overdue_31 ?_
        refine x_get (.ref (b + (7 + 3))) C fl_X11_260 (C_Led led7 hw) rfl dX11_overdue_34 ?_
        refine x_iload_n C dX11_overdue_37 rfl ?_
        obtain ⟨h5, hF⟩ := asr_e hF
        obtain ⟨hn6, hl7⟩ := vpn h5 (by decide)
        refine x_aald 5 C (C_invoices led7 hw) rfl hn6 hl7 (by decide) rfl dX11_overdue_38 ?_
        refine x_get (.int (ν.1 (7 + (62 + 2 * (cl x3))) 2)) C fl_X11_269 (C_Inv (mk_Inv led7 hl7) hw) rfl dX11_overdue_39 ?_
        refine x_isub C dX11_overdue_42 ?_
        refine x_iload_n C dX11_overdue_43 rfl ?_
        refine x_icmp_lt 61 C dX11_overdue_44 (by decide) (fun c8 => ?_) (fun c8 => ?_)
        · have hF := ite_t hF c8
          refine x_iinc (x3 + (1 : Int32)) [(3, .int (x3 + (1 : Int32))), (0, .ref (b + 0)), (1, .int a1), (2, .int x2)] C dX11_overdue_61 rfl rfl (by decide) rfl ?_
          refine x_goto 12 C dX11_overdue_64 (by decide) ?_
          refine x_sub [(0, .ref (b + 0)), (1, .int a1), (2, .int x2), (3, .int (x3 + (1 : Int32)))] [1, 2, 3, 0] rfl ?_
          exact ih12 x2 (x3 + (1 : Int32)) _ _ hw hS hF
        · have hF := ite_f hF c8
          refine x_aload_n C dX11_overdue_47 rfl ?_
          refine x_get (.ref (b + 2626)) C fl_X11_52 (C_PD hw) rfl dX11_overdue_48 ?_
          refine x_iload_n C dX11_overdue_51 rfl ?_
          obtain ⟨q9, hq10, hF⟩ := bnd_e hF
          refine x_goR (fun ls h => x_runV (As := [.int x3]) [] h C ml_X11_288 (k_X0_openAmount l D cA s0 z b ν hG x3 q9 hq10) ⟨rfl, rfl, nb rfl, nb rfl⟩ rfl (C_Acc hw) rfl hw (nb rfl) ⟨nb rfl, nb rfl⟩ dX11_overdue_52) ?_
          refine x_if_le 61 C dX11_overdue_55 (by decide) (fun c11 => ?_) (fun c11 => ?_)
          · have hF := ite_t hF c11
            refine x_iinc (x3 + (1 : Int32)) [(3, .int (x3 + (1 : Int32))), (0, .ref (b + 0)), (1, .int a1), (2, .int x2)] C dX11_overdue_61 rfl rfl (by decide) rfl ?_
            refine x_goto 12 C dX11_overdue_64 (by decide) ?_
            refine x_sub [(0, .ref (b + 0)), (1, .int a1), (2, .int x2), (3, .int (x3 + (1 : Int32)))] [1, 2, 3, 0] rfl ?_
            exact ih12 x2 (x3 + (1 : Int32)) _ _ hw hS hF
          · have hF := ite_f hF c11
            refine x_iinc (x2 + (1 : Int32)) [(2, .int (x2 + (1 : Int32))), (0, .ref (b + 0)), (1, .int a1), (3, .int x3)] C dX11_overdue_58 rfl rfl (by decide) rfl ?_
            refine x_iinc (x3 + (1 : Int32)) [(3, .int (x3 + (1 : Int32))), (2, .int (x2 + (1 : Int32))), (0, .ref (b + 0)), (1, .int a1)] C dX11_overdue_61 rfl rfl (by decide) rfl ?_
            refine x_goto 12 C dX11_overdue_64 (by decide) ?_
            refine x_sub [(0, .ref (b + 0)), (1, .int a1), (2, .int (x2 + (1 : Int32))), (3, .int (x3 + (1 : Int32)))] [2, 3, 1, 0] rfl ?_
            exact ih12 (x2 + (1 : Int32)) (x3 + (1 : Int32)) _ _ hw hS hF
  refine x_iload_n C dX11_overdue_0 rfl ?_
  refine x_iconst (0 : Int32) C dX11_overdue_1 rfl ?_
  refine x_sipush (3599 : Int32) C dX11_overdue_2 rfl ?_
  obtain ⟨q1, hq2, hF⟩ := bnd_e hF
  refine t_goT (fun ls h => t_runS (As := [.int a1, .int (0 : Int32), .int (3599 : Int32)]) [] h C ml_X11_76 (k_X11_requireRange l D cA s0 z b ν _ hG a1 (0 : Int32) (3599 : Int32) q1 hq2) ⟨rfl, rfl, nb rfl, nb rfl⟩ rfl ⟨rfl, hw⟩ (nb rfl) ⟨nb rfl, nb rfl⟩ dX11_overdue_5) hF hS (xA_le hS) C hX (fun _ h => h) (nb rfl) (nb rfl) (fun q3 hF H locs hw hS => ?_)
  refine x_widen (k := 1) (n := 6) (nb rfl) (nb rfl) ?_
  have hw : WC D cA s0 z b ν H := hw
  refine x_iconst (0 : Int32) C dX11_overdue_8 rfl ?_
  refine x_istore_n [(2, .int (0 : Int32)), (0, .ref (b + 0)), (1, .int a1)] C dX11_overdue_9 rfl (by decide) rfl ?_
  refine x_iconst (0 : Int32) C dX11_overdue_10 rfl ?_
  refine x_istore_n [(3, .int (0 : Int32)), (2, .int (0 : Int32)), (0, .ref (b + 0)), (1, .int a1)] C dX11_overdue_11 rfl (by decide) rfl ?_
  refine x_sub [(0, .ref (b + 0)), (1, .int a1), (2, .int (0 : Int32)), (3, .int (0 : Int32))] [2, 3, 1, 0] rfl ?_
  exact h_L12 10000 (0 : Int32) (0 : Int32) _ _ hw hS hF
noncomputable def g_X11_revenue_L16 (ν : Mm) (a1 : Int32) (a2 : Int32) : Nat → Int64 → Int32 → Option (Thr Int64)
  | 0, _, _ => none
  | n + 1, x3, x5 => (if (ν.1 7 7) ≤ x5 then some (.ok x3) else asr (vp_in x5 60) (bnd (g_X4_stands ν (7 + (62 + 2 * (cl x5))) a2) (fun q11 => (if q11 = true then asr (vp_in (ν.1 (7 + (62 + 2 * (cl x5))) 1) 40) (bnd (g_X2_year ν (7 + (22 + (cl (ν.1 (7 + (62 + 2 * (cl x5))) 1))))) (fun q17 => (if q17 = a1 then asr (vp_in a2 4) ((g_X11_revenue_L16 ν a1 a2 n (x3 + ((ν.1 ((7 + (62 + 2 * (cl x5))) + 1) (cl a2)).toInt64)) (x5 + (1 : Int32)))) else (g_X11_revenue_L16 ν a1 a2 n x3 (x5 + (1 : Int32)))))) else (g_X11_revenue_L16 ν a1 a2 n x3 (x5 + (1 : Int32)))))))
noncomputable def g_X11_revenue (ν : Mm) (a1 : Int32) (a2 : Int32) : Option (Thr Int64) := bnd (g_X11_requireRange ν a1 (0 : Int32) (9 : Int32)) (fun q1 => bnx q1 (fun q3 => bnd (g_X11_requireLine ν a2) (fun q4 => bnx q4 (fun q6 => (g_X11_revenue_L16 ν a1 a2 10000 (0 : Int64) (0 : Int32))))))
set_option maxRecDepth 20000 in
set_option maxHeartbeats 4000000 in
theorem k_X11_revenue (l : Launch) (D : va_G) (cA : Nat → ClassId) (s0 : State) (z : Nat) (b : Nat) (ν : Mm) (sz : Nat) (hG : xG l D cA s0) (a1 : Int32) (a2 : Int32) (r : Thr Int64) (hF : g_X11_revenue ν a1 a2 = some r) : vx_Met l yX11_revenue (wsG yX11_revenue cX11_revenue 7 (some (FieldType.long))) { frames := 10, cells := 2, slots := 12, locals := 195 } (xP D cA s0 [.ref (b + 0), .int a1, .int a2] (fun H => H.size = sz ∧ WC D cA s0 z b ν H)) (xQt (fun q => (some (.long q))) (fun _ H => WC D cA s0 z b ν H) (xA b 2628 sz) r) (xXt (fun H => WC D cA s0 z b ν H) (xA b 2628 sz) r) 2 12 (xA b 2628 sz) := by
  refine t_start (z := z) (b := b) (ν := ν) (s0 := s0) (own := RX11) [(0, .ref (b + 0)), (1, .int a1), (2, .int a2)] rfl rfl (by decide) (nb rfl) ?_
  intro p e s m args below meth c C hX hw
  obtain ⟨hsz, hw⟩ := hw
  subst hsz
  have hS : va_S (xA b 2628 s.heap.size) s.heap s.heap [] := va_S.rf
  have h_L16 : ∀ (n : Nat) (x3 : Int64) (x5 : Int32) (H : Heap) (locs : List Loc) (hw : WC D cA s0 z b ν H) (hS : va_S (xA b 2628 s.heap.size) s.heap H locs), g_X11_revenue_L16 ν a1 a2 n x3 x5 = some r → xW p l e { frames := 10, cells := 2, slots := 12, locals := 195 } s m args below meth c 7 (vx_MQ below (xQt (fun q => (some (.long q))) (fun _ H => WC D cA s0 z b ν H) (xA b 2628 s.heap.size) r) (xXt (fun H => WC D cA s0 z b ν H) (xA b 2628 s.heap.size) r) args s 2 12 (xA b 2628 s.heap.size)) H locs 2 12 16 [(0, .ref (b + 0)), (1, .int a1), (2, .int a2), (3, .long x3), (5, .int x5)] [] := by
    intro n
    induction n with
    | zero =>
      intro x3 x5 H locs hw hS hF
      exact no_some hF
    | succ n ih =>
      intro x3 x5 H locs hw hS hF
      have ih16 := ih
      refine x_iload C dX11_revenue_16 rfl ?_
      refine x_aload_n C dX11_revenue_18 rfl ?_
      refine x_get (.ref (b + 7)) C fl_X11_24 (C_PD hw) rfl dX11_revenue_19 ?_
      refine x_get (.int (ν.1 7 7)) C fl_X11_106 (C_Led led7 hw) rfl dX11_revenue_22 ?_
      refine x_icmp_ge 86 C dX11_revenue_25 (by decide) (fun c7 => ?_) (fun c7 => ?_)
      · have hF := ite_t hF c7
        refine x_lload_n C dX11_revenue_86 rfl ?_
        exact t_lret C rfl dX11_revenue_87  (rt_o hF) rfl hw hS (nb rfl) (nb rfl)
      · have hF := ite_f hF c7
        refine x_aload_n C dX11_revenue_28 rfl ?_
        refine x_get (.ref (b + 7)) C fl_X11_24 (C_PD hw) rfl dX11_revenue_29 ?_
        refine x_get (.ref (b + (7 + 3))) C fl_X11_260 (C_Led led7 hw) rfl dX11_revenue_32 ?_
        refine x_iload C dX11_revenue_35 rfl ?_
        obtain ⟨h8, hF⟩ := asr_e hF
        obtain ⟨hn9, hl10⟩ := vpn h8 (by decide)
        refine x_aald 5 C (C_invoices led7 hw) rfl hn9 hl10 (by decide) rfl dX11_revenue_37 ?_
        refine x_astore [(6, .ref (b + (7 + (62 + 2 * (cl x5))))), (0, .ref (b + 0)), (1, .int a1), (2, .int a2), (3, .long x3), (5, .int x5)] C dX11_revenue_38 (by decide) rfl ?_
        refine x_aload C dX11_revenue_40 rfl ?_
        refine x_iload_n C dX11_revenue_42 rfl ?_
        obtain ⟨q11, hq12, hF⟩ := bnd_e hF
        refine x_goR (fun ls h => x_runV (As := [.int a2]) [] h C ml_X11_299 (k_X4_stands l D cA s0 z b ν hG (7 + (62 + 2 * (cl x5))) a2 q11 hq12) ⟨rfl, rfl, nb rfl, nb rfl⟩ rfl (C_Inv (mk_Inv led7 hl10) hw) rfl hw (nb rfl) ⟨nb rfl, nb rfl⟩ dX11_revenue_43) ?_
        refine x_ifB_eq 80 C dX11_revenue_46 (by decide) (fun c13 => ?_) (fun c13 => ?_)
        · have hF := ite_f hF (nbt c13)
          refine x_iinc (x5 + (1 : Int32)) [(5, .int (x5 + (1 : Int32))), (6, .ref (b + (7 + (62 + 2 * (cl x5))))), (0, .ref (b + 0)), (1, .int a1), (2, .int a2), (3, .long x3)] C dX11_revenue_80 rfl rfl (by decide) rfl ?_
          refine x_goto 16 C dX11_revenue_83 (by decide) ?_
          refine x_sub [(0, .ref (b + 0)), (1, .int a1), (2, .int a2), (3, .long x3), (5, .int (x5 + (1 : Int32)))] [2, 3, 4, 5, 0] rfl ?_
          exact ih16 x3 (x5 + (1 : Int32)) _ _ hw hS hF
        · have hF := ite_t hF c13
          refine x_aload_n C dX11_revenue_49 rfl ?_
          refine x_get (.ref (b + 7)) C fl_X11_24 (C_PD hw) rfl dX11_revenue_50 ?_
          refine x_get (.ref (b + (7 + 2))) C fl_X11_202 (C_Led led7 hw) rfl dX11_revenue_53 ?_
          refine x_aload C dX11_revenue_56 rfl ?_
          refine x_get (.int (ν.1 (7 + (62 + 2 * (cl x5))) 1)) C fl_X11_264 (C_Inv (mk_Inv led7 hl10) hw) rfl dX11_revenue_58 ?_
          obtain ⟨h14, hF⟩ := asr_e hF
          obtain ⟨hn15, hl16⟩ := vpn h14 (by decide)
          refine x_aald 4 C (C_calls led7 hw) rfl hn15 hl16 (by decide) rfl dX11_revenue_61 ?_
          obtain ⟨q17, hq18, hF⟩ := bnd_e hF
          refine x_goR (fun ls h => x_runV (As := []) [] h C ml_X11_335 (k_X2_year l D cA s0 z b ν hG (7 + (22 + (cl (ν.1 (7 + (62 + 2 * (cl x5))) 1)))) q17 hq18) ⟨rfl, rfl, nb rfl, nb rfl⟩ rfl (C_Cal (mk_Cal led7 hl16) hw) rfl hw (nb rfl) ⟨nb rfl, nb rfl⟩ dX11_revenue_62) ?_
          refine x_iload_n C dX11_revenue_65 rfl ?_
          refine x_icmp_ne 80 C dX11_revenue_66 (by decide) (fun c19 => ?_) (fun c19 => ?_)
          · have hF := ite_f hF c19
            refine x_iinc (x5 + (1 : Int32)) [(5, .int (x5 + (1 : Int32))), (6, .ref (b + (7 + (62 + 2 * (cl x5))))), (0, .ref (b + 0)), (1, .int a1), (2, .int a2), (3, .long x3)] C dX11_revenue_80 rfl rfl (by decide) rfl ?_
            refine x_goto 16 C dX11_revenue_83 (by decide) ?_
            refine x_sub [(0, .ref (b + 0)), (1, .int a1), (2, .int a2), (3, .long x3), (5, .int (x5 + (1 : Int32)))] [2, 3, 4, 5, 0] rfl ?_
            exact ih16 x3 (x5 + (1 : Int32)) _ _ hw hS hF
          · have hF := ite_t hF c19
            refine x_lload_n C dX11_revenue_69 rfl ?_
            refine x_aload C dX11_revenue_70 rfl ?_
            refine x_get (.ref (b + ((7 + (62 + 2 * (cl x5))) + 1))) C fl_X11_282 (C_Inv (mk_Inv led7 hl10) hw) rfl dX11_revenue_72 ?_
            refine x_iload_n C dX11_revenue_75 rfl ?_
            obtain ⟨h20, hF⟩ := asr_e hF
            obtain ⟨hn21, hl22⟩ := vpn h20 (by decide)
            refine x_ialdN C (C_amounts (mk_Inv led7 hl10) hw) hn21 hl22 (by decide) dX11_revenue_76 ?_
            refine x_i2l C dX11_revenue_77 ?_
            refine x_ladd C dX11_revenue_78 ?_
            refine x_lstore_n [(3, .long (x3 + ((ν.1 ((7 + (62 + 2 * (cl x5))) + 1) (cl a2)).toInt64))), (6, .ref (b + (7 + (62 + 2 * (cl x5))))), (0, .ref (b + 0)), (1, .int a1), (2, .int a2), (5, .int x5)] C dX11_revenue_79 rfl (by decide) rfl ?_
            refine x_iinc (x5 + (1 : Int32)) [(5, .int (x5 + (1 : Int32))), (3, .long (x3 + ((ν.1 ((7 + (62 + 2 * (cl x5))) + 1) (cl a2)).toInt64))), (6, .ref (b + (7 + (62 + 2 * (cl x5))))), (0, .ref (b + 0)), (1, .int a1), (2, .int a2)] C dX11_revenue_80 rfl rfl (by decide) rfl ?_
            refine x_goto 16 C dX11_revenue_83 (by decide) ?_
            refine x_sub [(0, .ref (b + 0)), (1, .int a1), (2, .int a2), (3, .long (x3 + ((ν.1 ((7 + (62 + 2 * (cl x5))) + 1) (cl a2)).toInt64))), (5, .int (x5 + (1 : Int32)))] [3, 4, 5, 1, 0] rfl ?_
            exact ih16 (x3 + ((ν.1 ((7 + (62 + 2 * (cl x5))) + 1) (cl a2)).toInt64)) (x5 + (1 : Int32)) _ _ hw hS hF
  refine x_iload_n C dX11_revenue_0 rfl ?_
  refine x_iconst (0 : Int32) C dX11_revenue_1 rfl ?_
  refine x_bipush (9 : Int32) C dX11_revenue_2 rfl ?_
  obtain ⟨q1, hq2, hF⟩ := bnd_e hF
  refine t_goT (fun ls h => t_runS (As := [.int a1, .int (0 : Int32), .int (9 : Int32)]) [] h C ml_X11_76 (k_X11_requireRange l D cA s0 z b ν _ hG a1 (0 : Int32) (9 : Int32) q1 hq2) ⟨rfl, rfl, nb rfl, nb rfl⟩ rfl ⟨rfl, hw⟩ (nb rfl) ⟨nb rfl, nb rfl⟩ dX11_revenue_4) hF hS (xA_le hS) C hX (fun _ h => h) (nb rfl) (nb rfl) (fun q3 hF H locs hw hS => ?_)
  refine x_widen (k := 1) (n := 6) (nb rfl) (nb rfl) ?_
  have hw : WC D cA s0 z b ν H := hw
  refine x_iload_n C dX11_revenue_7 rfl ?_
  obtain ⟨q4, hq5, hF⟩ := bnd_e hF
  refine t_goT (fun ls h => t_runS (As := [.int a2]) [] h C ml_X11_247 (k_X11_requireLine l D cA s0 z b ν _ hG a2 q4 hq5) ⟨rfl, rfl, nb rfl, nb rfl⟩ rfl ⟨rfl, hw⟩ (nb rfl) ⟨nb rfl, nb rfl⟩ dX11_revenue_8) hF hS (xA_le hS) C hX (fun _ h => h) (nb rfl) (nb rfl) (fun q6 hF H locs hw hS => ?_)
  refine x_widen (k := 2) (n := 12) (nb rfl) (nb rfl) ?_
  have hw : WC D cA s0 z b ν H := hw
  refine x_lconst (0 : Int64) C dX11_revenue_11 rfl ?_
  refine x_lstore_n [(3, .long (0 : Int64)), (0, .ref (b + 0)), (1, .int a1), (2, .int a2)] C dX11_revenue_12 rfl (by decide) rfl ?_
  refine x_iconst (0 : Int32) C dX11_revenue_13 rfl ?_
  refine x_istore [(5, .int (0 : Int32)), (3, .long (0 : Int64)), (0, .ref (b + 0)), (1, .int a1), (2, .int a2)] C dX11_revenue_14 (by decide) rfl ?_
  refine x_sub [(0, .ref (b + 0)), (1, .int a1), (2, .int a2), (3, .long (0 : Int64)), (5, .int (0 : Int32))] [2, 3, 4, 1, 0] rfl ?_
  exact h_L16 10000 (0 : Int64) (0 : Int32) _ _ hw hS hF
noncomputable def g_X11_rebates_L17 (ν : Mm) (a1 : Int32) (a2 : Int32) : Nat → Int64 → Int32 → Option (Thr Int64)
  | 0, _, _ => none
  | n + 1, x3, x5 => (if (ν.1 7 6) ≤ x5 then some (.ok x3) else asr (vp_in x5 40) ((if (ν.1 (7 + (22 + (cl x5))) 0) = a1 then bnd (g_X2_year ν (7 + (22 + (cl x5)))) (fun q12 => (if q12 = a2 then bnd (g_X5_present ν 7) (fun q15 => asr (isTar q15) (bnd (g_X5_rankOf ν 7 x5) (fun q18 => bnd (g_X5_lineAtRank ν 7 q15 x5 (1 : Int32) q18) (fun q20 => (g_X11_rebates_L17 ν a1 a2 n (x3 + q20.toInt64) (x5 + (1 : Int32))))))) else (g_X11_rebates_L17 ν a1 a2 n x3 (x5 + (1 : Int32))))) else (g_X11_rebates_L17 ν a1 a2 n x3 (x5 + (1 : Int32))))))
noncomputable def g_X11_rebates (ν : Mm) (a1 : Int32) (a2 : Int32) : Option (Thr Int64) := bnd (g_X11_requireShip ν a1) (fun q1 => bnx q1 (fun q3 => bnd (g_X11_requireRange ν a2 (0 : Int32) (9 : Int32)) (fun q4 => bnx q4 (fun q6 => (g_X11_rebates_L17 ν a1 a2 10000 (0 : Int64) (0 : Int32))))))
set_option maxRecDepth 20000 in
set_option maxHeartbeats 4000000 in
theorem k_X11_rebates (l : Launch) (D : va_G) (cA : Nat → ClassId) (s0 : State) (z : Nat) (b : Nat) (ν : Mm) (sz : Nat) (hG : xG l D cA s0) (a1 : Int32) (a2 : Int32) (r : Thr Int64) (hF : g_X11_rebates ν a1 a2 = some r) : vx_Met l yX11_rebates (wsG yX11_rebates cX11_rebates 7 (some (FieldType.long))) { frames := 9, cells := 2, slots := 12, locals := 175 } (xP D cA s0 [.ref (b + 0), .int a1, .int a2] (fun H => H.size = sz ∧ WC D cA s0 z b ν H)) (xQt (fun q => (some (.long q))) (fun _ H => WC D cA s0 z b ν H) (xA b 2628 sz) r) (xXt (fun H => WC D cA s0 z b ν H) (xA b 2628 sz) r) 2 12 (xA b 2628 sz) := by
  refine t_start (z := z) (b := b) (ν := ν) (s0 := s0) (own := RX11) [(0, .ref (b + 0)), (1, .int a1), (2, .int a2)] rfl rfl (by decide) (nb rfl) ?_
  intro p e s m args below meth c C hX hw
  obtain ⟨hsz, hw⟩ := hw
  subst hsz
  have hS : va_S (xA b 2628 s.heap.size) s.heap s.heap [] := va_S.rf
  have h_L17 : ∀ (n : Nat) (x3 : Int64) (x5 : Int32) (H : Heap) (locs : List Loc) (hw : WC D cA s0 z b ν H) (hS : va_S (xA b 2628 s.heap.size) s.heap H locs), g_X11_rebates_L17 ν a1 a2 n x3 x5 = some r → xW p l e { frames := 9, cells := 2, slots := 12, locals := 175 } s m args below meth c 7 (vx_MQ below (xQt (fun q => (some (.long q))) (fun _ H => WC D cA s0 z b ν H) (xA b 2628 s.heap.size) r) (xXt (fun H => WC D cA s0 z b ν H) (xA b 2628 s.heap.size) r) args s 2 12 (xA b 2628 s.heap.size)) H locs 2 12 17 [(0, .ref (b + 0)), (1, .int a1), (2, .int a2), (3, .long x3), (5, .int x5)] [] := by
    intro n
    induction n with
    | zero =>
      intro x3 x5 H locs hw hS hF
      exact no_some hF
    | succ n ih =>
      intro x3 x5 H locs hw hS hF
      have ih17 := ih
      refine x_iload C dX11_rebates_17 rfl ?_
      refine x_aload_n C dX11_rebates_19 rfl ?_
      refine x_get (.ref (b + 7)) C fl_X11_24 (C_PD hw) rfl dX11_rebates_20 ?_
      refine x_get (.int (ν.1 7 6)) C fl_X11_103 (C_Led led7 hw) rfl dX11_rebates_23 ?_
      refine x_icmp_ge 95 C dX11_rebates_26 (by decide) (fun c7 => ?_) (fun c7 => ?_)
      · have hF := ite_t hF c7
        refine x_lload_n C dX11_rebates_95 rfl ?_
        exact t_lret C rfl dX11_rebates_96  (rt_o hF) rfl hw hS (nb rfl) (nb rfl)
      · have hF := ite_f hF c7
        refine x_aload_n C dX11_rebates_29 rfl ?_
        refine x_get (.ref (b + 7)) C fl_X11_24 (C_PD hw) rfl dX11_rebates_30 ?_
        refine x_get (.ref (b + (7 + 2))) C fl_X11_202 (C_Led led7 hw) rfl dX11_rebates_33 ?_
        refine x_iload C dX11_rebates_36 rfl ?_
        obtain ⟨h8, hF⟩ := asr_e hF
        obtain ⟨hn9, hl10⟩ := vpn h8 (by decide)
        refine x_aald 4 C (C_calls led7 hw) rfl hn9 hl10 (by decide) rfl dX11_rebates_38 ?_
        refine x_astore [(6, .ref (b + (7 + (22 + (cl x5))))), (0, .ref (b + 0)), (1, .int a1), (2, .int a2), (3, .long x3), (5, .int x5)] C dX11_rebates_39 (by decide) rfl ?_
        refine x_aload C dX11_rebates_41 rfl ?_
        refine x_get (.int (ν.1 (7 + (22 + (cl x5))) 0)) C fl_X11_206 (C_Cal (mk_Cal led7 hl10) hw) rfl dX11_rebates_43 ?_
        refine x_iload_n C dX11_rebates_46 rfl ?_
        refine x_icmp_ne 89 C dX11_rebates_47 (by decide) (fun c11 => ?_) (fun c11 => ?_)
        · have hF := ite_f hF c11
          refine x_iinc (x5 + (1 : Int32)) [(5, .int (x5 + (1 : Int32))), (6, .ref (b + (7 + (22 + (cl x5))))), (0, .ref (b + 0)), (1, .int a1), (2, .int a2), (3, .long x3)] C dX11_rebates_89 rfl rfl (by decide) rfl ?_
          refine x_goto 17 C dX11_rebates_92 (by decide) ?_
          refine x_sub [(0, .ref (b + 0)), (1, .int a1), (2, .int a2), (3, .long x3), (5, .int (x5 + (1 : Int32)))] [2, 3, 4, 5, 0] rfl ?_
          exact ih17 x3 (x5 + (1 : Int32)) _ _ hw hS hF
        · have hF := ite_t hF c11
          refine x_aload C dX11_rebates_50 rfl ?_
          obtain ⟨q12, hq13, hF⟩ := bnd_e hF
          refine x_goR (fun ls h => x_runV (As := []) [] h C ml_X11_335 (k_X2_year l D cA s0 z b ν hG (7 + (22 + (cl x5))) q12 hq13) ⟨rfl, rfl, nb rfl, nb rfl⟩ rfl (C_Cal (mk_Cal led7 hl10) hw) rfl hw (nb rfl) ⟨nb rfl, nb rfl⟩ dX11_rebates_52) ?_
          refine x_iload_n C dX11_rebates_55 rfl ?_
          refine x_icmp_ne 89 C dX11_rebates_56 (by decide) (fun c14 => ?_) (fun c14 => ?_)
          · have hF := ite_f hF c14
            refine x_iinc (x5 + (1 : Int32)) [(5, .int (x5 + (1 : Int32))), (6, .ref (b + (7 + (22 + (cl x5))))), (0, .ref (b + 0)), (1, .int a1), (2, .int a2), (3, .long x3)] C dX11_rebates_89 rfl rfl (by decide) rfl ?_
            refine x_goto 17 C dX11_rebates_92 (by decide) ?_
            refine x_sub [(0, .ref (b + 0)), (1, .int a1), (2, .int a2), (3, .long x3), (5, .int (x5 + (1 : Int32)))] [2, 3, 4, 5, 0] rfl ?_
            exact ih17 x3 (x5 + (1 : Int32)) _ _ hw hS hF
          · have hF := ite_t hF c14
            refine x_lload_n C dX11_rebates_59 rfl ?_
            refine x_aload_n C dX11_rebates_60 rfl ?_
            refine x_get (.ref (b + 7)) C fl_X11_24 (C_PD hw) rfl dX11_rebates_61 ?_
            refine x_iload C dX11_rebates_64 rfl ?_
            refine x_iconst (1 : Int32) C dX11_rebates_66 rfl ?_
            refine x_aload_n C dX11_rebates_67 rfl ?_
            refine x_get (.ref (b + 7)) C fl_X11_24 (C_PD hw) rfl dX11_rebates_68 ?_
            obtain ⟨q15, hq16, hF⟩ := bnd_e hF
            refine x_goR (fun ls h => x_runV (As := []) [.int (1 : Int32), .int x5, .ref (b + 7), .long x3] h C ml_X11_118 (k_X5_present l D cA s0 z b ν hG 7 q15 hq16) ⟨rfl, rfl, nb rfl, nb rfl⟩ rfl (C_Led led7 hw) rfl hw (nb rfl) ⟨nb rfl, nb rfl⟩ dX11_rebates_71) ?_
            obtain ⟨h17, hF⟩ := asr_e hF
            refine x_aload_n C dX11_rebates_74 rfl ?_
            refine x_get (.ref (b + 7)) C fl_X11_24 (C_PD hw) rfl dX11_rebates_75 ?_
            refine x_iload C dX11_rebates_78 rfl ?_
            obtain ⟨q18, hq19, hF⟩ := bnd_e hF
            refine x_goR (fun ls h => x_runV (As := [.int x5]) [.ref (b + q15), .int (1 : Int32), .int x5, .ref (b + 7), .long x3] h C ml_X11_223 (k_X5_rankOf l D cA s0 z b ν hG 7 x5 q18 hq19) ⟨rfl, rfl, nb rfl, nb rfl⟩ rfl (C_Led led7 hw) rfl hw (nb rfl) ⟨nb rfl, nb rfl⟩ dX11_rebates_80) ?_
            obtain ⟨q20, hq21, hF⟩ := bnd_e hF
            refine x_goR (fun ls h => x_runV (As := [.int x5, .int (1 : Int32), .ref (b + q15), .int q18]) [.long x3] h C ml_X11_250 (k_X5_lineAtRank l D cA s0 z b ν hG 7 q15 x5 (1 : Int32) q18 q20 hq21) ⟨rfl, rfl, nb rfl, nb rfl⟩ rfl (C_Led led7 hw) rfl hw (nb rfl) ⟨nb rfl, nb rfl⟩ dX11_rebates_83) ?_
            refine x_i2l C dX11_rebates_86 ?_
            refine x_ladd C dX11_rebates_87 ?_
            refine x_lstore_n [(3, .long (x3 + q20.toInt64)), (6, .ref (b + (7 + (22 + (cl x5))))), (0, .ref (b + 0)), (1, .int a1), (2, .int a2), (5, .int x5)] C dX11_rebates_88 rfl (by decide) rfl ?_
            refine x_iinc (x5 + (1 : Int32)) [(5, .int (x5 + (1 : Int32))), (3, .long (x3 + q20.toInt64)), (6, .ref (b + (7 + (22 + (cl x5))))), (0, .ref (b + 0)), (1, .int a1), (2, .int a2)] C dX11_rebates_89 rfl rfl (by decide) rfl ?_
            refine x_goto 17 C dX11_rebates_92 (by decide) ?_
            refine x_sub [(0, .ref (b + 0)), (1, .int a1), (2, .int a2), (3, .long (x3 + q20.toInt64)), (5, .int (x5 + (1 : Int32)))] [3, 4, 5, 1, 0] rfl ?_
            exact ih17 (x3 + q20.toInt64) (x5 + (1 : Int32)) _ _ hw hS hF
  refine x_aload_n C dX11_rebates_0 rfl ?_
  refine x_iload_n C dX11_rebates_1 rfl ?_
  obtain ⟨q1, hq2, hF⟩ := bnd_e hF
  refine t_goT (fun ls h => t_runV (As := [.int a1]) [] h C ml_X11_184 (k_X11_requireShip l D cA s0 z b ν _ hG a1 q1 hq2) ⟨rfl, rfl, nb rfl, nb rfl⟩ rfl (C_PD hw) rfl ⟨rfl, hw⟩ (nb rfl) ⟨nb rfl, nb rfl⟩ dX11_rebates_2) hF hS (xA_le hS) C hX (fun _ h => h) (nb rfl) (nb rfl) (fun q3 hF H locs hw hS => ?_)
  refine x_widen (k := 1) (n := 6) (nb rfl) (nb rfl) ?_
  have hw : WC D cA s0 z b ν H := hw
  refine x_iload_n C dX11_rebates_5 rfl ?_
  refine x_iconst (0 : Int32) C dX11_rebates_6 rfl ?_
  refine x_bipush (9 : Int32) C dX11_rebates_7 rfl ?_
  obtain ⟨q4, hq5, hF⟩ := bnd_e hF
  refine t_goT (fun ls h => t_runS (As := [.int a2, .int (0 : Int32), .int (9 : Int32)]) [] h C ml_X11_76 (k_X11_requireRange l D cA s0 z b ν _ hG a2 (0 : Int32) (9 : Int32) q4 hq5) ⟨rfl, rfl, nb rfl, nb rfl⟩ rfl ⟨rfl, hw⟩ (nb rfl) ⟨nb rfl, nb rfl⟩ dX11_rebates_9) hF hS (xA_le hS) C hX (fun _ h => h) (nb rfl) (nb rfl) (fun q6 hF H locs hw hS => ?_)
  refine x_widen (k := 2) (n := 12) (nb rfl) (nb rfl) ?_
  have hw : WC D cA s0 z b ν H := hw
  refine x_lconst (0 : Int64) C dX11_rebates_12 rfl ?_
  refine x_lstore_n [(3, .long (0 : Int64)), (0, .ref (b + 0)), (1, .int a1), (2, .int a2)] C dX11_rebates_13 rfl (by decide) rfl ?_
  refine x_iconst (0 : Int32) C dX11_rebates_14 rfl ?_
  refine x_istore [(5, .int (0 : Int32)), (3, .long (0 : Int64)), (0, .ref (b + 0)), (1, .int a1), (2, .int a2)] C dX11_rebates_15 (by decide) rfl ?_
  refine x_sub [(0, .ref (b + 0)), (1, .int a1), (2, .int a2), (3, .long (0 : Int64)), (5, .int (0 : Int32))] [2, 3, 4, 1, 0] rfl ?_
  exact h_L17 10000 (0 : Int64) (0 : Int32) _ _ hw hS hF
noncomputable def g_X11_requireStay (ν : Mm) (a1 : Int32) (a2 : Int32) (a3 : Int32) : Option (Thr Unit) := bnd (g_X11_requireRange ν a1 (0 : Int32) (3599 : Int32)) (fun q1 => bnx q1 (fun q3 => bnd (g_X11_requireRange ν a2 a1 ((a1 + (30 : Int32)) - (1 : Int32))) (fun q4 => bnx q4 (fun q6 => bnd (g_X11_requireRange ν a3 (0 : Int32) (999 : Int32)) (fun q7 => bnx q7 (fun q9 => some (.ok ())))))))
set_option maxRecDepth 20000 in
set_option maxHeartbeats 4000000 in
theorem k_X11_requireStay (l : Launch) (D : va_G) (cA : Nat → ClassId) (s0 : State) (z : Nat) (b : Nat) (ν : Mm) (sz : Nat) (hG : xG l D cA s0) (a1 : Int32) (a2 : Int32) (a3 : Int32) (r : Thr Unit) (hF : g_X11_requireStay ν a1 a2 a3 = some r) : vx_Met l yX11_requireStay (wsG yX11_requireStay cX11_requireStay 3 none) { frames := 9, cells := 3, slots := 18, locals := 175 } (xP D cA s0 [.int a1, .int a2, .int a3] (fun H => H.size = sz ∧ WC D cA s0 z b ν H)) (xQt (fun q => none) (fun _ H => WC D cA s0 z b ν H) (xA b 2628 sz) r) (xXt (fun H => WC D cA s0 z b ν H) (xA b 2628 sz) r) 3 18 (xA b 2628 sz) := by
  refine t_start (z := z) (b := b) (ν := ν) (s0 := s0) (own := RX11) [(0, .int a1), (1, .int a2), (2, .int a3)] rfl rfl (by decide) (nb rfl) ?_
  intro p e s m args below meth c C hX hw
  obtain ⟨hsz, hw⟩ := hw
  subst hsz
  have hS : va_S (xA b 2628 s.heap.size) s.heap s.heap [] := va_S.rf
  refine x_iload_n C dX11_requireStay_0 rfl ?_
  refine x_iconst (0 : Int32) C dX11_requireStay_1 rfl ?_
  refine x_sipush (3599 : Int32) C dX11_requireStay_2 rfl ?_
  obtain ⟨q1, hq2, hF⟩ := bnd_e hF
  refine t_goT (fun ls h => t_runS (As := [.int a1, .int (0 : Int32), .int (3599 : Int32)]) [] h C ml_X11_76 (k_X11_requireRange l D cA s0 z b ν _ hG a1 (0 : Int32) (3599 : Int32) q1 hq2) ⟨rfl, rfl, nb rfl, nb rfl⟩ rfl ⟨rfl, hw⟩ (nb rfl) ⟨nb rfl, nb rfl⟩ dX11_requireStay_5) hF hS (xA_le hS) C hX (fun _ h => h) (nb rfl) (nb rfl) (fun q3 hF H locs hw hS => ?_)
  refine x_widen (k := 1) (n := 6) (nb rfl) (nb rfl) ?_
  have hw : WC D cA s0 z b ν H := hw
  refine x_iload_n C dX11_requireStay_8 rfl ?_
  refine x_iload_n C dX11_requireStay_9 rfl ?_
  refine x_iload_n C dX11_requireStay_10 rfl ?_
  refine x_bipush (30 : Int32) C dX11_requireStay_11 rfl ?_
  refine x_iadd C dX11_requireStay_13 ?_
  refine x_iconst (1 : Int32) C dX11_requireStay_14 rfl ?_
  refine x_isub C dX11_requireStay_15 ?_
  obtain ⟨q4, hq5, hF⟩ := bnd_e hF
  refine t_goT (fun ls h => t_runS (As := [.int a2, .int a1, .int ((a1 + (30 : Int32)) - (1 : Int32))]) [] h C ml_X11_76 (k_X11_requireRange l D cA s0 z b ν _ hG a2 a1 ((a1 + (30 : Int32)) - (1 : Int32)) q4 hq5) ⟨rfl, rfl, nb rfl, nb rfl⟩ rfl ⟨rfl, hw⟩ (nb rfl) ⟨nb rfl, nb rfl⟩ dX11_requireStay_16) hF hS (xA_le hS) C hX (fun _ h => h) (nb rfl) (nb rfl) (fun q6 hF H locs hw hS => ?_)
  refine x_widen (k := 2) (n := 12) (nb rfl) (nb rfl) ?_
  have hw : WC D cA s0 z b ν H := hw
  refine x_iload_n C dX11_requireStay_19 rfl ?_
  refine x_iconst (0 : Int32) C dX11_requireStay_20 rfl ?_
  refine x_sipush (999 : Int32) C dX11_requireStay_21 rfl ?_
  obtain ⟨q7, hq8, hF⟩ := bnd_e hF
  refine t_goT (fun ls h => t_runS (As := [.int a3, .int (0 : Int32), .int (999 : Int32)]) [] h C ml_X11_76 (k_X11_requireRange l D cA s0 z b ν _ hG a3 (0 : Int32) (999 : Int32) q7 hq8) ⟨rfl, rfl, nb rfl, nb rfl⟩ rfl ⟨rfl, hw⟩ (nb rfl) ⟨nb rfl, nb rfl⟩ dX11_requireStay_24) hF hS (xA_le hS) C hX (fun _ h => h) (nb rfl) (nb rfl) (fun q9 hF H locs hw hS => ?_)
  refine x_widen (k := 3) (n := 18) (nb rfl) (nb rfl) ?_
  have hw : WC D cA s0 z b ν H := hw
  exact t_vret C rfl dX11_requireStay_27 (rt_o hF) rfl hw hS (nb rfl) (nb rfl)
noncomputable def g_X11_quote (ν : Mm) (a1 : Int32) (a2 : Int32) (a3 : Int32) (a4 : Int32) : Option (Thr Int32) := bnd (g_X11_requireShip ν a1) (fun q1 => bnx q1 (fun q3 => bnd (g_X11_requireStay ν a2 a3 a4) (fun q4 => bnx q4 (fun q6 => bnd (g_X5_present ν 7) (fun q7 => asr (isTar q7) (asr (vp_in a1 8) (bnd (g_X10_laySet ν q7 ((a3 - a2) + (1 : Int32))) (fun q13 => bnd (g_J6_bitCount_0f7a4 q13) (fun q15 => bnd (g_X5_callsBefore ν 7 a1 a2 (40 : Int32)) (fun q17 => bnd (g_X10_duesFor ν q7 (ν.1 (7 + (6 + 2 * (cl a1))) 2)) (fun q19 => bnd (g_X10_rebateFor ν q7 (ν.1 (7 + (6 + 2 * (cl a1))) 2) ((1 : Int32) + q17)) (fun q21 => bnd (g_X10_wasteFeeFor ν q7 a4) (fun q23 => some (.ok (((q19 + q21) + q23) + ((ν.1 q7 11) * q15))))))))))))))))
set_option maxRecDepth 20000 in
set_option maxHeartbeats 4000000 in
theorem k_X11_quote (l : Launch) (D : va_G) (cA : Nat → ClassId) (s0 : State) (z : Nat) (b : Nat) (ν : Mm) (sz : Nat) (hG : xG l D cA s0) (a1 : Int32) (a2 : Int32) (a3 : Int32) (a4 : Int32) (r : Thr Int32) (hF : g_X11_quote ν a1 a2 a3 a4 = some r) : vx_Met l yX11_quote (wsG yX11_quote cX11_quote 9 (some (FieldType.int))) { frames := 10, cells := 4, slots := 24, locals := 197 } (xP D cA s0 [.ref (b + 0), .int a1, .int a2, .int a3, .int a4] (fun H => H.size = sz ∧ WC D cA s0 z b ν H)) (xQt (fun q => (some (.int q))) (fun _ H => WC D cA s0 z b ν H) (xA b 2628 sz) r) (xXt (fun H => WC D cA s0 z b ν H) (xA b 2628 sz) r) 4 24 (xA b 2628 sz) := by
  refine t_start (z := z) (b := b) (ν := ν) (s0 := s0) (own := RX11) [(0, .ref (b + 0)), (1, .int a1), (2, .int a2), (3, .int a3), (4, .int a4)] rfl rfl (by decide) (nb rfl) ?_
  intro p e s m args below meth c C hX hw
  obtain ⟨hsz, hw⟩ := hw
  subst hsz
  have hS : va_S (xA b 2628 s.heap.size) s.heap s.heap [] := va_S.rf
  refine x_aload_n C dX11_quote_0 rfl ?_
  refine x_iload_n C dX11_quote_1 rfl ?_
  obtain ⟨q1, hq2, hF⟩ := bnd_e hF
  refine t_goT (fun ls h => t_runV (As := [.int a1]) [] h C ml_X11_184 (k_X11_requireShip l D cA s0 z b ν _ hG a1 q1 hq2) ⟨rfl, rfl, nb rfl, nb rfl⟩ rfl (C_PD hw) rfl ⟨rfl, hw⟩ (nb rfl) ⟨nb rfl, nb rfl⟩ dX11_quote_2) hF hS (xA_le hS) C hX (fun _ h => h) (nb rfl) (nb rfl) (fun q3 hF H locs hw hS => ?_)
  refine x_widen (k := 1) (n := 6) (nb rfl) (nb rfl) ?_
  have hw : WC D cA s0 z b ν H := hw
  refine x_iload_n C dX11_quote_5 rfl ?_
  refine x_iload_n C dX11_quote_6 rfl ?_
  refine x_iload C dX11_quote_7 rfl ?_
  obtain ⟨q4, hq5, hF⟩ := bnd_e hF
  refine t_goT (fun ls h => t_runS (As := [.int a2, .int a3, .int a4]) [] h C ml_X11_338 (k_X11_requireStay l D cA s0 z b ν _ hG a2 a3 a4 q4 hq5) ⟨rfl, rfl, nb rfl, nb rfl⟩ rfl ⟨rfl, hw⟩ (nb rfl) ⟨nb rfl, nb rfl⟩ dX11_quote_9) hF hS (xA_le hS) C hX (fun _ h => h) (nb rfl) (nb rfl) (fun q6 hF H locs hw hS => ?_)
  refine x_widen (k := 4) (n := 24) (nb rfl) (nb rfl) ?_
  have hw : WC D cA s0 z b ν H := hw
  refine x_aload_n C dX11_quote_12 rfl ?_
  refine x_get (.ref (b + 7)) C fl_X11_24 (C_PD hw) rfl dX11_quote_13 ?_
  obtain ⟨q7, hq8, hF⟩ := bnd_e hF
  refine x_goR (fun ls h => x_runV (As := []) [] h C ml_X11_118 (k_X5_present l D cA s0 z b ν hG 7 q7 hq8) ⟨rfl, rfl, nb rfl, nb rfl⟩ rfl (C_Led led7 hw) rfl hw (nb rfl) ⟨nb rfl, nb rfl⟩ dX11_quote_16) ?_
  obtain ⟨h9, hF⟩ := asr_e hF
  refine x_astore [(5, .ref (b + q7)), (0, .ref (b + 0)), (1, .int a1), (2, .int a2), (3, .int a3), (4, .int a4)] C dX11_quote_19 (by decide) rfl ?_
  refine x_aload_n C dX11_quote_21 rfl ?_
  refine x_get (.ref (b + 7)) C fl_X11_24 (C_PD hw) rfl dX11_quote_22 ?_
  refine x_get (.ref (b + (7 + 1))) C fl_X11_187 (C_Led led7 hw) rfl dX11_quote_25 ?_
  refine x_iload_n C dX11_quote_28 rfl ?_
  obtain ⟨h10, hF⟩ := asr_e hF
  obtain ⟨hn11, hl12⟩ := vpn h10 (by decide)
  refine x_aald 3 C (C_ships led7 hw) rfl hn11 hl12 (by decide) rfl dX11_quote_29 ?_
  refine x_get (.int (ν.1 (7 + (6 + 2 * (cl a1))) 2)) C fl_X11_191 (C_Ship (mk_Ship led7 hl12) hw) rfl dX11_quote_30 ?_
  refine x_istore [(6, .int (ν.1 (7 + (6 + 2 * (cl a1))) 2)), (5, .ref (b + q7)), (0, .ref (b + 0)), (1, .int a1), (2, .int a2), (3, .int a3), (4, .int a4)] C dX11_quote_33 (by decide) rfl ?_
  refine x_aload C dX11_quote_35 rfl ?_
  refine x_iload_n C dX11_quote_37 rfl ?_
  refine x_iload_n C dX11_quote_38 rfl ?_
  refine x_isub C dX11_quote_39 ?_
  refine x_iconst (1 : Int32) C dX11_quote_40 rfl ?_
  refine x_iadd C dX11_quote_41 ?_
  obtain ⟨q13, hq14, hF⟩ := bnd_e hF
  refine x_goR (fun ls h => x_runV (As := [.int ((a3 - a2) + (1 : Int32))]) [] h C ml_X11_341 (k_X10_laySet l D cA s0 z b ν hG q7 ((a3 - a2) + (1 : Int32)) q13 hq14) ⟨rfl, rfl, nb rfl, nb rfl⟩ rfl (C_Tar h9 hw) rfl hw (nb rfl) ⟨nb rfl, nb rfl⟩ dX11_quote_42) ?_
  obtain ⟨q15, hq16, hF⟩ := bnd_e hF
  refine x_goR (fun ls h => x_runS (As := [.int q13]) [] h C ml_X11_305 (k_J6_bitCount_0f7a4 l D cA s0 z hG q13 q15 hq16) ⟨rfl, rfl, nb rfl, nb rfl⟩ rfl trivial (nb rfl) ⟨nb rfl, nb rfl⟩ dX11_quote_45) ?_
  refine x_istore [(7, .int q15), (6, .int (ν.1 (7 + (6 + 2 * (cl a1))) 2)), (5, .ref (b + q7)), (0, .ref (b + 0)), (1, .int a1), (2, .int a2), (3, .int a3), (4, .int a4)] C dX11_quote_48 (by decide) rfl ?_
  refine x_iconst (1 : Int32) C dX11_quote_50 rfl ?_
  refine x_aload_n C dX11_quote_51 rfl ?_
  refine x_get (.ref (b + 7)) C fl_X11_24 (C_PD hw) rfl dX11_quote_52 ?_
  refine x_iload_n C dX11_quote_55 rfl ?_
  refine x_iload_n C dX11_quote_56 rfl ?_
  refine x_bipush (40 : Int32) C dX11_quote_57 rfl ?_
  obtain ⟨q17, hq18, hF⟩ := bnd_e hF
  refine x_goR (fun ls h => x_runV (As := [.int a1, .int a2, .int (40 : Int32)]) [.int (1 : Int32)] h C ml_X11_344 (k_X5_callsBefore l D cA s0 z b ν hG 7 a1 a2 (40 : Int32) q17 hq18) ⟨rfl, rfl, nb rfl, nb rfl⟩ rfl (C_Led led7 hw) rfl hw (nb rfl) ⟨nb rfl, nb rfl⟩ dX11_quote_59) ?_
  refine x_iadd C dX11_quote_62 ?_
  refine x_istore [(8, .int ((1 : Int32) + q17)), (7, .int q15), (6, .int (ν.1 (7 + (6 + 2 * (cl a1))) 2)), (5, .ref (b + q7)), (0, .ref (b + 0)), (1, .int a1), (2, .int a2), (3, .int a3), (4, .int a4)] C dX11_quote_63 (by decide) rfl ?_
  refine x_aload C dX11_quote_65 rfl ?_
  refine x_iload C dX11_quote_67 rfl ?_
  obtain ⟨q19, hq20, hF⟩ := bnd_e hF
  refine x_goR (fun ls h => x_runV (As := [.int (ν.1 (7 + (6 + 2 * (cl a1))) 2)]) [] h C ml_X11_174 (k_X10_duesFor l D cA s0 z b ν hG q7 (ν.1 (7 + (6 + 2 * (cl a1))) 2) q19 hq20) ⟨rfl, rfl, nb rfl, nb rfl⟩ rfl (C_Tar h9 hw) rfl hw (nb rfl) ⟨nb rfl, nb rfl⟩ dX11_quote_69) ?_
  refine x_aload C dX11_quote_72 rfl ?_
  refine x_iload C dX11_quote_74 rfl ?_
  refine x_iload C dX11_quote_76 rfl ?_
  obtain ⟨q21, hq22, hF⟩ := bnd_e hF
  refine x_goR (fun ls h => x_runV (As := [.int (ν.1 (7 + (6 + 2 * (cl a1))) 2), .int ((1 : Int32) + q17)]) [.int q19] h C ml_X11_348 (k_X10_rebateFor l D cA s0 z b ν hG q7 (ν.1 (7 + (6 + 2 * (cl a1))) 2) ((1 : Int32) + q17) q21 hq22) ⟨rfl, rfl, nb rfl, nb rfl⟩ rfl (C_Tar h9 hw) rfl hw (nb rfl) ⟨nb rfl, nb rfl⟩ dX11_quote_78) ?_
  refine x_iadd C dX11_quote_81 ?_
  refine x_aload C dX11_quote_82 rfl ?_
  refine x_iload C dX11_quote_84 rfl ?_
  obtain ⟨q23, hq24, hF⟩ := bnd_e hF
  refine x_goR (fun ls h => x_runV (As := [.int a4]) [.int (q19 + q21)] h C ml_X11_181 (k_X10_wasteFeeFor l D cA s0 z b ν hG q7 a4 q23 hq24) ⟨rfl, rfl, nb rfl, nb rfl⟩ rfl (C_Tar h9 hw) rfl hw (nb rfl) ⟨nb rfl, nb rfl⟩ dX11_quote_86) ?_
  refine x_iadd C dX11_quote_89 ?_
  refine x_aload C dX11_quote_90 rfl ?_
  refine x_get (.int (ν.1 q7 11)) C fl_X11_150 (C_Tar h9 hw) rfl dX11_quote_92 ?_
  refine x_iload C dX11_quote_95 rfl ?_
  refine x_imul C dX11_quote_97 ?_
  refine x_iadd C dX11_quote_98 ?_
  exact t_iret C rfl dX11_quote_99  (rt_o hF) rfl hw hS (nb rfl) (nb rfl)
noncomputable def g_X11_callsToRebate_L42 (ν : Mm) (a1 : Int32) (a2 : Int32) : Nat → Nat → Int32 → Int32 → Int32 → Option (Thr Int32)
  | 0, _, _, _, _ => none
  | n + 1, x3, x4, x5, x6 => (if (99 : Int32) < x6 then some (.ok (-1 : Int32)) else bnd (g_X10_percentAt ν x3 (x4 + x6)) (fun q15 => (if q15 ≤ x5 then (g_X11_callsToRebate_L42 ν a1 a2 n x3 x4 x5 (x6 + (1 : Int32))) else some (.ok x6))))
noncomputable def g_X11_callsToRebate (ν : Mm) (a1 : Int32) (a2 : Int32) : Option (Thr Int32) := bnd (g_X11_requireShip ν a1) (fun q1 => bnx q1 (fun q3 => bnd (g_X11_requireRange ν a2 (0 : Int32) (9 : Int32)) (fun q4 => bnx q4 (fun q6 => bnd (g_X5_present ν 7) (fun q7 => asr (isTar q7) (bnd (g_X5_callsInYear ν 7 a1 a2) (fun q10 => bnd (g_X10_percentAt ν q7 q10) (fun q12 => (g_X11_callsToRebate_L42 ν a1 a2 10000 q7 q10 q12 (1 : Int32))))))))))
set_option maxRecDepth 20000 in
set_option maxHeartbeats 4000000 in
theorem k_X11_callsToRebate (l : Launch) (D : va_G) (cA : Nat → ClassId) (s0 : State) (z : Nat) (b : Nat) (ν : Mm) (sz : Nat) (hG : xG l D cA s0) (a1 : Int32) (a2 : Int32) (r : Thr Int32) (hF : g_X11_callsToRebate ν a1 a2 = some r) : vx_Met l yX11_callsToRebate (wsG yX11_callsToRebate cX11_callsToRebate 7 (some (FieldType.int))) { frames := 9, cells := 2, slots := 12, locals := 175 } (xP D cA s0 [.ref (b + 0), .int a1, .int a2] (fun H => H.size = sz ∧ WC D cA s0 z b ν H)) (xQt (fun q => (some (.int q))) (fun _ H => WC D cA s0 z b ν H) (xA b 2628 sz) r) (xXt (fun H => WC D cA s0 z b ν H) (xA b 2628 sz) r) 2 12 (xA b 2628 sz) := by
  refine t_start (z := z) (b := b) (ν := ν) (s0 := s0) (own := RX11) [(0, .ref (b + 0)), (1, .int a1), (2, .int a2)] rfl rfl (by decide) (nb rfl) ?_
  intro p e s m args below meth c C hX hw
  obtain ⟨hsz, hw⟩ := hw
  subst hsz
  have hS : va_S (xA b 2628 s.heap.size) s.heap s.heap [] := va_S.rf
  have h_L42 : ∀ (n : Nat) (x3 : Nat) (x4 : Int32) (x5 : Int32) (x6 : Int32) (hpx3 : isTar x3) (H : Heap) (locs : List Loc) (hw : WC D cA s0 z b ν H) (hS : va_S (xA b 2628 s.heap.size) s.heap H locs), g_X11_callsToRebate_L42 ν a1 a2 n x3 x4 x5 x6 = some r → xW p l e { frames := 9, cells := 2, slots := 12, locals := 175 } s m args below meth c 7 (vx_MQ below (xQt (fun q => (some (.int q))) (fun _ H => WC D cA s0 z b ν H) (xA b 2628 s.heap.size) r) (xXt (fun H => WC D cA s0 z b ν H) (xA b 2628 s.heap.size) r) args s 2 12 (xA b 2628 s.heap.size)) H locs 2 12 42 [(3, .ref (b + x3)), (4, .int x4), (5, .int x5), (6, .int x6)] [] := by
    intro n
    induction n with
    | zero =>
      intro x3 x4 x5 x6 hpx3 H locs hw hS hF
      exact no_some hF
    | succ n ih =>
      intro x3 x4 x5 x6 hpx3 H locs hw hS hF
      have ih42 := ih
      refine x_iload C dX11_callsToRebate_42 rfl ?_
      refine x_bipush (99 : Int32) C dX11_callsToRebate_44 rfl ?_
      refine x_icmp_gt 72 C dX11_callsToRebate_46 (by decide) (fun c14 => ?_) (fun c14 => ?_)
      · have hF := ite_t hF c14
        refine x_iconst (-1 : Int32) C dX11_callsToRebate_72 rfl ?_
        exact t_iret C rfl dX11_callsToRebate_73  (rt_o hF) rfl hw hS (nb rfl) (nb rfl)
      · have hF := ite_f hF c14
        refine x_aload_n C dX11_callsToRebate_49 rfl ?_
        refine x_iload C dX11_callsToRebate_50 rfl ?_
        refine x_iload C dX11_callsToRebate_52 rfl ?_
        refine x_iadd C dX11_callsToRebate_54 ?_
        obtain ⟨q15, hq16, hF⟩ := bnd_e hF
        refine x_goR (fun ls h => x_runV (As := [.int (x4 + x6)]) [] h C ml_X11_226 (k_X10_percentAt l D cA s0 z b ν hG x3 (x4 + x6) q15 hq16) ⟨rfl, rfl, nb rfl, nb rfl⟩ rfl (C_Tar hpx3 hw) rfl hw (nb rfl) ⟨nb rfl, nb rfl⟩ dX11_callsToRebate_55) ?_
        refine x_iload C dX11_callsToRebate_58 rfl ?_
        refine x_icmp_le 66 C dX11_callsToRebate_60 (by decide) (fun c17 => ?_) (fun c17 => ?_)
        · have hF := ite_t hF c17
          refine x_iinc (x6 + (1 : Int32)) [(6, .int (x6 + (1 : Int32))), (3, .ref (b + x3)), (4, .int x4), (5, .int x5)] C dX11_callsToRebate_66 rfl rfl (by decide) rfl ?_
          refine x_goto 42 C dX11_callsToRebate_69 (by decide) ?_
          refine x_sub [(3, .ref (b + x3)), (4, .int x4), (5, .int x5), (6, .int (x6 + (1 : Int32)))] [1, 2, 3, 0] rfl ?_
          exact ih42 x3 x4 x5 (x6 + (1 : Int32)) hpx3 _ _ hw hS hF
        · have hF := ite_f hF c17
          refine x_iload C dX11_callsToRebate_63 rfl ?_
          exact t_iret C rfl dX11_callsToRebate_65  (rt_o hF) rfl hw hS (nb rfl) (nb rfl)
  refine x_aload_n C dX11_callsToRebate_0 rfl ?_
  refine x_iload_n C dX11_callsToRebate_1 rfl ?_
  obtain ⟨q1, hq2, hF⟩ := bnd_e hF
  refine t_goT (fun ls h => t_runV (As := [.int a1]) [] h C ml_X11_184 (k_X11_requireShip l D cA s0 z b ν _ hG a1 q1 hq2) ⟨rfl, rfl, nb rfl, nb rfl⟩ rfl (C_PD hw) rfl ⟨rfl, hw⟩ (nb rfl) ⟨nb rfl, nb rfl⟩ dX11_callsToRebate_2) hF hS (xA_le hS) C hX (fun _ h => h) (nb rfl) (nb rfl) (fun q3 hF H locs hw hS => ?_)
  refine x_widen (k := 1) (n := 6) (nb rfl) (nb rfl) ?_
  have hw : WC D cA s0 z b ν H := hw
  refine x_iload_n C dX11_callsToRebate_5 rfl ?_
  refine x_iconst (0 : Int32) C dX11_callsToRebate_6 rfl ?_
  refine x_bipush (9 : Int32) C dX11_callsToRebate_7 rfl ?_
  obtain ⟨q4, hq5, hF⟩ := bnd_e hF
  refine t_goT (fun ls h => t_runS (As := [.int a2, .int (0 : Int32), .int (9 : Int32)]) [] h C ml_X11_76 (k_X11_requireRange l D cA s0 z b ν _ hG a2 (0 : Int32) (9 : Int32) q4 hq5) ⟨rfl, rfl, nb rfl, nb rfl⟩ rfl ⟨rfl, hw⟩ (nb rfl) ⟨nb rfl, nb rfl⟩ dX11_callsToRebate_9) hF hS (xA_le hS) C hX (fun _ h => h) (nb rfl) (nb rfl) (fun q6 hF H locs hw hS => ?_)
  refine x_widen (k := 2) (n := 12) (nb rfl) (nb rfl) ?_
  have hw : WC D cA s0 z b ν H := hw
  refine x_aload_n C dX11_callsToRebate_12 rfl ?_
  refine x_get (.ref (b + 7)) C fl_X11_24 (C_PD hw) rfl dX11_callsToRebate_13 ?_
  obtain ⟨q7, hq8, hF⟩ := bnd_e hF
  refine x_goR (fun ls h => x_runV (As := []) [] h C ml_X11_118 (k_X5_present l D cA s0 z b ν hG 7 q7 hq8) ⟨rfl, rfl, nb rfl, nb rfl⟩ rfl (C_Led led7 hw) rfl hw (nb rfl) ⟨nb rfl, nb rfl⟩ dX11_callsToRebate_16) ?_
  obtain ⟨h9, hF⟩ := asr_e hF
  refine x_astore_n [(3, .ref (b + q7)), (0, .ref (b + 0)), (1, .int a1), (2, .int a2)] C dX11_callsToRebate_19 rfl (by decide) rfl ?_
  refine x_aload_n C dX11_callsToRebate_20 rfl ?_
  refine x_get (.ref (b + 7)) C fl_X11_24 (C_PD hw) rfl dX11_callsToRebate_21 ?_
  refine x_iload_n C dX11_callsToRebate_24 rfl ?_
  refine x_iload_n C dX11_callsToRebate_25 rfl ?_
  obtain ⟨q10, hq11, hF⟩ := bnd_e hF
  refine x_goR (fun ls h => x_runV (As := [.int a1, .int a2]) [] h C ml_X11_196 (k_X5_callsInYear l D cA s0 z b ν hG 7 a1 a2 q10 hq11) ⟨rfl, rfl, nb rfl, nb rfl⟩ rfl (C_Led led7 hw) rfl hw (nb rfl) ⟨nb rfl, nb rfl⟩ dX11_callsToRebate_26) ?_
  refine x_istore [(4, .int q10), (3, .ref (b + q7)), (0, .ref (b + 0)), (1, .int a1), (2, .int a2)] C dX11_callsToRebate_29 (by decide) rfl ?_
  refine x_aload_n C dX11_callsToRebate_31 rfl ?_
  refine x_iload C dX11_callsToRebate_32 rfl ?_
  obtain ⟨q12, hq13, hF⟩ := bnd_e hF
  refine x_goR (fun ls h => x_runV (As := [.int q10]) [] h C ml_X11_226 (k_X10_percentAt l D cA s0 z b ν hG q7 q10 q12 hq13) ⟨rfl, rfl, nb rfl, nb rfl⟩ rfl (C_Tar h9 hw) rfl hw (nb rfl) ⟨nb rfl, nb rfl⟩ dX11_callsToRebate_34) ?_
  refine x_istore [(5, .int q12), (4, .int q10), (3, .ref (b + q7)), (0, .ref (b + 0)), (1, .int a1), (2, .int a2)] C dX11_callsToRebate_37 (by decide) rfl ?_
  refine x_iconst (1 : Int32) C dX11_callsToRebate_39 rfl ?_
  refine x_istore [(6, .int (1 : Int32)), (5, .int q12), (4, .int q10), (3, .ref (b + q7)), (0, .ref (b + 0)), (1, .int a1), (2, .int a2)] C dX11_callsToRebate_40 (by decide) rfl ?_
  refine x_sub [(3, .ref (b + q7)), (4, .int q10), (5, .int q12), (6, .int (1 : Int32))] [3, 2, 1, 0] rfl ?_
  exact h_L42 10000 q7 q10 q12 (1 : Int32) h9 _ _ hw hS hF
noncomputable def g_X11_worth (ν : Mm) (a1 : Int32) : Option (Thr Int32) := bnd (g_X11_requireCall ν a1) (fun q1 => bnx q1 (fun q3 => asr (vp_in a1 40) ((if (ν.1 (7 + (22 + (cl a1))) 4) = 0 then bnd (g_X2_year ν (7 + (22 + (cl a1)))) (fun q8 => bnd (g_X5_callsInYear ν 7 (ν.1 (7 + (22 + (cl a1))) 0) q8) (fun q10 => bnd (g_X5_totalAtRank ν 7 a1 q10) (fun q12 => some (.ok q12)))) else some (.ok (0 : Int32))))))
set_option maxRecDepth 20000 in
set_option maxHeartbeats 4000000 in
theorem k_X11_worth (l : Launch) (D : va_G) (cA : Nat → ClassId) (s0 : State) (z : Nat) (b : Nat) (ν : Mm) (sz : Nat) (hG : xG l D cA s0) (a1 : Int32) (r : Thr Int32) (hF : g_X11_worth ν a1 = some r) : vx_Met l yX11_worth (wsG yX11_worth cX11_worth 3 (some (FieldType.int))) { frames := 9, cells := 1, slots := 6, locals := 175 } (xP D cA s0 [.ref (b + 0), .int a1] (fun H => H.size = sz ∧ WC D cA s0 z b ν H)) (xQt (fun q => (some (.int q))) (fun _ H => WC D cA s0 z b ν H) (xA b 2628 sz) r) (xXt (fun H => WC D cA s0 z b ν H) (xA b 2628 sz) r) 1 6 (xA b 2628 sz) := by
  refine t_start (z := z) (b := b) (ν := ν) (s0 := s0) (own := RX11) [(0, .ref (b + 0)), (1, .int a1)] rfl rfl (by decide) (nb rfl) ?_
  intro p e s m args below meth c C hX hw
  obtain ⟨hsz, hw⟩ := hw
  subst hsz
  have hS : va_S (xA b 2628 s.heap.size) s.heap s.heap [] := va_S.rf
  refine x_aload_n C dX11_worth_0 rfl ?_
  refine x_iload_n C dX11_worth_1 rfl ?_
  obtain ⟨q1, hq2, hF⟩ := bnd_e hF
  refine t_goT (fun ls h => t_runV (As := [.int a1]) [] h C ml_X11_199 (k_X11_requireCall l D cA s0 z b ν _ hG a1 q1 hq2) ⟨rfl, rfl, nb rfl, nb rfl⟩ rfl (C_PD hw) rfl ⟨rfl, hw⟩ (nb rfl) ⟨nb rfl, nb rfl⟩ dX11_worth_2) hF hS (xA_le hS) C hX (fun _ h => h) (nb rfl) (nb rfl) (fun q3 hF H locs hw hS => ?_)
  refine x_widen (k := 1) (n := 6) (nb rfl) (nb rfl) ?_
  have hw : WC D cA s0 z b ν H := hw
  refine x_aload_n C dX11_worth_5 rfl ?_
  refine x_get (.ref (b + 7)) C fl_X11_24 (C_PD hw) rfl dX11_worth_6 ?_
  refine x_get (.ref (b + (7 + 2))) C fl_X11_202 (C_Led led7 hw) rfl dX11_worth_9 ?_
  refine x_iload_n C dX11_worth_12 rfl ?_
  obtain ⟨h4, hF⟩ := asr_e hF
  obtain ⟨hn5, hl6⟩ := vpn h4 (by decide)
  refine x_aald 4 C (C_calls led7 hw) rfl hn5 hl6 (by decide) rfl dX11_worth_13 ?_
  refine x_astore_n [(2, .ref (b + (7 + (22 + (cl a1))))), (0, .ref (b + 0)), (1, .int a1)] C dX11_worth_14 rfl (by decide) rfl ?_
  refine x_aload_n C dX11_worth_15 rfl ?_
  refine x_get (.int (ν.1 (7 + (22 + (cl a1))) 4)) C fl_X11_220 (C_Cal (mk_Cal led7 hl6) hw) rfl dX11_worth_16 ?_
  refine x_if_eq 24 C dX11_worth_19 (by decide) (fun c7 => ?_) (fun c7 => ?_)
  · have hF := ite_t hF c7
    refine x_aload_n C dX11_worth_24 rfl ?_
    refine x_get (.ref (b + 7)) C fl_X11_24 (C_PD hw) rfl dX11_worth_25 ?_
    refine x_iload_n C dX11_worth_28 rfl ?_
    refine x_aload_n C dX11_worth_29 rfl ?_
    refine x_get (.ref (b + 7)) C fl_X11_24 (C_PD hw) rfl dX11_worth_30 ?_
    refine x_aload_n C dX11_worth_33 rfl ?_
    refine x_get (.int (ν.1 (7 + (22 + (cl a1))) 0)) C fl_X11_206 (C_Cal (mk_Cal led7 hl6) hw) rfl dX11_worth_34 ?_
    refine x_aload_n C dX11_worth_37 rfl ?_
    obtain ⟨q8, hq9, hF⟩ := bnd_e hF
    refine x_goR (fun ls h => x_runV (As := []) [.int (ν.1 (7 + (22 + (cl a1))) 0), .ref (b + 7), .int a1, .ref (b + 7)] h C ml_X11_335 (k_X2_year l D cA s0 z b ν hG (7 + (22 + (cl a1))) q8 hq9) ⟨rfl, rfl, nb rfl, nb rfl⟩ rfl (C_Cal (mk_Cal led7 hl6) hw) rfl hw (nb rfl) ⟨nb rfl, nb rfl⟩ dX11_worth_38) ?_
    obtain ⟨q10, hq11, hF⟩ := bnd_e hF
    refine x_goR (fun ls h => x_runV (As := [.int (ν.1 (7 + (22 + (cl a1))) 0), .int q8]) [.int a1, .ref (b + 7)] h C ml_X11_196 (k_X5_callsInYear l D cA s0 z b ν hG 7 (ν.1 (7 + (22 + (cl a1))) 0) q8 q10 hq11) ⟨rfl, rfl, nb rfl, nb rfl⟩ rfl (C_Led led7 hw) rfl hw (nb rfl) ⟨nb rfl, nb rfl⟩ dX11_worth_41) ?_
    obtain ⟨q12, hq13, hF⟩ := bnd_e hF
    refine x_goR (fun ls h => x_runV (As := [.int a1, .int q10]) [] h C ml_X11_254 (k_X5_totalAtRank l D cA s0 z b ν hG 7 a1 q10 q12 hq13) ⟨rfl, rfl, nb rfl, nb rfl⟩ rfl (C_Led led7 hw) rfl hw (nb rfl) ⟨nb rfl, nb rfl⟩ dX11_worth_44) ?_
    exact t_iret C rfl dX11_worth_47  (rt_o hF) rfl hw hS (nb rfl) (nb rfl)
  · have hF := ite_f hF c7
    refine x_iconst (0 : Int32) C dX11_worth_22 rfl ?_
    exact t_iret C rfl dX11_worth_23  (rt_o hF) rfl hw hS (nb rfl) (nb rfl)
noncomputable def g_X11_busiestYear_L9 (ν : Mm) (a1 : Int32) : Nat → Int32 → Int32 → Option (Thr Int32)
  | 0, _, _ => none
  | n + 1, x2, x3 => (if (10 : Int32) ≤ x3 then some (.ok x2) else bnd (g_X5_callsInYear ν 7 a1 x3) (fun q5 => bnd (g_X5_callsInYear ν 7 a1 x2) (fun q7 => (if q5 ≤ q7 then (g_X11_busiestYear_L9 ν a1 n x2 (x3 + (1 : Int32))) else (g_X11_busiestYear_L9 ν a1 n x3 (x3 + (1 : Int32)))))))
noncomputable def g_X11_busiestYear (ν : Mm) (a1 : Int32) : Option (Thr Int32) := bnd (g_X11_requireShip ν a1) (fun q1 => bnx q1 (fun q3 => (g_X11_busiestYear_L9 ν a1 10000 (0 : Int32) (1 : Int32))))
set_option maxRecDepth 20000 in
set_option maxHeartbeats 4000000 in
theorem k_X11_busiestYear (l : Launch) (D : va_G) (cA : Nat → ClassId) (s0 : State) (z : Nat) (b : Nat) (ν : Mm) (sz : Nat) (hG : xG l D cA s0) (a1 : Int32) (r : Thr Int32) (hF : g_X11_busiestYear ν a1 = some r) : vx_Met l yX11_busiestYear (wsG yX11_busiestYear cX11_busiestYear 4 (some (FieldType.int))) { frames := 9, cells := 1, slots := 6, locals := 175 } (xP D cA s0 [.ref (b + 0), .int a1] (fun H => H.size = sz ∧ WC D cA s0 z b ν H)) (xQt (fun q => (some (.int q))) (fun _ H => WC D cA s0 z b ν H) (xA b 2628 sz) r) (xXt (fun H => WC D cA s0 z b ν H) (xA b 2628 sz) r) 1 6 (xA b 2628 sz) := by
  refine t_start (z := z) (b := b) (ν := ν) (s0 := s0) (own := RX11) [(0, .ref (b + 0)), (1, .int a1)] rfl rfl (by decide) (nb rfl) ?_
  intro p e s m args below meth c C hX hw
  obtain ⟨hsz, hw⟩ := hw
  subst hsz
  have hS : va_S (xA b 2628 s.heap.size) s.heap s.heap [] := va_S.rf
  have h_L9 : ∀ (n : Nat) (x2 : Int32) (x3 : Int32) (H : Heap) (locs : List Loc) (hw : WC D cA s0 z b ν H) (hS : va_S (xA b 2628 s.heap.size) s.heap H locs), g_X11_busiestYear_L9 ν a1 n x2 x3 = some r → xW p l e { frames := 9, cells := 1, slots := 6, locals := 175 } s m args below meth c 4 (vx_MQ below (xQt (fun q => (some (.int q))) (fun _ H => WC D cA s0 z b ν H) (xA b 2628 s.heap.size) r) (xXt (fun H => WC D cA s0 z b ν H) (xA b 2628 s.heap.size) r) args s 1 6 (xA b 2628 s.heap.size)) H locs 1 6 9 [(0, .ref (b + 0)), (1, .int a1), (2, .int x2), (3, .int x3)] [] := by
    intro n
    induction n with
    | zero =>
      intro x2 x3 H locs hw hS hF
      exact no_some hF
    | succ n ih =>
      intro x2 x3 H locs hw hS hF
      have ih9 := ih
      refine x_iload_n C dX11_busiestYear_9 rfl ?_
      refine x_bipush (10 : Int32) C dX11_busiestYear_10 rfl ?_
      refine x_icmp_ge 44 C dX11_busiestYear_12 (by decide) (fun c4 => ?_) (fun c4 => ?_)
      · have hF := ite_t hF c4
        refine x_iload_n C dX11_busiestYear_44 rfl ?_
        exact t_iret C rfl dX11_busiestYear_45  (rt_o hF) rfl hw hS (nb rfl) (nb rfl)
      · have hF := ite_f hF c4
        refine x_aload_n C dX11_busiestYear_15 rfl ?_
        refine x_get (.ref (b + 7)) C fl_X11_24 (C_PD hw) rfl dX11_busiestYear_16 ?_
        refine x_iload_n C dX11_busiestYear_19 rfl ?_
        refine x_iload_n C dX11_busiestYear_20 rfl ?_
        obtain ⟨q5, hq6, hF⟩ := bnd_e hF
        refine x_goR (fun ls h => x_runV (As := [.int a1, .int x3]) [] h C ml_X11_196 (k_X5_callsInYear l D cA s0 z b ν hG 7 a1 x3 q5 hq6) ⟨rfl, rfl, nb rfl, nb rfl⟩ rfl (C_Led led7 hw) rfl hw (nb rfl) ⟨nb rfl, nb rfl⟩ dX11_busiestYear_21) ?_
        refine x_aload_n C dX11_busiestYear_24 rfl ?_
        refine x_get (.ref (b + 7)) C fl_X11_24 (C_PD hw) rfl dX11_busiestYear_25 ?_
        refine x_iload_n C dX11_busiestYear_28 rfl ?_
        refine x_iload_n C dX11_busiestYear_29 rfl ?_
        obtain ⟨q7, hq8, hF⟩ := bnd_e hF
        refine x_goR (fun ls h => x_runV (As := [.int a1, .int x2]) [.int q5] h C ml_X11_196 (k_X5_callsInYear l D cA s0 z b ν hG 7 a1 x2 q7 hq8) ⟨rfl, rfl, nb rfl, nb rfl⟩ rfl (C_Led led7 hw) rfl hw (nb rfl) ⟨nb rfl, nb rfl⟩ dX11_busiestYear_30) ?_
        refine x_icmp_le 38 C dX11_busiestYear_33 (by decide) (fun c9 => ?_) (fun c9 => ?_)
        · have hF := ite_t hF c9
          refine x_iinc (x3 + (1 : Int32)) [(3, .int (x3 + (1 : Int32))), (0, .ref (b + 0)), (1, .int a1), (2, .int x2)] C dX11_busiestYear_38 rfl rfl (by decide) rfl ?_
          refine x_goto 9 C dX11_busiestYear_41 (by decide) ?_
          refine x_sub [(0, .ref (b + 0)), (1, .int a1), (2, .int x2), (3, .int (x3 + (1 : Int32)))] [1, 2, 3, 0] rfl ?_
          exact ih9 x2 (x3 + (1 : Int32)) _ _ hw hS hF
        · have hF := ite_f hF c9
          refine x_iload_n C dX11_busiestYear_36 rfl ?_
          refine x_istore_n [(2, .int x3), (0, .ref (b + 0)), (1, .int a1), (3, .int x3)] C dX11_busiestYear_37 rfl (by decide) rfl ?_
          refine x_iinc (x3 + (1 : Int32)) [(3, .int (x3 + (1 : Int32))), (2, .int x3), (0, .ref (b + 0)), (1, .int a1)] C dX11_busiestYear_38 rfl rfl (by decide) rfl ?_
          refine x_goto 9 C dX11_busiestYear_41 (by decide) ?_
          refine x_sub [(0, .ref (b + 0)), (1, .int a1), (2, .int x3), (3, .int (x3 + (1 : Int32)))] [2, 3, 1, 0] rfl ?_
          exact ih9 x3 (x3 + (1 : Int32)) _ _ hw hS hF
  refine x_aload_n C dX11_busiestYear_0 rfl ?_
  refine x_iload_n C dX11_busiestYear_1 rfl ?_
  obtain ⟨q1, hq2, hF⟩ := bnd_e hF
  refine t_goT (fun ls h => t_runV (As := [.int a1]) [] h C ml_X11_184 (k_X11_requireShip l D cA s0 z b ν _ hG a1 q1 hq2) ⟨rfl, rfl, nb rfl, nb rfl⟩ rfl (C_PD hw) rfl ⟨rfl, hw⟩ (nb rfl) ⟨nb rfl, nb rfl⟩ dX11_busiestYear_2) hF hS (xA_le hS) C hX (fun _ h => h) (nb rfl) (nb rfl) (fun q3 hF H locs hw hS => ?_)
  refine x_widen (k := 1) (n := 6) (nb rfl) (nb rfl) ?_
  have hw : WC D cA s0 z b ν H := hw
  refine x_iconst (0 : Int32) C dX11_busiestYear_5 rfl ?_
  refine x_istore_n [(2, .int (0 : Int32)), (0, .ref (b + 0)), (1, .int a1)] C dX11_busiestYear_6 rfl (by decide) rfl ?_
  refine x_iconst (1 : Int32) C dX11_busiestYear_7 rfl ?_
  refine x_istore_n [(3, .int (1 : Int32)), (2, .int (0 : Int32)), (0, .ref (b + 0)), (1, .int a1)] C dX11_busiestYear_8 rfl (by decide) rfl ?_
  refine x_sub [(0, .ref (b + 0)), (1, .int a1), (2, .int (0 : Int32)), (3, .int (1 : Int32))] [2, 3, 1, 0] rfl ?_
  exact h_L9 10000 (0 : Int32) (1 : Int32) _ _ hw hS hF
