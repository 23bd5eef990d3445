noncomputable def g_X11_setPercent_J38 (ν : Mm) (a1 : Int32) (a2 : Int32) (y0 : Bool) : Option (Thr (Int32 × Mm)) := bnd (g_X11_requireState ν y0) (fun q11 => bnx q11 (fun q13 => bnd (g_X3_save ν 7) (fun q14 => bnd (g_X5_newVersion q14 7) (fun q16 => asr (isTar q16.1) (asr (vp_in a1 4) (bnd (some (uI q16.2 (q16.1 + 4) (cl a1) a2)) (fun μ22 => some (.ok (μ22.1 7 9, μ22)))))))))
noncomputable def g_X11_setPercent (ν : Mm) (a1 : Int32) (a2 : Int32) : Option (Thr (Int32 × Mm)) := bnd (g_X5_present ν 7) (fun q1 => asr (isTar q1) (bnd (g_X11_requireIndex ν a1 (ν.1 q1 5)) (fun q4 => bnx q4 (fun q6 => bnd (g_X11_requireRange ν a2 (0 : Int32) (100 : Int32)) (fun q7 => bnx q7 (fun q9 => (if (20 : Int32) ≤ (ν.1 7 9) then (g_X11_setPercent_J38 ν a1 a2 false) else (g_X11_setPercent_J38 ν a1 a2 true))))))))
set_option maxRecDepth 20000 in
set_option maxHeartbeats 4000000 in
theorem k_X11_setPercent (l : Launch) (D : va_G) (cA : Nat → ClassId) (s0 : State) (z : Nat) (b : Nat) (ν : Mm) (sz : Nat) (hG : xG l D cA s0) (a1 : Int32) (a2 : Int32) (r : Thr (Int32 × Mm)) (hF : g_X11_setPercent ν a1 a2 = some r) : vx_Met l yX11_setPercent (wsG yX11_setPercent cX11_setPercent 3 (some (FieldType.int))) { frames := 9, cells := 3, slots := 18, locals := 175 } (xP D cA s0 [.ref (b + 0), .int a1, .int a2] (fun H => H.size = sz ∧ WC D cA s0 z b ν H)) (xQt (fun q => (some (.int q.1))) (fun q H => WC D cA s0 z b q.2 H) (xA b 2628 sz) r) (xXt (fun H => WC D cA s0 z b ν H) (xA b 2628 sz) r) 3 18 (xA b 2628 sz) := by
  refine t_start (z := z) (b := b) (ν := ν) (s0 := s0) (own := RX11) [(0, .ref (b + 0)), (1, .int a1), (2, .int a2)] rfl rfl (by decide) (nb rfl) ?_
  intro p e s m args below meth c C hX hw
  obtain ⟨hsz, hw⟩ := hw
  subst hsz
  have hS : va_S (xA b 2628 s.heap.size) s.heap s.heap [] := va_S.rf
  have h_J38 : ∀ (y0 : Bool) (H : Heap) (locs : List Loc) (hw : WC D cA s0 z b ν H) (hS : va_S (xA b 2628 s.heap.size) s.heap H locs), g_X11_setPercent_J38 ν a1 a2 y0 = some r → xW p l e { frames := 9, cells := 3, slots := 18, locals := 175 } s m args below meth c 3 (vx_MQ below (xQt (fun q => (some (.int q.1))) (fun q H => WC D cA s0 z b q.2 H) (xA b 2628 s.heap.size) r) (xXt (fun H => WC D cA s0 z b ν H) (xA b 2628 s.heap.size) r) args s 3 18 (xA b 2628 s.heap.size)) H locs 2 12 38 [(0, .ref (b + 0)), (1, .int a1), (2, .int a2)] [.int (bI y0)] := by
    intro y0 H locs hw hS hF
    obtain ⟨q11, hq12, hF⟩ := bnd_e hF
    refine t_goT (fun ls h => t_runS (As := [.int (bI y0)]) [] h C ml_X11_69 (k_X11_requireState l D cA s0 z b ν _ hG y0 q11 hq12) ⟨rfl, rfl, nb rfl, nb rfl⟩ rfl ⟨rfl, hw⟩ (nb rfl) ⟨nb rfl, nb rfl⟩ dX11_setPercent_38) hF hS (xA_le hS) C hX (fun _ h => h) (nb rfl) (nb rfl) (fun q13 hF H locs hw hS => ?_)
    refine x_widen (k := 3) (n := 18) (nb rfl) (nb rfl) ?_
    have hw : WC D cA s0 z b ν H := hw
    refine x_aload_n C dX11_setPercent_41 rfl ?_
    refine x_get (.ref (b + 662)) C fl_X11_43 (C_PD hw) rfl dX11_setPercent_42 ?_
    refine x_aload_n C dX11_setPercent_45 rfl ?_
    refine x_get (.ref (b + 7)) C fl_X11_24 (C_PD hw) rfl dX11_setPercent_46 ?_
    obtain ⟨q14, hq15, hF⟩ := bnd_e hF
    refine x_goM (fun ls h => x_runV (As := [.ref (b + 7)]) [] h C ml_X11_84 (k_X3_save l D cA s0 z b ν _ hG 7 q14 hq15) ⟨rfl, rfl, nb rfl, nb rfl⟩ rfl (C_His hw) rfl ⟨rfl, hw⟩ (nb rfl) ⟨nb rfl, nb rfl⟩ dX11_setPercent_49) hS (xA_le hS) (fun H locs hw hz hk hS => ?_)
    have hw : WC D cA s0 z b q14 H := hw
    refine x_aload_n C dX11_setPercent_52 rfl ?_
    refine x_get (.ref (b + 7)) C fl_X11_24 (C_PD hw) rfl dX11_setPercent_53 ?_
    obtain ⟨q16, hq17, hF⟩ := bnd_e hF
    refine x_goM (fun ls h => x_runV (As := []) [] h C ml_X11_387 (k_X5_newVersion l D cA s0 z b q14 _ hG 7 q16 hq17) ⟨rfl, rfl, nb rfl, nb rfl⟩ rfl (C_Led led7 hw) rfl ⟨rfl, hw⟩ (nb rfl) ⟨nb rfl, nb rfl⟩ dX11_setPercent_56) hS (xA_le hS) (fun H locs hw hz hk hS => ?_)
    have hw : WC D cA s0 z b q16.2 H := hw
    obtain ⟨h18, hF⟩ := asr_e hF
    refine x_get (.ref (b + (q16.1 + 4))) C fl_X11_167 (C_Tar h18 hw) rfl dX11_setPercent_59 ?_
    refine x_iload_n C dX11_setPercent_62 rfl ?_
    refine x_iload_n C dX11_setPercent_63 rfl ?_
    obtain ⟨h19, hF⟩ := asr_e hF
    obtain ⟨hn20, hl21⟩ := vpn h19 (by decide)
    refine y_iast (q16.1 + 4) C hw (la_rebatePercent h18) (fun nm f => S_rebatePercent h18) hn20 hl21 (by decide) dX11_setPercent_64 hS (xA_in (la_rebatePercent h18)) (fun H locs hw hS => ?_)
    obtain ⟨μ22, hm23, hF⟩ := bnd_e hF
    have hw : WC D cA s0 z b μ22 H := rv_m (W := fun m => WC D cA s0 z b m _) hm23 hw
    refine x_aload_n C dX11_setPercent_65 rfl ?_
    refine x_get (.ref (b + 7)) C fl_X11_24 (C_PD hw) rfl dX11_setPercent_66 ?_
    refine x_get (.int (μ22.1 7 9)) C fl_X11_112 (C_Led led7 hw) rfl dX11_setPercent_69 ?_
    exact t_iret C rfl dX11_setPercent_72  (rt_o hF) rfl hw hS (nb rfl) (nb rfl)
  refine x_iload_n C dX11_setPercent_0 rfl ?_
  refine x_aload_n C dX11_setPercent_1 rfl ?_
  refine x_get (.ref (b + 7)) C fl_X11_24 (C_PD hw) rfl dX11_setPercent_2 ?_
  obtain ⟨q1, hq2, hF⟩ := bnd_e hF
  refine x_goR (fun ls h => x_runV (As := []) [.int a1] h C ml_X11_118 (k_X5_present l D cA s0 z b ν hG 7 q1 hq2) ⟨rfl, rfl, nb rfl, nb rfl⟩ rfl (C_Led led7 hw) rfl hw (nb rfl) ⟨Nat.zero_le _, Nat.zero_le _⟩ dX11_setPercent_5) ?_
  obtain ⟨h3, hF⟩ := asr_e hF
  refine x_get (.int (ν.1 q1 5)) C fl_X11_127 (C_Tar h3 hw) rfl dX11_setPercent_8 ?_
  obtain ⟨q4, hq5, hF⟩ := bnd_e hF
  refine t_goT (fun ls h => t_runS (As := [.int a1, .int (ν.1 q1 5)]) [] h C ml_X11_153 (k_X11_requireIndex l D cA s0 z b ν _ hG a1 (ν.1 q1 5) q4 hq5) ⟨rfl, rfl, nb rfl, nb rfl⟩ rfl ⟨rfl, hw⟩ (nb rfl) ⟨nb rfl, nb rfl⟩ dX11_setPercent_11) hF hS (xA_le hS) C hX (fun _ h => h) (nb rfl) (nb rfl) (fun q6 hF H locs hw hS => ?_)
  refine x_widen (k := 1) (n := 6) (nb rfl) (nb rfl) ?_
  have hw : WC D cA s0 z b ν H := hw
  refine x_iload_n C dX11_setPercent_14 rfl ?_
  refine x_iconst (0 : Int32) C dX11_setPercent_15 rfl ?_
  refine x_bipush (100 : Int32) C dX11_setPercent_16 rfl ?_
  obtain ⟨q7, hq8, hF⟩ := bnd_e hF
  refine t_goT (fun ls h => t_runS (As := [.int a2, .int (0 : Int32), .int (100 : Int32)]) [] h C ml_X11_76 (k_X11_requireRange l D cA s0 z b ν _ hG a2 (0 : Int32) (100 : Int32) q7 hq8) ⟨rfl, rfl, nb rfl, nb rfl⟩ rfl ⟨rfl, hw⟩ (nb rfl) ⟨nb rfl, nb rfl⟩ dX11_setPercent_18) hF hS (xA_le hS) C hX (fun _ h => h) (nb rfl) (nb rfl) (fun q9 hF H locs hw hS => ?_)
  refine x_widen (k := 2) (n := 12) (nb rfl) (nb rfl) ?_
  have hw : WC D cA s0 z b ν H := hw
  refine x_aload_n C dX11_setPercent_21 rfl ?_
  refine x_get (.ref (b + 7)) C fl_X11_24 (C_PD hw) rfl dX11_setPercent_22 ?_
  refine x_get (.int (ν.1 7 9)) C fl_X11_112 (C_Led led7 hw) rfl dX11_setPercent_25 ?_
  refine x_bipush (20 : Int32) C dX11_setPercent_28 rfl ?_
  refine x_icmp_ge 37 C dX11_setPercent_30 (by decide) (fun c10 => ?_) (fun c10 => ?_)
  · have hF := ite_t hF c10
    refine x_iconst (0 : Int32) C dX11_setPercent_37 rfl ?_
    exact h_J38 false _ _ hw hS hF
  · have hF := ite_f hF c10
    refine x_iconst (1 : Int32) C dX11_setPercent_33 rfl ?_
    refine x_goto 38 C dX11_setPercent_34 (by decide) ?_
    exact h_J38 true _ _ hw hS hF
noncomputable def g_X11_setLay_J32 (ν : Mm) (a1 : Int32) (a2 : Int32) (y0 : Bool) : Option (Thr (Int32 × Mm)) := bnd (g_X11_requireState ν y0) (fun q8 => bnx q8 (fun q10 => bnd (g_X3_save ν 7) (fun q11 => bnd (g_X5_newVersion q11 7) (fun q13 => asr (isTar q13.1) (bnd (some (uI q13.2 q13.1 10 a1)) (fun μ16 => bnd (some (uI μ16 q13.1 11 a2)) (fun μ18 => some (.ok (μ18.1 7 9, μ18)))))))))
noncomputable def g_X11_setLay (ν : Mm) (a1 : Int32) (a2 : Int32) : Option (Thr (Int32 × Mm)) := bnd (g_X11_requireRange ν a1 (0 : Int32) (30 : Int32)) (fun q1 => bnx q1 (fun q3 => bnd (g_X11_requireRange ν a2 (0 : Int32) (9999 : Int32)) (fun q4 => bnx q4 (fun q6 => (if (20 : Int32) ≤ (ν.1 7 9) then (g_X11_setLay_J32 ν a1 a2 false) else (g_X11_setLay_J32 ν a1 a2 true))))))
set_option maxRecDepth 20000 in
set_option maxHeartbeats 4000000 in
theorem k_X11_setLay (l : Launch) (D : va_G) (cA : Nat → ClassId) (s0 : State) (z : Nat) (b : Nat) (ν : Mm) (sz : Nat) (hG : xG l D cA s0) (a1 : Int32) (a2 : Int32) (r : Thr (Int32 × Mm)) (hF : g_X11_setLay ν a1 a2 = some r) : vx_Met l yX11_setLay (wsG yX11_setLay cX11_setLay 4 (some (FieldType.int))) { frames := 9, cells := 3, slots := 18, locals := 175 } (xP D cA s0 [.ref (b + 0), .int a1, .int a2] (fun H => H.size = sz ∧ WC D cA s0 z b ν H)) (xQt (fun q => (some (.int q.1))) (fun q H => WC D cA s0 z b q.2 H) (xA b 2628 sz) r) (xXt (fun H => WC D cA s0 z b ν H) (xA b 2628 sz) r) 3 18 (xA b 2628 sz) := by
  refine t_start (z := z) (b := b) (ν := ν) (s0 := s0) (own := RX11) [(0, .ref (b + 0)), (1, .int a1), (2, .int a2)] rfl rfl (by decide) (nb rfl) ?_
  intro p e s m args below meth c C hX hw
  obtain ⟨hsz, hw⟩ := hw
  subst hsz
  have hS : va_S (xA b 2628 s.heap.size) s.heap s.heap [] := va_S.rf
  have h_J32 : ∀ (y0 : Bool) (H : Heap) (locs : List Loc) (hw : WC D cA s0 z b ν H) (hS : va_S (xA b 2628 s.heap.size) s.heap H locs), g_X11_setLay_J32 ν a1 a2 y0 = some r → xW p l e { frames := 9, cells := 3, slots := 18, locals := 175 } s m args below meth c 4 (vx_MQ below (xQt (fun q => (some (.int q.1))) (fun q H => WC D cA s0 z b q.2 H) (xA b 2628 s.heap.size) r) (xXt (fun H => WC D cA s0 z b ν H) (xA b 2628 s.heap.size) r) args s 3 18 (xA b 2628 s.heap.size)) H locs 2 12 32 [(0, .ref (b + 0)), (1, .int a1), (2, .int a2)] [.int (bI y0)] := by
    intro y0 H locs hw hS hF
    obtain ⟨q8, hq9, hF⟩ := bnd_e hF
    refine t_goT (fun ls h => t_runS (As := [.int (bI y0)]) [] h C ml_X11_69 (k_X11_requireState l D cA s0 z b ν _ hG y0 q8 hq9) ⟨rfl, rfl, nb rfl, nb rfl⟩ rfl ⟨rfl, hw⟩ (nb rfl) ⟨nb rfl, nb rfl⟩ dX11_setLay_32) hF hS (xA_le hS) C hX (fun _ h => h) (nb rfl) (nb rfl) (fun q10 hF H locs hw hS => ?_)
    refine x_widen (k := 3) (n := 18) (nb rfl) (nb rfl) ?_
    have hw : WC D cA s0 z b ν H := hw
    refine x_aload_n C dX11_setLay_35 rfl ?_
    refine x_get (.ref (b + 662)) C fl_X11_43 (C_PD hw) rfl dX11_setLay_36 ?_
    refine x_aload_n C dX11_setLay_39 rfl ?_
    refine x_get (.ref (b + 7)) C fl_X11_24 (C_PD hw) rfl dX11_setLay_40 ?_
    obtain ⟨q11, hq12, hF⟩ := bnd_e hF
    refine x_goM (fun ls h => x_runV (As := [.ref (b + 7)]) [] h C ml_X11_84 (k_X3_save l D cA s0 z b ν _ hG 7 q11 hq12) ⟨rfl, rfl, nb rfl, nb rfl⟩ rfl (C_His hw) rfl ⟨rfl, hw⟩ (nb rfl) ⟨nb rfl, nb rfl⟩ dX11_setLay_43) hS (xA_le hS) (fun H locs hw hz hk hS => ?_)
    have hw : WC D cA s0 z b q11 H := hw
    refine x_aload_n C dX11_setLay_46 rfl ?_
    refine x_get (.ref (b + 7)) C fl_X11_24 (C_PD hw) rfl dX11_setLay_47 ?_
    obtain ⟨q13, hq14, hF⟩ := bnd_e hF
    refine x_goM (fun ls h => x_runV (As := []) [] h C ml_X11_387 (k_X5_newVersion l D cA s0 z b q11 _ hG 7 q13 hq14) ⟨rfl, rfl, nb rfl, nb rfl⟩ rfl (C_Led led7 hw) rfl ⟨rfl, hw⟩ (nb rfl) ⟨nb rfl, nb rfl⟩ dX11_setLay_50) hS (xA_le hS) (fun H locs hw hz hk hS => ?_)
    have hw : WC D cA s0 z b q13.2 H := hw
    obtain ⟨h15, hF⟩ := asr_e hF
    refine x_astore_n [(3, .ref (b + q13.1)), (0, .ref (b + 0)), (1, .int a1), (2, .int a2)] C dX11_setLay_53 rfl (by decide) rfl ?_
    refine x_aload_n C dX11_setLay_54 rfl ?_
    refine x_iload_n C dX11_setLay_55 rfl ?_
    refine y_putI (kk0 := 10) q13.1 C fl_X11_147 hw (l2 (lt_Tar h15)) (fun nm => S_Tar h15) (fun nm => S_Tar h15) rfl rfl (fun _ => nb rfl) dX11_setLay_56 hS (xA_in (l2 (lt_Tar h15))) (fun H locs hw hS => ?_)
    obtain ⟨μ16, hm17, hF⟩ := bnd_e hF
    have hw : WC D cA s0 z b μ16 H := rv_m (W := fun m => WC D cA s0 z b m _) hm17 hw
    refine x_aload_n C dX11_setLay_59 rfl ?_
    refine x_iload_n C dX11_setLay_60 rfl ?_
    refine y_putI (kk0 := 11) q13.1 C fl_X11_150 hw (l2 (lt_Tar h15)) (fun nm => S_Tar h15) (fun nm => S_Tar h15) rfl rfl (fun _ => nb rfl) dX11_setLay_61 hS (xA_in (l2 (lt_Tar h15))) (fun H locs hw hS => ?_)
    obtain ⟨μ18, hm19, hF⟩ := bnd_e hF
    have hw : WC D cA s0 z b μ18 H := rv_m (W := fun m => WC D cA s0 z b m _) hm19 hw
    refine x_aload_n C dX11_setLay_64 rfl ?_
    refine x_get (.ref (b + 7)) C fl_X11_24 (C_PD hw) rfl dX11_setLay_65 ?_
    refine x_get (.int (μ18.1 7 9)) C fl_X11_112 (C_Led led7 hw) rfl dX11_setLay_68 ?_
    exact t_iret C rfl dX11_setLay_71  (rt_o hF) rfl hw hS (nb rfl) (nb rfl)
  refine x_iload_n C dX11_setLay_0 rfl ?_
  refine x_iconst (0 : Int32) C dX11_setLay_1 rfl ?_
  refine x_bipush (30 : Int32) C dX11_setLay_2 rfl ?_
  obtain ⟨q1, hq2, hF⟩ := bnd_e hF
  refine t_goT (fun ls h => t_runS (As := [.int a1, .int (0 : Int32), .int (30 : Int32)]) [] h C ml_X11_76 (k_X11_requireRange l D cA s0 z b ν _ hG a1 (0 : Int32) (30 : Int32) q1 hq2) ⟨rfl, rfl, nb rfl, nb rfl⟩ rfl ⟨rfl, hw⟩ (nb rfl) ⟨nb rfl, nb rfl⟩ dX11_setLay_4) hF hS (xA_le hS) C hX (fun _ h => h) (nb rfl) (nb rfl) (fun q3 hF H locs hw hS => ?_)
  refine x_widen (k := 1) (n := 6) (nb rfl) (nb rfl) ?_
  have hw : WC D cA s0 z b ν H := hw
  refine x_iload_n C dX11_setLay_7 rfl ?_
  refine x_iconst (0 : Int32) C dX11_setLay_8 rfl ?_
  refine x_sipush (9999 : Int32) C dX11_setLay_9 rfl ?_
  obtain ⟨q4, hq5, hF⟩ := bnd_e hF
  refine t_goT (fun ls h => t_runS (As := [.int a2, .int (0 : Int32), .int (9999 : Int32)]) [] h C ml_X11_76 (k_X11_requireRange l D cA s0 z b ν _ hG a2 (0 : Int32) (9999 : Int32) q4 hq5) ⟨rfl, rfl, nb rfl, nb rfl⟩ rfl ⟨rfl, hw⟩ (nb rfl) ⟨nb rfl, nb rfl⟩ dX11_setLay_12) hF hS (xA_le hS) C hX (fun _ h => h) (nb rfl) (nb rfl) (fun q6 hF H locs hw hS => ?_)
  refine x_widen (k := 2) (n := 12) (nb rfl) (nb rfl) ?_
  have hw : WC D cA s0 z b ν H := hw
  refine x_aload_n C dX11_setLay_15 rfl ?_
  refine x_get (.ref (b + 7)) C fl_X11_24 (C_PD hw) rfl dX11_setLay_16 ?_
  refine x_get (.int (ν.1 7 9)) C fl_X11_112 (C_Led led7 hw) rfl dX11_setLay_19 ?_
  refine x_bipush (20 : Int32) C dX11_setLay_22 rfl ?_
  refine x_icmp_ge 31 C dX11_setLay_24 (by decide) (fun c7 => ?_) (fun c7 => ?_)
  · have hF := ite_t hF c7
    refine x_iconst (0 : Int32) C dX11_setLay_31 rfl ?_
    exact h_J32 false _ _ hw hS hF
  · have hF := ite_f hF c7
    refine x_iconst (1 : Int32) C dX11_setLay_27 rfl ?_
    refine x_goto 32 C dX11_setLay_28 (by decide) ?_
    exact h_J32 true _ _ hw hS hF
noncomputable def g_X11_undo_J15 (ν : Mm) (y0 : Bool) : Option (Thr (Int32 × Mm)) := bnd (g_X11_requireState ν y0) (fun q2 => bnx q2 (fun q4 => bnd (g_X3_takeBack ν 7) (fun q5 => some (.ok (q5.1 662 1, q5)))))
noncomputable def g_X11_undo (ν : Mm) : Option (Thr (Int32 × Mm)) := (if (ν.1 662 1) ≤ 0 then (g_X11_undo_J15 ν false) else (g_X11_undo_J15 ν true))
set_option maxRecDepth 20000 in
set_option maxHeartbeats 4000000 in
theorem k_X11_undo (l : Launch) (D : va_G) (cA : Nat → ClassId) (s0 : State) (z : Nat) (b : Nat) (ν : Mm) (sz : Nat) (hG : xG l D cA s0) (r : Thr (Int32 × Mm)) (hF : g_X11_undo ν = some r) : vx_Met l yX11_undo (wsG yX11_undo cX11_undo 1 (some (FieldType.int))) { frames := 8, cells := 1, slots := 6, locals := 153 } (xP D cA s0 [.ref (b + 0)] (fun H => H.size = sz ∧ WC D cA s0 z b ν H)) (xQt (fun q => (some (.int q.1))) (fun q H => WC D cA s0 z b q.2 H) (xA b 2628 sz) r) (xXt (fun H => WC D cA s0 z b ν H) (xA b 2628 sz) r) 1 6 (xA b 2628 sz) := by
  refine t_start (z := z) (b := b) (ν := ν) (s0 := s0) (own := RX11) [(0, .ref (b + 0))] rfl rfl (by decide) (nb rfl) ?_
  intro p e s m args below meth c C hX hw
  obtain ⟨hsz, hw⟩ := hw
  subst hsz
  have hS : va_S (xA b 2628 s.heap.size) s.heap s.heap [] := va_S.rf
  have h_J15 : ∀ (y0 : Bool) (H : Heap) (locs : List Loc) (hw : WC D cA s0 z b ν H) (hS : va_S (xA b 2628 s.heap.size) s.heap H locs), g_X11_undo_J15 ν y0 = some r → xW p l e { frames := 8, cells := 1, slots := 6, locals := 153 } s m args below meth c 1 (vx_MQ below (xQt (fun q => (some (.int q.1))) (fun q H => WC D cA s0 z b q.2 H) (xA b 2628 s.heap.size) r) (xXt (fun H => WC D cA s0 z b ν H) (xA b 2628 s.heap.size) r) args s 1 6 (xA b 2628 s.heap.size)) H locs 0 0 15 [(0, .ref (b + 0))] [.int (bI y0)] := by
    intro y0 H locs hw hS hF
    obtain ⟨q2, hq3, hF⟩ := bnd_e hF
    refine t_goT (fun ls h => t_runS (As := [.int (bI y0)]) [] h C ml_X11_69 (k_X11_requireState l D cA s0 z b ν _ hG y0 q2 hq3) ⟨rfl, rfl, nb rfl, nb rfl⟩ rfl ⟨rfl, hw⟩ (nb rfl) ⟨nb rfl, nb rfl⟩ dX11_undo_15) hF hS (xA_le hS) C hX (fun _ h => h) (nb rfl) (nb rfl) (fun q4 hF H locs hw hS => ?_)
    refine x_widen (k := 1) (n := 6) (nb rfl) (nb rfl) ?_
    have hw : WC D cA s0 z b ν H := hw
    refine x_aload_n C dX11_undo_18 rfl ?_
    refine x_get (.ref (b + 662)) C fl_X11_43 (C_PD hw) rfl dX11_undo_19 ?_
    refine x_aload_n C dX11_undo_22 rfl ?_
    refine x_get (.ref (b + 7)) C fl_X11_24 (C_PD hw) rfl dX11_undo_23 ?_
    obtain ⟨q5, hq6, hF⟩ := bnd_e hF
    refine x_goM (fun ls h => x_runV (As := [.ref (b + 7)]) [] h C ml_X11_393 (k_X3_takeBack l D cA s0 z b ν _ hG 7 q5 hq6) ⟨rfl, rfl, nb rfl, nb rfl⟩ rfl (C_His hw) rfl ⟨rfl, hw⟩ (nb rfl) ⟨nb rfl, nb rfl⟩ dX11_undo_26) hS (xA_le hS) (fun H locs hw hz hk hS => ?_)
    have hw : WC D cA s0 z b q5 H := hw
    refine x_aload_n C dX11_undo_29 rfl ?_
    refine x_get (.ref (b + 662)) C fl_X11_43 (C_PD hw) rfl dX11_undo_30 ?_
    refine x_get (.int (q5.1 662 1)) C fl_X11_390 (C_His hw) rfl dX11_undo_33 ?_
    exact t_iret C rfl dX11_undo_36  (rt_o hF) rfl hw hS (nb rfl) (nb rfl)
  refine x_aload_n C dX11_undo_0 rfl ?_
  refine x_get (.ref (b + 662)) C fl_X11_43 (C_PD hw) rfl dX11_undo_1 ?_
  refine x_get (.int (ν.1 662 1)) C fl_X11_390 (C_His hw) rfl dX11_undo_4 ?_
  refine x_if_le 14 C dX11_undo_7 (by decide) (fun c1 => ?_) (fun c1 => ?_)
  · have hF := ite_t hF c1
    refine x_iconst (0 : Int32) C dX11_undo_14 rfl ?_
    exact h_J15 false _ _ hw hS hF
  · have hF := ite_f hF c1
    refine x_iconst (1 : Int32) C dX11_undo_10 rfl ?_
    refine x_goto 15 C dX11_undo_11 (by decide) ?_
    exact h_J15 true _ _ hw hS hF
noncomputable def g_X11_undoCount (ν : Mm) : Option (Int32) := some (ν.1 662 1)
set_option maxRecDepth 20000 in
set_option maxHeartbeats 4000000 in
theorem k_X11_undoCount (l : Launch) (D : va_G) (cA : Nat → ClassId) (s0 : State) (z : Nat) (b : Nat) (ν : Mm) (hG : xG l D cA s0) (r : Int32) (hF : g_X11_undoCount ν = some r) : Met l yX11_undoCount (wsG yX11_undoCount cX11_undoCount 1 (some (FieldType.int))) { frames := 0, cells := 0, slots := 0, locals := 0 } (xP D cA s0 [.ref (b + 0)] (WC D cA s0 z b ν)) (xQr (some (.int r))) 0 0 xN := by
  refine x_start (own := RX11) [(0, .ref (b + 0))] rfl rfl (by decide) (nb rfl) ?_
  intro p e s m args below meth c C hw
  refine x_aload_n C dX11_undoCount_0 rfl ?_
  refine x_get (.ref (b + 662)) C fl_X11_43 (C_PD hw) rfl dX11_undoCount_1 ?_
  refine x_get (.int (ν.1 662 1)) C fl_X11_390 (C_His hw) rfl dX11_undoCount_4 ?_
  exact x_iretR C rfl dX11_undoCount_7  (r_i hF)
noncomputable def g_X11_writeStatement (ν : Mm) (a1 : Int32) : Option (Thr (Int32 × Mm)) := bnd (g_X11_requireShip ν a1) (fun q1 => bnx q1 (fun q3 => bnd (g_X8_statement ν a1) (fun q4 => some (.ok (q4.1 4 2, q4)))))
set_option maxRecDepth 20000 in
set_option maxHeartbeats 4000000 in
theorem k_X11_writeStatement (l : Launch) (D : va_G) (cA : Nat → ClassId) (s0 : State) (z : Nat) (b : Nat) (ν : Mm) (sz : Nat) (hG : xG l D cA s0) (a1 : Int32) (r : Thr (Int32 × Mm)) (hF : g_X11_writeStatement ν a1 = some r) : vx_Met l yX11_writeStatement (wsG yX11_writeStatement cX11_writeStatement 2 (some (FieldType.int))) { frames := 9, cells := 1, slots := 6, locals := 175 } (xP D cA s0 [.ref (b + 0), .int a1] (fun H => H.size = sz ∧ WC D cA s0 z b ν H)) (xQt (fun q => (some (.int q.1))) (fun q H => WC D cA s0 z b q.2 H) (xA b 2628 sz) r) (xXt (fun H => WC D cA s0 z b ν H) (xA b 2628 sz) r) 1 6 (xA b 2628 sz) := by
  refine t_start (z := z) (b := b) (ν := ν) (s0 := s0) (own := RX11) [(0, .ref (b + 0)), (1, .int a1)] rfl rfl (by decide) (nb rfl) ?_
  intro p e s m args below meth c C hX hw
  obtain ⟨hsz, hw⟩ := hw
  subst hsz
  have hS : va_S (xA b 2628 s.heap.size) s.heap s.heap [] := va_S.rf
  refine x_aload_n C dX11_writeStatement_0 rfl ?_
  refine x_iload_n C dX11_writeStatement_1 rfl ?_
  obtain ⟨q1, hq2, hF⟩ := bnd_e hF
  refine t_goT (fun ls h => t_runV (As := [.int a1]) [] h C ml_X11_184 (k_X11_requireShip l D cA s0 z b ν _ hG a1 q1 hq2) ⟨rfl, rfl, nb rfl, nb rfl⟩ rfl (C_PD hw) rfl ⟨rfl, hw⟩ (nb rfl) ⟨nb rfl, nb rfl⟩ dX11_writeStatement_2) hF hS (xA_le hS) C hX (fun _ h => h) (nb rfl) (nb rfl) (fun q3 hF H locs hw hS => ?_)
  refine x_widen (k := 1) (n := 6) (nb rfl) (nb rfl) ?_
  have hw : WC D cA s0 z b ν H := hw
  refine x_aload_n C dX11_writeStatement_5 rfl ?_
  refine x_get (.ref (b + 2627)) C fl_X11_61 (C_PD hw) rfl dX11_writeStatement_6 ?_
  refine x_iload_n C dX11_writeStatement_9 rfl ?_
  obtain ⟨q4, hq5, hF⟩ := bnd_e hF
  refine x_goM (fun ls h => x_runV (As := [.int a1]) [] h C ml_X11_396 (k_X8_statement l D cA s0 z b ν _ hG a1 q4 hq5) ⟨rfl, rfl, nb rfl, nb rfl⟩ rfl (C_Rep hw) rfl ⟨rfl, hw⟩ (nb rfl) ⟨nb rfl, nb rfl⟩ dX11_writeStatement_10) hS (xA_le hS) (fun H locs hw hz hk hS => ?_)
  have hw : WC D cA s0 z b q4 H := hw
  refine x_aload_n C dX11_writeStatement_13 rfl ?_
  refine x_get (.ref (b + 4)) C fl_X11_18 (C_PD hw) rfl dX11_writeStatement_14 ?_
  refine x_get (.int (q4.1 4 2)) C fl_X11_65 (C_Byt byt4 hw) rfl dX11_writeStatement_17 ?_
  exact t_iret C rfl dX11_writeStatement_20  (rt_o hF) rfl hw hS (nb rfl) (nb rfl)
noncomputable def g_X11_writeInvoice (ν : Mm) (a1 : Int32) : Option (Thr (Int32 × Mm)) := bnd (g_X11_requireInvoice ν a1) (fun q1 => bnx q1 (fun q3 => bnd (g_X8_invoiceSheet ν a1) (fun q4 => some (.ok (q4.1 4 2, q4)))))
set_option maxRecDepth 20000 in
set_option maxHeartbeats 4000000 in
theorem k_X11_writeInvoice (l : Launch) (D : va_G) (cA : Nat → ClassId) (s0 : State) (z : Nat) (b : Nat) (ν : Mm) (sz : Nat) (hG : xG l D cA s0) (a1 : Int32) (r : Thr (Int32 × Mm)) (hF : g_X11_writeInvoice ν a1 = some r) : vx_Met l yX11_writeInvoice (wsG yX11_writeInvoice cX11_writeInvoice 2 (some (FieldType.int))) { frames := 9, cells := 1, slots := 6, locals := 199 } (xP D cA s0 [.ref (b + 0), .int a1] (fun H => H.size = sz ∧ WC D cA s0 z b ν H)) (xQt (fun q => (some (.int q.1))) (fun q H => WC D cA s0 z b q.2 H) (xA b 2628 sz) r) (xXt (fun H => WC D cA s0 z b ν H) (xA b 2628 sz) r) 1 6 (xA b 2628 sz) := by
  refine t_start (z := z) (b := b) (ν := ν) (s0 := s0) (own := RX11) [(0, .ref (b + 0)), (1, .int a1)] rfl rfl (by decide) (nb rfl) ?_
  intro p e s m args below meth c C hX hw
  obtain ⟨hsz, hw⟩ := hw
  subst hsz
  have hS : va_S (xA b 2628 s.heap.size) s.heap s.heap [] := va_S.rf
  refine x_aload_n C dX11_writeInvoice_0 rfl ?_
  refine x_iload_n C dX11_writeInvoice_1 rfl ?_
  obtain ⟨q1, hq2, hF⟩ := bnd_e hF
  refine t_goT (fun ls h => t_runV (As := [.int a1]) [] h C ml_X11_257 (k_X11_requireInvoice l D cA s0 z b ν _ hG a1 q1 hq2) ⟨rfl, rfl, nb rfl, nb rfl⟩ rfl (C_PD hw) rfl ⟨rfl, hw⟩ (nb rfl) ⟨nb rfl, nb rfl⟩ dX11_writeInvoice_2) hF hS (xA_le hS) C hX (fun _ h => h) (nb rfl) (nb rfl) (fun q3 hF H locs hw hS => ?_)
  refine x_widen (k := 1) (n := 6) (nb rfl) (nb rfl) ?_
  have hw : WC D cA s0 z b ν H := hw
  refine x_aload_n C dX11_writeInvoice_5 rfl ?_
  refine x_get (.ref (b + 2627)) C fl_X11_61 (C_PD hw) rfl dX11_writeInvoice_6 ?_
  refine x_iload_n C dX11_writeInvoice_9 rfl ?_
  obtain ⟨q4, hq5, hF⟩ := bnd_e hF
  refine x_goM (fun ls h => x_runV (As := [.int a1]) [] h C ml_X11_399 (k_X8_invoiceSheet l D cA s0 z b ν _ hG a1 q4 hq5) ⟨rfl, rfl, nb rfl, nb rfl⟩ rfl (C_Rep hw) rfl ⟨rfl, hw⟩ (nb rfl) ⟨nb rfl, nb rfl⟩ dX11_writeInvoice_10) hS (xA_le hS) (fun H locs hw hz hk hS => ?_)
  have hw : WC D cA s0 z b q4 H := hw
  refine x_aload_n C dX11_writeInvoice_13 rfl ?_
  refine x_get (.ref (b + 4)) C fl_X11_18 (C_PD hw) rfl dX11_writeInvoice_14 ?_
  refine x_get (.int (q4.1 4 2)) C fl_X11_65 (C_Byt byt4 hw) rfl dX11_writeInvoice_17 ?_
  exact t_iret C rfl dX11_writeInvoice_20  (rt_o hF) rfl hw hS (nb rfl) (nb rfl)
noncomputable def g_X11_writeTariff (ν : Mm) (a1 : Int32) : Option (Thr (Int32 × Mm)) := bnd (g_X11_requireIndex ν a1 ((ν.1 7 9) + (1 : Int32))) (fun q1 => bnx q1 (fun q3 => bnd (g_X8_tariffSheet ν a1) (fun q4 => some (.ok (q4.1 4 2, q4)))))
set_option maxRecDepth 20000 in
set_option maxHeartbeats 4000000 in
theorem k_X11_writeTariff (l : Launch) (D : va_G) (cA : Nat → ClassId) (s0 : State) (z : Nat) (b : Nat) (ν : Mm) (sz : Nat) (hG : xG l D cA s0) (a1 : Int32) (r : Thr (Int32 × Mm)) (hF : g_X11_writeTariff ν a1 = some r) : vx_Met l yX11_writeTariff (wsG yX11_writeTariff cX11_writeTariff 2 (some (FieldType.int))) { frames := 8, cells := 1, slots := 6, locals := 154 } (xP D cA s0 [.ref (b + 0), .int a1] (fun H => H.size = sz ∧ WC D cA s0 z b ν H)) (xQt (fun q => (some (.int q.1))) (fun q H => WC D cA s0 z b q.2 H) (xA b 2628 sz) r) (xXt (fun H => WC D cA s0 z b ν H) (xA b 2628 sz) r) 1 6 (xA b 2628 sz) := by
  refine t_start (z := z) (b := b) (ν := ν) (s0 := s0) (own := RX11) [(0, .ref (b + 0)), (1, .int a1)] rfl rfl (by decide) (nb rfl) ?_
  intro p e s m args below meth c C hX hw
  obtain ⟨hsz, hw⟩ := hw
  subst hsz
  have hS : va_S (xA b 2628 s.heap.size) s.heap s.heap [] := va_S.rf
  refine x_iload_n C dX11_writeTariff_0 rfl ?_
  refine x_aload_n C dX11_writeTariff_1 rfl ?_
  refine x_get (.ref (b + 7)) C fl_X11_24 (C_PD hw) rfl dX11_writeTariff_2 ?_
  refine x_get (.int (ν.1 7 9)) C fl_X11_112 (C_Led led7 hw) rfl dX11_writeTariff_5 ?_
  refine x_iconst (1 : Int32) C dX11_writeTariff_8 rfl ?_
  refine x_iadd C dX11_writeTariff_9 ?_
  obtain ⟨q1, hq2, hF⟩ := bnd_e hF
  refine t_goT (fun ls h => t_runS (As := [.int a1, .int ((ν.1 7 9) + (1 : Int32))]) [] h C ml_X11_153 (k_X11_requireIndex l D cA s0 z b ν _ hG a1 ((ν.1 7 9) + (1 : Int32)) q1 hq2) ⟨rfl, rfl, nb rfl, nb rfl⟩ rfl ⟨rfl, hw⟩ (nb rfl) ⟨nb rfl, nb rfl⟩ dX11_writeTariff_10) hF hS (xA_le hS) C hX (fun _ h => h) (nb rfl) (nb rfl) (fun q3 hF H locs hw hS => ?_)
  refine x_widen (k := 1) (n := 6) (nb rfl) (nb rfl) ?_
  have hw : WC D cA s0 z b ν H := hw
  refine x_aload_n C dX11_writeTariff_13 rfl ?_
  refine x_get (.ref (b + 2627)) C fl_X11_61 (C_PD hw) rfl dX11_writeTariff_14 ?_
  refine x_iload_n C dX11_writeTariff_17 rfl ?_
  obtain ⟨q4, hq5, hF⟩ := bnd_e hF
  refine x_goM (fun ls h => x_runV (As := [.int a1]) [] h C ml_X11_402 (k_X8_tariffSheet l D cA s0 z b ν _ hG a1 q4 hq5) ⟨rfl, rfl, nb rfl, nb rfl⟩ rfl (C_Rep hw) rfl ⟨rfl, hw⟩ (nb rfl) ⟨nb rfl, nb rfl⟩ dX11_writeTariff_18) hS (xA_le hS) (fun H locs hw hz hk hS => ?_)
  have hw : WC D cA s0 z b q4 H := hw
  refine x_aload_n C dX11_writeTariff_21 rfl ?_
  refine x_get (.ref (b + 4)) C fl_X11_18 (C_PD hw) rfl dX11_writeTariff_22 ?_
  refine x_get (.int (q4.1 4 2)) C fl_X11_65 (C_Byt byt4 hw) rfl dX11_writeTariff_25 ?_
  exact t_iret C rfl dX11_writeTariff_28  (rt_o hF) rfl hw hS (nb rfl) (nb rfl)
noncomputable def g_X11_outputByte (ν : Mm) (a1 : Int32) : Option (Thr Int32) := bnd (g_X11_requireIndex ν a1 (ν.1 4 2)) (fun q1 => bnx q1 (fun q3 => bnd (g_X1_byteAt ν 4 a1) (fun q4 => some (.ok q4))))
set_option maxRecDepth 20000 in
set_option maxHeartbeats 4000000 in
theorem k_X11_outputByte (l : Launch) (D : va_G) (cA : Nat → ClassId) (s0 : State) (z : Nat) (b : Nat) (ν : Mm) (sz : Nat) (hG : xG l D cA s0) (a1 : Int32) (r : Thr Int32) (hF : g_X11_outputByte ν a1 = some r) : vx_Met l yX11_outputByte (wsG yX11_outputByte cX11_outputByte 2 (some (FieldType.int))) { frames := 8, cells := 1, slots := 6, locals := 154 } (xP D cA s0 [.ref (b + 0), .int a1] (fun H => H.size = sz ∧ WC D cA s0 z b ν H)) (xQt (fun q => (some (.int q))) (fun _ H => WC D cA s0 z b ν H) (xA b 2628 sz) r) (xXt (fun H => WC D cA s0 z b ν H) (xA b 2628 sz) r) 1 6 (xA b 2628 sz) := by
  refine t_start (z := z) (b := b) (ν := ν) (s0 := s0) (own := RX11) [(0, .ref (b + 0)), (1, .int a1)] rfl rfl (by decide) (nb rfl) ?_
  intro p e s m args below meth c C hX hw
  obtain ⟨hsz, hw⟩ := hw
  subst hsz
  have hS : va_S (xA b 2628 s.heap.size) s.heap s.heap [] := va_S.rf
  refine x_iload_n C dX11_outputByte_0 rfl ?_
  refine x_aload_n C dX11_outputByte_1 rfl ?_
  refine x_get (.ref (b + 4)) C fl_X11_18 (C_PD hw) rfl dX11_outputByte_2 ?_
  refine x_get (.int (ν.1 4 2)) C fl_X11_65 (C_Byt byt4 hw) rfl dX11_outputByte_5 ?_
  obtain ⟨q1, hq2, hF⟩ := bnd_e hF
  refine t_goT (fun ls h => t_runS (As := [.int a1, .int (ν.1 4 2)]) [] h C ml_X11_153 (k_X11_requireIndex l D cA s0 z b ν _ hG a1 (ν.1 4 2) q1 hq2) ⟨rfl, rfl, nb rfl, nb rfl⟩ rfl ⟨rfl, hw⟩ (nb rfl) ⟨nb rfl, nb rfl⟩ dX11_outputByte_8) hF hS (xA_le hS) C hX (fun _ h => h) (nb rfl) (nb rfl) (fun q3 hF H locs hw hS => ?_)
  refine x_widen (k := 1) (n := 6) (nb rfl) (nb rfl) ?_
  have hw : WC D cA s0 z b ν H := hw
  refine x_aload_n C dX11_outputByte_11 rfl ?_
  refine x_get (.ref (b + 4)) C fl_X11_18 (C_PD hw) rfl dX11_outputByte_12 ?_
  refine x_iload_n C dX11_outputByte_15 rfl ?_
  obtain ⟨q4, hq5, hF⟩ := bnd_e hF
  refine x_goR (fun ls h => x_runV (As := [.int a1]) [] h C ml_X11_405 (k_X1_byteAt l D cA s0 z b ν hG 4 a1 q4 hq5) ⟨rfl, rfl, nb rfl, nb rfl⟩ rfl (C_Byt byt4 hw) rfl hw (nb rfl) ⟨nb rfl, nb rfl⟩ dX11_outputByte_16) ?_
  exact t_iret C rfl dX11_outputByte_19  (rt_o hF) rfl hw hS (nb rfl) (nb rfl)
