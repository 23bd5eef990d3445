noncomputable def g_X11_furtherRebate (ν : Mm) (a1 : Int32) (a2 : Int32) : Option (Int32) := bnd (g_X5_callsInYear ν 7 a1 (a2 / (360 : Int32))) (fun q1 => bnd (g_X5_present ν 7) (fun q3 => asr (isTar q3) (asr (vp_in a1 8) (bnd (g_X10_rebateFor ν q3 (ν.1 (7 + (6 + 2 * (cl a1))) 2) (q1 + (1 : Int32))) (fun q9 => some q9)))))
set_option maxRecDepth 20000 in
set_option maxHeartbeats 4000000 in
theorem k_X11_furtherRebate (l : Launch) (D : va_G) (cA : Nat → ClassId) (s0 : State) (z : Nat) (b : Nat) (ν : Mm) (hG : xG l D cA s0) (a1 : Int32) (a2 : Int32) (r : Int32) (hF : g_X11_furtherRebate ν a1 a2 = some r) : Met l yX11_furtherRebate (wsG yX11_furtherRebate cX11_furtherRebate 4 (some (FieldType.int))) { frames := 2, cells := 0, slots := 0, locals := 51 } (xP D cA s0 [.ref (b + 0), .int a1, .int a2] (WC D cA s0 z b ν)) (xQr (some (.int r))) 0 0 xN := by
  refine x_start (own := RX11) [(0, .ref (b + 0)), (1, .int a1), (2, .int a2)] rfl rfl (by decide) (nb rfl) ?_
  intro p e s m args below meth c C hw
  refine x_aload_n C dX11_furtherRebate_0 rfl ?_
  refine x_get (.ref (b + 7)) C fl_X11_24 (C_PD hw) rfl dX11_furtherRebate_1 ?_
  refine x_iload_n C dX11_furtherRebate_4 rfl ?_
  refine x_iload_n C dX11_furtherRebate_5 rfl ?_
  refine x_sipush (360 : Int32) C dX11_furtherRebate_6 rfl ?_
  refine x_idiv C dX11_furtherRebate_9 (by decide) ?_
  obtain ⟨q1, hq2, hF⟩ := bnd_e hF
  refine x_goR (fun ls h => x_runV (As := [.int a1, .int (a2 / (360 : Int32))]) [] h C ml_X11_196 (k_X5_callsInYear l D cA s0 z b ν hG 7 a1 (a2 / (360 : Int32)) q1 hq2) ⟨rfl, rfl, nb rfl, nb rfl⟩ rfl (C_Led led7 hw) rfl hw (nb rfl) ⟨Nat.zero_le _, Nat.zero_le _⟩ dX11_furtherRebate_10) ?_
  refine x_iconst (1 : Int32) C dX11_furtherRebate_13 rfl ?_
  refine x_iadd C dX11_furtherRebate_14 ?_
  refine x_istore_n [(3, .int (q1 + (1 : Int32))), (0, .ref (b + 0)), (1, .int a1), (2, .int a2)] C dX11_furtherRebate_15 rfl (by decide) rfl ?_
  refine x_aload_n C dX11_furtherRebate_16 rfl ?_
  refine x_get (.ref (b + 7)) C fl_X11_24 (C_PD hw) rfl dX11_furtherRebate_17 ?_
  obtain ⟨q3, hq4, hF⟩ := bnd_e hF
  refine x_goR (fun ls h => x_runV (As := []) [] h C ml_X11_118 (k_X5_present l D cA s0 z b ν hG 7 q3 hq4) ⟨rfl, rfl, nb rfl, nb rfl⟩ rfl (C_Led led7 hw) rfl hw (nb rfl) ⟨Nat.zero_le _, Nat.zero_le _⟩ dX11_furtherRebate_20) ?_
  obtain ⟨h5, hF⟩ := asr_e hF
  refine x_aload_n C dX11_furtherRebate_23 rfl ?_
  refine x_get (.ref (b + 7)) C fl_X11_24 (C_PD hw) rfl dX11_furtherRebate_24 ?_
  refine x_get (.ref (b + (7 + 1))) C fl_X11_187 (C_Led led7 hw) rfl dX11_furtherRebate_27 ?_
  refine x_iload_n C dX11_furtherRebate_30 rfl ?_
  obtain ⟨h6, hF⟩ := asr_e hF
  obtain ⟨hn7, hl8⟩ := vpn h6 (by decide)
  refine x_aald 3 C (C_ships led7 hw) rfl hn7 hl8 (by decide) rfl dX11_furtherRebate_31 ?_
  refine x_get (.int (ν.1 (7 + (6 + 2 * (cl a1))) 2)) C fl_X11_191 (C_Ship (mk_Ship led7 hl8) hw) rfl dX11_furtherRebate_32 ?_
  refine x_iload_n C dX11_furtherRebate_35 rfl ?_
  obtain ⟨q9, hq10, hF⟩ := bnd_e hF
  refine x_goR (fun ls h => x_runV (As := [.int (ν.1 (7 + (6 + 2 * (cl a1))) 2), .int (q1 + (1 : Int32))]) [] h C ml_X11_348 (k_X10_rebateFor l D cA s0 z b ν hG q3 (ν.1 (7 + (6 + 2 * (cl a1))) 2) (q1 + (1 : Int32)) q9 hq10) ⟨rfl, rfl, nb rfl, nb rfl⟩ rfl (C_Tar h5 hw) rfl hw (nb rfl) ⟨Nat.zero_le _, Nat.zero_le _⟩ dX11_furtherRebate_36) ?_
  exact x_iretR C rfl dX11_furtherRebate_39  (r_i hF)
noncomputable def g_X11_bestDay_L61 (ν : Mm) (a1 : Int32) (a2 : Int32) (a3 : Int32) (a4 : Int32) (a5 : Int32) : Nat → Int32 → Int32 → Int32 → Option (Thr Int32)
  | 0, _, _, _ => none
  | n + 1, x6, x7, x8 => (if a3 < x8 then some (.ok x6) else bnd (g_X11_furtherRebate ν a1 x8) (fun q19 => (if x7 ≤ q19 then (g_X11_bestDay_L61 ν a1 a2 a3 a4 a5 n x6 x7 (x8 + (1 : Int32))) else (g_X11_bestDay_L61 ν a1 a2 a3 a4 a5 n x8 q19 (x8 + (1 : Int32))))))
noncomputable def g_X11_bestDay (ν : Mm) (a1 : Int32) (a2 : Int32) (a3 : Int32) (a4 : Int32) (a5 : Int32) : Option (Thr Int32) := bnd (g_X11_requireShip ν a1) (fun q1 => bnx q1 (fun q3 => bnd (g_X11_requireRange ν a2 (0 : Int32) (3599 : Int32)) (fun q4 => bnx q4 (fun q6 => bnd (g_X11_requireRange ν a3 a2 (imin (a2 + (99 : Int32)) (3599 : Int32))) (fun q7 => bnx q7 (fun q9 => bnd (g_X11_requireRange ν a4 (1 : Int32) (30 : Int32)) (fun q10 => bnx q10 (fun q12 => bnd (g_X11_requireRange ν a5 (0 : Int32) (999 : Int32)) (fun q13 => bnx q13 (fun q15 => bnd (g_X11_furtherRebate ν a1 a2) (fun q16 => (g_X11_bestDay_L61 ν a1 a2 a3 a4 a5 10000 a2 q16 (a2 + (1 : Int32))))))))))))))
set_option maxRecDepth 20000 in
set_option maxHeartbeats 4000000 in
theorem k_X11_bestDay (l : Launch) (D : va_G) (cA : Nat → ClassId) (s0 : State) (z : Nat) (b : Nat) (ν : Mm) (sz : Nat) (hG : xG l D cA s0) (a1 : Int32) (a2 : Int32) (a3 : Int32) (a4 : Int32) (a5 : Int32) (r : Thr Int32) (hF : g_X11_bestDay ν a1 a2 a3 a4 a5 = some r) : vx_Met l yX11_bestDay (wsG yX11_bestDay cX11_bestDay 10 (some (FieldType.int))) { frames := 9, cells := 5, slots := 30, locals := 175 } (xP D cA s0 [.ref (b + 0), .int a1, .int a2, .int a3, .int a4, .int a5] (fun H => H.size = sz ∧ WC D cA s0 z b ν H)) (xQt (fun q => (some (.int q))) (fun _ H => WC D cA s0 z b ν H) (xA b 2628 sz) r) (xXt (fun H => WC D cA s0 z b ν H) (xA b 2628 sz) r) 5 30 (xA b 2628 sz) := by
  refine t_start (z := z) (b := b) (ν := ν) (s0 := s0) (own := RX11) [(0, .ref (b + 0)), (1, .int a1), (2, .int a2), (3, .int a3), (4, .int a4), (5, .int a5)] rfl rfl (by decide) (nb rfl) ?_
  intro p e s m args below meth c C hX hw
  obtain ⟨hsz, hw⟩ := hw
  subst hsz
  have hS : va_S (xA b 2628 s.heap.size) s.heap s.heap [] := va_S.rf
  have h_L61 : ∀ (n : Nat) (x6 : Int32) (x7 : Int32) (x8 : Int32) (H : Heap) (locs : List Loc) (hw : WC D cA s0 z b ν H) (hS : va_S (xA b 2628 s.heap.size) s.heap H locs), g_X11_bestDay_L61 ν a1 a2 a3 a4 a5 n x6 x7 x8 = some r → xW p l e { frames := 9, cells := 5, slots := 30, locals := 175 } s m args below meth c 10 (vx_MQ below (xQt (fun q => (some (.int q))) (fun _ H => WC D cA s0 z b ν H) (xA b 2628 s.heap.size) r) (xXt (fun H => WC D cA s0 z b ν H) (xA b 2628 s.heap.size) r) args s 5 30 (xA b 2628 s.heap.size)) H locs 5 30 61 [(0, .ref (b + 0)), (1, .int a1), (3, .int a3), (6, .int x6), (7, .int x7), (8, .int x8)] [] := by
    intro n
    induction n with
    | zero =>
      intro x6 x7 x8 H locs hw hS hF
      exact no_some hF
    | succ n ih =>
      intro x6 x7 x8 H locs hw hS hF
      have ih61 := ih
      refine x_iload C dX11_bestDay_61 rfl ?_
      refine x_iload_n C dX11_bestDay_63 rfl ?_
      refine x_icmp_gt 97 C dX11_bestDay_64 (by decide) (fun c18 => ?_) (fun c18 => ?_)
      · have hF := ite_t hF c18
        refine x_iload C dX11_bestDay_97 rfl ?_
        exact t_iret C rfl dX11_bestDay_99  (rt_o hF) rfl hw hS (nb rfl) (nb rfl)
      · have hF := ite_f hF c18
        refine x_aload_n C dX11_bestDay_67 rfl ?_
        refine x_iload_n C dX11_bestDay_68 rfl ?_
        refine x_iload C dX11_bestDay_69 rfl ?_
        obtain ⟨q19, hq20, hF⟩ := bnd_e hF
        refine x_goR (fun ls h => x_runV (As := [.int a1, .int x8]) [] h C ml_X11_356 (k_X11_furtherRebate l D cA s0 z b ν hG a1 x8 q19 hq20) ⟨rfl, rfl, nb rfl, nb rfl⟩ rfl (C_PD hw) rfl hw (nb rfl) ⟨nb rfl, nb rfl⟩ dX11_bestDay_71) ?_
        refine x_istore [(9, .int q19), (0, .ref (b + 0)), (1, .int a1), (3, .int a3), (6, .int x6), (7, .int x7), (8, .int x8)] C dX11_bestDay_74 (by decide) rfl ?_
        refine x_iload C dX11_bestDay_76 rfl ?_
        refine x_iload C dX11_bestDay_78 rfl ?_
        refine x_icmp_ge 91 C dX11_bestDay_80 (by decide) (fun c21 => ?_) (fun c21 => ?_)
        · have hF := ite_t hF c21
          refine x_iinc (x8 + (1 : Int32)) [(8, .int (x8 + (1 : Int32))), (9, .int q19), (0, .ref (b + 0)), (1, .int a1), (3, .int a3), (6, .int x6), (7, .int x7)] C dX11_bestDay_91 rfl rfl (by decide) rfl ?_
          refine x_goto 61 C dX11_bestDay_94 (by decide) ?_
          refine x_sub [(0, .ref (b + 0)), (1, .int a1), (3, .int a3), (6, .int x6), (7, .int x7), (8, .int (x8 + (1 : Int32)))] [2, 3, 4, 5, 6, 0] rfl ?_
          exact ih61 x6 x7 (x8 + (1 : Int32)) _ _ hw hS hF
        · have hF := ite_f hF c21
          refine x_iload C dX11_bestDay_83 rfl ?_
          refine x_istore [(6, .int x8), (9, .int q19), (0, .ref (b + 0)), (1, .int a1), (3, .int a3), (7, .int x7), (8, .int x8)] C dX11_bestDay_85 (by decide) rfl ?_
          refine x_iload C dX11_bestDay_87 rfl ?_
          refine x_istore [(7, .int q19), (6, .int x8), (9, .int q19), (0, .ref (b + 0)), (1, .int a1), (3, .int a3), (8, .int x8)] C dX11_bestDay_89 (by decide) rfl ?_
          refine x_iinc (x8 + (1 : Int32)) [(8, .int (x8 + (1 : Int32))), (7, .int q19), (6, .int x8), (9, .int q19), (0, .ref (b + 0)), (1, .int a1), (3, .int a3)] C dX11_bestDay_91 rfl rfl (by decide) rfl ?_
          refine x_goto 61 C dX11_bestDay_94 (by decide) ?_
          refine x_sub [(0, .ref (b + 0)), (1, .int a1), (3, .int a3), (6, .int x8), (7, .int q19), (8, .int (x8 + (1 : Int32)))] [4, 5, 6, 2, 1, 0] rfl ?_
          exact ih61 x8 q19 (x8 + (1 : Int32)) _ _ hw hS hF
  refine x_aload_n C dX11_bestDay_0 rfl ?_
  refine x_iload_n C dX11_bestDay_1 rfl ?_
  obtain ⟨q1, hq2, hF⟩ := bnd_e hF
  refine t_goT (fun ls h => t_runV (As := [.int a1]) [] h C ml_X11_184 (k_X11_requireShip l D cA s0 z b ν _ hG a1 q1 hq2) ⟨rfl, rfl, nb rfl, nb rfl⟩ rfl (C_PD hw) rfl ⟨rfl, hw⟩ (nb rfl) ⟨nb rfl, nb rfl⟩ dX11_bestDay_2) hF hS (xA_le hS) C hX (fun _ h => h) (nb rfl) (nb rfl) (fun q3 hF H locs hw hS => ?_)
  refine x_widen (k := 1) (n := 6) (nb rfl) (nb rfl) ?_
  have hw : WC D cA s0 z b ν H := hw
  refine x_iload_n C dX11_bestDay_5 rfl ?_
  refine x_iconst (0 : Int32) C dX11_bestDay_6 rfl ?_
  refine x_sipush (3599 : Int32) C dX11_bestDay_7 rfl ?_
  obtain ⟨q4, hq5, hF⟩ := bnd_e hF
  refine t_goT (fun ls h => t_runS (As := [.int a2, .int (0 : Int32), .int (3599 : Int32)]) [] h C ml_X11_76 (k_X11_requireRange l D cA s0 z b ν _ hG a2 (0 : Int32) (3599 : Int32) q4 hq5) ⟨rfl, rfl, nb rfl, nb rfl⟩ rfl ⟨rfl, hw⟩ (nb rfl) ⟨nb rfl, nb rfl⟩ dX11_bestDay_10) hF hS (xA_le hS) C hX (fun _ h => h) (nb rfl) (nb rfl) (fun q6 hF H locs hw hS => ?_)
  refine x_widen (k := 2) (n := 12) (nb rfl) (nb rfl) ?_
  have hw : WC D cA s0 z b ν H := hw
  refine x_iload_n C dX11_bestDay_13 rfl ?_
  refine x_iload_n C dX11_bestDay_14 rfl ?_
  refine x_iload_n C dX11_bestDay_15 rfl ?_
  refine x_bipush (99 : Int32) C dX11_bestDay_16 rfl ?_
  refine x_iadd C dX11_bestDay_18 ?_
  refine x_sipush (3599 : Int32) C dX11_bestDay_19 rfl ?_
  refine x_mmin C ml_X11_351 (nb rfl) (nb rfl) ⟨nb rfl, nb rfl⟩ dX11_bestDay_22 ?_
  obtain ⟨q7, hq8, hF⟩ := bnd_e hF
  refine t_goT (fun ls h => t_runS (As := [.int a3, .int a2, .int (imin (a2 + (99 : Int32)) (3599 : Int32))]) [] h C ml_X11_76 (k_X11_requireRange l D cA s0 z b ν _ hG a3 a2 (imin (a2 + (99 : Int32)) (3599 : Int32)) q7 hq8) ⟨rfl, rfl, nb rfl, nb rfl⟩ rfl ⟨rfl, hw⟩ (nb rfl) ⟨nb rfl, nb rfl⟩ dX11_bestDay_25) hF hS (xA_le hS) C hX (fun _ h => h) (nb rfl) (nb rfl) (fun q9 hF H locs hw hS => ?_)
  refine x_widen (k := 3) (n := 18) (nb rfl) (nb rfl) ?_
  have hw : WC D cA s0 z b ν H := hw
  refine x_iload C dX11_bestDay_28 rfl ?_
  refine x_iconst (1 : Int32) C dX11_bestDay_30 rfl ?_
  refine x_bipush (30 : Int32) C dX11_bestDay_31 rfl ?_
  obtain ⟨q10, hq11, hF⟩ := bnd_e hF
  refine t_goT (fun ls h => t_runS (As := [.int a4, .int (1 : Int32), .int (30 : Int32)]) [] h C ml_X11_76 (k_X11_requireRange l D cA s0 z b ν _ hG a4 (1 : Int32) (30 : Int32) q10 hq11) ⟨rfl, rfl, nb rfl, nb rfl⟩ rfl ⟨rfl, hw⟩ (nb rfl) ⟨nb rfl, nb rfl⟩ dX11_bestDay_33) hF hS (xA_le hS) C hX (fun _ h => h) (nb rfl) (nb rfl) (fun q12 hF H locs hw hS => ?_)
  refine x_widen (k := 4) (n := 24) (nb rfl) (nb rfl) ?_
  have hw : WC D cA s0 z b ν H := hw
  refine x_iload C dX11_bestDay_36 rfl ?_
  refine x_iconst (0 : Int32) C dX11_bestDay_38 rfl ?_
  refine x_sipush (999 : Int32) C dX11_bestDay_39 rfl ?_
  obtain ⟨q13, hq14, hF⟩ := bnd_e hF
  refine t_goT (fun ls h => t_runS (As := [.int a5, .int (0 : Int32), .int (999 : Int32)]) [] h C ml_X11_76 (k_X11_requireRange l D cA s0 z b ν _ hG a5 (0 : Int32) (999 : Int32) q13 hq14) ⟨rfl, rfl, nb rfl, nb rfl⟩ rfl ⟨rfl, hw⟩ (nb rfl) ⟨nb rfl, nb rfl⟩ dX11_bestDay_42) hF hS (xA_le hS) C hX (fun _ h => h) (nb rfl) (nb rfl) (fun q15 hF H locs hw hS => ?_)
  refine x_widen (k := 5) (n := 30) (nb rfl) (nb rfl) ?_
  have hw : WC D cA s0 z b ν H := hw
  refine x_iload_n C dX11_bestDay_45 rfl ?_
  refine x_istore [(6, .int a2), (0, .ref (b + 0)), (1, .int a1), (2, .int a2), (3, .int a3), (4, .int a4), (5, .int a5)] C dX11_bestDay_46 (by decide) rfl ?_
  refine x_aload_n C dX11_bestDay_48 rfl ?_
  refine x_iload_n C dX11_bestDay_49 rfl ?_
  refine x_iload_n C dX11_bestDay_50 rfl ?_
  obtain ⟨q16, hq17, hF⟩ := bnd_e hF
  refine x_goR (fun ls h => x_runV (As := [.int a1, .int a2]) [] h C ml_X11_356 (k_X11_furtherRebate l D cA s0 z b ν hG a1 a2 q16 hq17) ⟨rfl, rfl, nb rfl, nb rfl⟩ rfl (C_PD hw) rfl hw (nb rfl) ⟨nb rfl, nb rfl⟩ dX11_bestDay_51) ?_
  refine x_istore [(7, .int q16), (6, .int a2), (0, .ref (b + 0)), (1, .int a1), (2, .int a2), (3, .int a3), (4, .int a4), (5, .int a5)] C dX11_bestDay_54 (by decide) rfl ?_
  refine x_iload_n C dX11_bestDay_56 rfl ?_
  refine x_iconst (1 : Int32) C dX11_bestDay_57 rfl ?_
  refine x_iadd C dX11_bestDay_58 ?_
  refine x_istore [(8, .int (a2 + (1 : Int32))), (7, .int q16), (6, .int a2), (0, .ref (b + 0)), (1, .int a1), (2, .int a2), (3, .int a3), (4, .int a4), (5, .int a5)] C dX11_bestDay_59 (by decide) rfl ?_
  refine x_sub [(0, .ref (b + 0)), (1, .int a1), (3, .int a3), (6, .int a2), (7, .int q16), (8, .int (a2 + (1 : Int32)))] [3, 4, 6, 2, 1, 0] rfl ?_
  exact h_L61 10000 a2 q16 (a2 + (1 : Int32)) _ _ hw hS hF
noncomputable def g_X11_addCall_J29 (ν : Mm) (a1 : Int32) (a2 : Int32) (a3 : Int32) (a4 : Int32) (y0 : Bool) : Option (Thr (Int32 × Mm)) := bnd (g_X11_requireState ν y0) (fun q8 => bnx q8 (fun q10 => bnd (g_X3_save ν 7) (fun q11 => bnd (g_X5_newCall q11 7 a1 a2 a3 a4) (fun q13 => some (.ok (q13.1, q13.2))))))
noncomputable def g_X11_addCall (ν : Mm) (a1 : Int32) (a2 : Int32) (a3 : Int32) (a4 : Int32) : Option (Thr (Int32 × Mm)) := bnd (g_X11_requireShip ν a1) (fun q1 => bnx q1 (fun q3 => bnd (g_X11_requireStay ν a2 a3 a4) (fun q4 => bnx q4 (fun q6 => (if (40 : Int32) ≤ (ν.1 7 6) then (g_X11_addCall_J29 ν a1 a2 a3 a4 false) else (g_X11_addCall_J29 ν a1 a2 a3 a4 true))))))
set_option maxRecDepth 20000 in
set_option maxHeartbeats 4000000 in
theorem k_X11_addCall (l : Launch) (D : va_G) (cA : Nat → ClassId) (s0 : State) (z : Nat) (b : Nat) (ν : Mm) (sz : Nat) (hG : xG l D cA s0) (a1 : Int32) (a2 : Int32) (a3 : Int32) (a4 : Int32) (r : Thr (Int32 × Mm)) (hF : g_X11_addCall ν a1 a2 a3 a4 = some r) : vx_Met l yX11_addCall (wsG yX11_addCall cX11_addCall 5 (some (FieldType.int))) { frames := 10, cells := 5, slots := 30, locals := 197 } (xP D cA s0 [.ref (b + 0), .int a1, .int a2, .int a3, .int a4] (fun H => H.size = sz ∧ WC D cA s0 z b ν H)) (xQt (fun q => (some (.int q.1))) (fun q H => WC D cA s0 z b q.2 H) (xA b 2628 sz) r) (xXt (fun H => WC D cA s0 z b ν H) (xA b 2628 sz) r) 5 30 (xA b 2628 sz) := by
  refine t_start (z := z) (b := b) (ν := ν) (s0 := s0) (own := RX11) [(0, .ref (b + 0)), (1, .int a1), (2, .int a2), (3, .int a3), (4, .int a4)] rfl rfl (by decide) (nb rfl) ?_
  intro p e s m args below meth c C hX hw
  obtain ⟨hsz, hw⟩ := hw
  subst hsz
  have hS : va_S (xA b 2628 s.heap.size) s.heap s.heap [] := va_S.rf
  have h_J29 : ∀ (y0 : Bool) (H : Heap) (locs : List Loc) (hw : WC D cA s0 z b ν H) (hS : va_S (xA b 2628 s.heap.size) s.heap H locs), g_X11_addCall_J29 ν a1 a2 a3 a4 y0 = some r → xW p l e { frames := 10, cells := 5, slots := 30, locals := 197 } s m args below meth c 5 (vx_MQ below (xQt (fun q => (some (.int q.1))) (fun q H => WC D cA s0 z b q.2 H) (xA b 2628 s.heap.size) r) (xXt (fun H => WC D cA s0 z b ν H) (xA b 2628 s.heap.size) r) args s 5 30 (xA b 2628 s.heap.size)) H locs 4 24 29 [(0, .ref (b + 0)), (1, .int a1), (2, .int a2), (3, .int a3), (4, .int a4)] [.int (bI y0)] := by
    intro y0 H locs hw hS hF
    obtain ⟨q8, hq9, hF⟩ := bnd_e hF
    refine t_goT (fun ls h => t_runS (As := [.int (bI y0)]) [] h C ml_X11_69 (k_X11_requireState l D cA s0 z b ν _ hG y0 q8 hq9) ⟨rfl, rfl, nb rfl, nb rfl⟩ rfl ⟨rfl, hw⟩ (nb rfl) ⟨nb rfl, nb rfl⟩ dX11_addCall_29) hF hS (xA_le hS) C hX (fun _ h => h) (nb rfl) (nb rfl) (fun q10 hF H locs hw hS => ?_)
    refine x_widen (k := 5) (n := 30) (nb rfl) (nb rfl) ?_
    have hw : WC D cA s0 z b ν H := hw
    refine x_aload_n C dX11_addCall_32 rfl ?_
    refine x_get (.ref (b + 662)) C fl_X11_43 (C_PD hw) rfl dX11_addCall_33 ?_
    refine x_aload_n C dX11_addCall_36 rfl ?_
    refine x_get (.ref (b + 7)) C fl_X11_24 (C_PD hw) rfl dX11_addCall_37 ?_
    obtain ⟨q11, hq12, hF⟩ := bnd_e hF
    refine x_goM (fun ls h => x_runV (As := [.ref (b + 7)]) [] h C ml_X11_84 (k_X3_save l D cA s0 z b ν _ hG 7 q11 hq12) ⟨rfl, rfl, nb rfl, nb rfl⟩ rfl (C_His hw) rfl ⟨rfl, hw⟩ (nb rfl) ⟨nb rfl, nb rfl⟩ dX11_addCall_40) hS (xA_le hS) (fun H locs hw hz hk hS => ?_)
    have hw : WC D cA s0 z b q11 H := hw
    refine x_aload_n C dX11_addCall_43 rfl ?_
    refine x_get (.ref (b + 7)) C fl_X11_24 (C_PD hw) rfl dX11_addCall_44 ?_
    refine x_iload_n C dX11_addCall_47 rfl ?_
    refine x_iload_n C dX11_addCall_48 rfl ?_
    refine x_iload_n C dX11_addCall_49 rfl ?_
    refine x_iload C dX11_addCall_50 rfl ?_
    obtain ⟨q13, hq14, hF⟩ := bnd_e hF
    refine x_goM (fun ls h => x_runV (As := [.int a1, .int a2, .int a3, .int a4]) [] h C ml_X11_359 (k_X5_newCall l D cA s0 z b q11 _ hG 7 a1 a2 a3 a4 q13 hq14) ⟨rfl, rfl, nb rfl, nb rfl⟩ rfl (C_Led led7 hw) rfl ⟨rfl, hw⟩ (nb rfl) ⟨nb rfl, nb rfl⟩ dX11_addCall_52) hS (xA_le hS) (fun H locs hw hz hk hS => ?_)
    have hw : WC D cA s0 z b q13.2 H := hw
    exact t_iret C rfl dX11_addCall_55  (rt_o hF) rfl hw hS (nb rfl) (nb rfl)
  refine x_aload_n C dX11_addCall_0 rfl ?_
  refine x_iload_n C dX11_addCall_1 rfl ?_
  obtain ⟨q1, hq2, hF⟩ := bnd_e hF
  refine t_goT (fun ls h => t_runV (As := [.int a1]) [] h C ml_X11_184 (k_X11_requireShip l D cA s0 z b ν _ hG a1 q1 hq2) ⟨rfl, rfl, nb rfl, nb rfl⟩ rfl (C_PD hw) rfl ⟨rfl, hw⟩ (nb rfl) ⟨nb rfl, nb rfl⟩ dX11_addCall_2) hF hS (xA_le hS) C hX (fun _ h => h) (nb rfl) (nb rfl) (fun q3 hF H locs hw hS => ?_)
  refine x_widen (k := 1) (n := 6) (nb rfl) (nb rfl) ?_
  have hw : WC D cA s0 z b ν H := hw
  refine x_iload_n C dX11_addCall_5 rfl ?_
  refine x_iload_n C dX11_addCall_6 rfl ?_
  refine x_iload C dX11_addCall_7 rfl ?_
  obtain ⟨q4, hq5, hF⟩ := bnd_e hF
  refine t_goT (fun ls h => t_runS (As := [.int a2, .int a3, .int a4]) [] h C ml_X11_338 (k_X11_requireStay l D cA s0 z b ν _ hG a2 a3 a4 q4 hq5) ⟨rfl, rfl, nb rfl, nb rfl⟩ rfl ⟨rfl, hw⟩ (nb rfl) ⟨nb rfl, nb rfl⟩ dX11_addCall_9) hF hS (xA_le hS) C hX (fun _ h => h) (nb rfl) (nb rfl) (fun q6 hF H locs hw hS => ?_)
  refine x_widen (k := 4) (n := 24) (nb rfl) (nb rfl) ?_
  have hw : WC D cA s0 z b ν H := hw
  refine x_aload_n C dX11_addCall_12 rfl ?_
  refine x_get (.ref (b + 7)) C fl_X11_24 (C_PD hw) rfl dX11_addCall_13 ?_
  refine x_get (.int (ν.1 7 6)) C fl_X11_103 (C_Led led7 hw) rfl dX11_addCall_16 ?_
  refine x_bipush (40 : Int32) C dX11_addCall_19 rfl ?_
  refine x_icmp_ge 28 C dX11_addCall_21 (by decide) (fun c7 => ?_) (fun c7 => ?_)
  · have hF := ite_t hF c7
    refine x_iconst (0 : Int32) C dX11_addCall_28 rfl ?_
    exact h_J29 false _ _ hw hS hF
  · have hF := ite_f hF c7
    refine x_iconst (1 : Int32) C dX11_addCall_24 rfl ?_
    refine x_goto 29 C dX11_addCall_25 (by decide) ?_
    exact h_J29 true _ _ hw hS hF
noncomputable def g_X11_cancel_J49 (ν : Mm) (a1 : Int32) (x2 : Nat) (y0 : Bool) : Option (Thr (Int32 × Mm)) := bnd (g_X11_requireState ν y0) (fun q8 => bnx q8 (fun q10 => bnd (g_X3_save ν 7) (fun q11 => bnd (some (uI q11 x2 4 (1 : Int32))) (fun μ13 => bnd (g_X5_callsLeft μ13 7 (μ13.1 x2 0)) (fun q15 => some (.ok (q15, μ13)))))))
noncomputable def g_X11_cancel_J48 (ν : Mm) (a1 : Int32) (x2 : Nat) : Option (Thr (Int32 × Mm)) := (g_X11_cancel_J49 ν a1 x2 false)
noncomputable def g_X11_cancel (ν : Mm) (a1 : Int32) : Option (Thr (Int32 × Mm)) := bnd (g_X11_requireCall ν a1) (fun q1 => bnx q1 (fun q3 => asr (vp_in a1 40) ((if (ν.1 (7 + (22 + (cl a1))) 4) = 0 then bnd (g_X0_billedLinesOf ν a1) (fun q17 => (if q17 = 0 then bnd (g_X0_billedDaysOf ν a1) (fun q20 => (if q20 = 0 then (g_X11_cancel_J49 ν a1 (7 + (22 + (cl a1))) true) else (g_X11_cancel_J48 ν a1 (7 + (22 + (cl a1)))))) else (g_X11_cancel_J48 ν a1 (7 + (22 + (cl a1)))))) else (g_X11_cancel_J48 ν a1 (7 + (22 + (cl a1))))))))
set_option maxRecDepth 20000 in
set_option maxHeartbeats 4000000 in
theorem k_X11_cancel (l : Launch) (D : va_G) (cA : Nat → ClassId) (s0 : State) (z : Nat) (b : Nat) (ν : Mm) (sz : Nat) (hG : xG l D cA s0) (a1 : Int32) (r : Thr (Int32 × Mm)) (hF : g_X11_cancel ν a1 = some r) : vx_Met l yX11_cancel (wsG yX11_cancel cX11_cancel 3 (some (FieldType.int))) { frames := 9, cells := 2, slots := 12, locals := 175 } (xP D cA s0 [.ref (b + 0), .int a1] (fun H => H.size = sz ∧ WC D cA s0 z b ν H)) (xQt (fun q => (some (.int q.1))) (fun q H => WC D cA s0 z b q.2 H) (xA b 2628 sz) r) (xXt (fun H => WC D cA s0 z b ν H) (xA b 2628 sz) r) 2 12 (xA b 2628 sz) := by
  refine t_start (z := z) (b := b) (ν := ν) (s0 := s0) (own := RX11) [(0, .ref (b + 0)), (1, .int a1)] rfl rfl (by decide) (nb rfl) ?_
  intro p e s m args below meth c C hX hw
  obtain ⟨hsz, hw⟩ := hw
  subst hsz
  have hS : va_S (xA b 2628 s.heap.size) s.heap s.heap [] := va_S.rf
  have h_J49 : ∀ (x2 : Nat) (y0 : Bool) (hpx2 : isCal x2) (H : Heap) (locs : List Loc) (hw : WC D cA s0 z b ν H) (hS : va_S (xA b 2628 s.heap.size) s.heap H locs), g_X11_cancel_J49 ν a1 x2 y0 = some r → xW p l e { frames := 9, cells := 2, slots := 12, locals := 175 } s m args below meth c 3 (vx_MQ below (xQt (fun q => (some (.int q.1))) (fun q H => WC D cA s0 z b q.2 H) (xA b 2628 s.heap.size) r) (xXt (fun H => WC D cA s0 z b ν H) (xA b 2628 s.heap.size) r) args s 2 12 (xA b 2628 s.heap.size)) H locs 1 6 49 [(0, .ref (b + 0)), (2, .ref (b + x2))] [.int (bI y0)] := by
    intro x2 y0 hpx2 H locs hw hS hF
    obtain ⟨q8, hq9, hF⟩ := bnd_e hF
    refine t_goT (fun ls h => t_runS (As := [.int (bI y0)]) [] h C ml_X11_69 (k_X11_requireState l D cA s0 z b ν _ hG y0 q8 hq9) ⟨rfl, rfl, nb rfl, nb rfl⟩ rfl ⟨rfl, hw⟩ (nb rfl) ⟨nb rfl, nb rfl⟩ dX11_cancel_49) hF hS (xA_le hS) C hX (fun _ h => h) (nb rfl) (nb rfl) (fun q10 hF H locs hw hS => ?_)
    refine x_widen (k := 2) (n := 12) (nb rfl) (nb rfl) ?_
    have hw : WC D cA s0 z b ν H := hw
    refine x_aload_n C dX11_cancel_52 rfl ?_
    refine x_get (.ref (b + 662)) C fl_X11_43 (C_PD hw) rfl dX11_cancel_53 ?_
    refine x_aload_n C dX11_cancel_56 rfl ?_
    refine x_get (.ref (b + 7)) C fl_X11_24 (C_PD hw) rfl dX11_cancel_57 ?_
    obtain ⟨q11, hq12, hF⟩ := bnd_e hF
    refine x_goM (fun ls h => x_runV (As := [.ref (b + 7)]) [] h C ml_X11_84 (k_X3_save l D cA s0 z b ν _ hG 7 q11 hq12) ⟨rfl, rfl, nb rfl, nb rfl⟩ rfl (C_His hw) rfl ⟨rfl, hw⟩ (nb rfl) ⟨nb rfl, nb rfl⟩ dX11_cancel_60) hS (xA_le hS) (fun H locs hw hz hk hS => ?_)
    have hw : WC D cA s0 z b q11 H := hw
    refine x_aload_n C dX11_cancel_63 rfl ?_
    refine x_iconst (1 : Int32) C dX11_cancel_64 rfl ?_
    refine y_putZ (kk0 := 4) x2 C fl_X11_220 hw (l2 (lt_Cal hpx2)) (fun nm => S_Cal hpx2) (fun nm => S_Cal hpx2) rfl rfl rfl (fun _ => nb rfl) dX11_cancel_65 hS (xA_in (l2 (lt_Cal hpx2))) (fun H locs hw hS => ?_)
    obtain ⟨μ13, hm14, hF⟩ := bnd_e hF
    have hw : WC D cA s0 z b μ13 H := rv_m (W := fun m => WC D cA s0 z b m _) hm14 hw
    refine x_aload_n C dX11_cancel_68 rfl ?_
    refine x_get (.ref (b + 7)) C fl_X11_24 (C_PD hw) rfl dX11_cancel_69 ?_
    refine x_aload_n C dX11_cancel_72 rfl ?_
    refine x_get (.int (μ13.1 x2 0)) C fl_X11_206 (C_Cal hpx2 hw) rfl dX11_cancel_73 ?_
    obtain ⟨q15, hq16, hF⟩ := bnd_e hF
    refine x_goR (fun ls h => x_runV (As := [.int (μ13.1 x2 0)]) [] h C ml_X11_363 (k_X5_callsLeft l D cA s0 z b μ13 hG 7 (μ13.1 x2 0) q15 hq16) ⟨rfl, rfl, nb rfl, nb rfl⟩ rfl (C_Led led7 hw) rfl hw (nb rfl) ⟨nb rfl, nb rfl⟩ dX11_cancel_76) ?_
    exact t_iret C rfl dX11_cancel_79  (rt_o hF) rfl hw hS (nb rfl) (nb rfl)
  have h_J48 : ∀ (x2 : Nat) (hpx2 : isCal x2) (H : Heap) (locs : List Loc) (hw : WC D cA s0 z b ν H) (hS : va_S (xA b 2628 s.heap.size) s.heap H locs), g_X11_cancel_J48 ν a1 x2 = some r → xW p l e { frames := 9, cells := 2, slots := 12, locals := 175 } s m args below meth c 3 (vx_MQ below (xQt (fun q => (some (.int q.1))) (fun q H => WC D cA s0 z b q.2 H) (xA b 2628 s.heap.size) r) (xXt (fun H => WC D cA s0 z b ν H) (xA b 2628 s.heap.size) r) args s 2 12 (xA b 2628 s.heap.size)) H locs 1 6 48 [(0, .ref (b + 0)), (2, .ref (b + x2))] [] := by
    intro x2 hpx2 H locs hw hS hF
    refine x_iconst (0 : Int32) C dX11_cancel_48 rfl ?_
    exact h_J49 x2 false hpx2 _ _ hw hS hF
  refine x_aload_n C dX11_cancel_0 rfl ?_
  refine x_iload_n C dX11_cancel_1 rfl ?_
  obtain ⟨q1, hq2, hF⟩ := bnd_e hF
  refine t_goT (fun ls h => t_runV (As := [.int a1]) [] h C ml_X11_199 (k_X11_requireCall l D cA s0 z b ν _ hG a1 q1 hq2) ⟨rfl, rfl, nb rfl, nb rfl⟩ rfl (C_PD hw) rfl ⟨rfl, hw⟩ (nb rfl) ⟨nb rfl, nb rfl⟩ dX11_cancel_2) hF hS (xA_le hS) C hX (fun _ h => h) (nb rfl) (nb rfl) (fun q3 hF H locs hw hS => ?_)
  refine x_widen (k := 1) (n := 6) (nb rfl) (nb rfl) ?_
  have hw : WC D cA s0 z b ν H := hw
  refine x_aload_n C dX11_cancel_5 rfl ?_
  refine x_get (.ref (b + 7)) C fl_X11_24 (C_PD hw) rfl dX11_cancel_6 ?_
  refine x_get (.ref (b + (7 + 2))) C fl_X11_202 (C_Led led7 hw) rfl dX11_cancel_9 ?_
  refine x_iload_n C dX11_cancel_12 rfl ?_
  obtain ⟨h4, hF⟩ := asr_e hF
  obtain ⟨hn5, hl6⟩ := vpn h4 (by decide)
  refine x_aald 4 C (C_calls led7 hw) rfl hn5 hl6 (by decide) rfl dX11_cancel_13 ?_
  refine x_astore_n [(2, .ref (b + (7 + (22 + (cl a1))))), (0, .ref (b + 0)), (1, .int a1)] C dX11_cancel_14 rfl (by decide) rfl ?_
  refine x_aload_n C dX11_cancel_15 rfl ?_
  refine x_get (.int (ν.1 (7 + (22 + (cl a1))) 4)) C fl_X11_220 (C_Cal (mk_Cal led7 hl6) hw) rfl dX11_cancel_16 ?_
  refine x_if_ne 48 C dX11_cancel_19 (by decide) (fun c7 => ?_) (fun c7 => ?_)
  · have hF := ite_f hF c7
    refine x_sub [(0, .ref (b + 0)), (2, .ref (b + (7 + (22 + (cl a1)))))] [1, 0] rfl ?_
    exact h_J48 (7 + (22 + (cl a1))) (mk_Cal led7 hl6) _ _ hw hS hF
  · have hF := ite_t hF c7
    refine x_aload_n C dX11_cancel_22 rfl ?_
    refine x_get (.ref (b + 2626)) C fl_X11_52 (C_PD hw) rfl dX11_cancel_23 ?_
    refine x_iload_n C dX11_cancel_26 rfl ?_
    obtain ⟨q17, hq18, hF⟩ := bnd_e hF
    refine x_goR (fun ls h => x_runV (As := [.int a1]) [] h C ml_X11_229 (k_X0_billedLinesOf l D cA s0 z b ν hG a1 q17 hq18) ⟨rfl, rfl, nb rfl, nb rfl⟩ rfl (C_Acc hw) rfl hw (nb rfl) ⟨nb rfl, nb rfl⟩ dX11_cancel_27) ?_
    refine x_if_ne 48 C dX11_cancel_30 (by decide) (fun c19 => ?_) (fun c19 => ?_)
    · have hF := ite_f hF c19
      refine x_sub [(0, .ref (b + 0)), (2, .ref (b + (7 + (22 + (cl a1)))))] [1, 0] rfl ?_
      exact h_J48 (7 + (22 + (cl a1))) (mk_Cal led7 hl6) _ _ hw hS hF
    · have hF := ite_t hF c19
      refine x_aload_n C dX11_cancel_33 rfl ?_
      refine x_get (.ref (b + 2626)) C fl_X11_52 (C_PD hw) rfl dX11_cancel_34 ?_
      refine x_iload_n C dX11_cancel_37 rfl ?_
      obtain ⟨q20, hq21, hF⟩ := bnd_e hF
      refine x_goR (fun ls h => x_runV (As := [.int a1]) [] h C ml_X11_241 (k_X0_billedDaysOf l D cA s0 z b ν hG a1 q20 hq21) ⟨rfl, rfl, nb rfl, nb rfl⟩ rfl (C_Acc hw) rfl hw (nb rfl) ⟨nb rfl, nb rfl⟩ dX11_cancel_38) ?_
      refine x_if_ne 48 C dX11_cancel_41 (by decide) (fun c22 => ?_) (fun c22 => ?_)
      · have hF := ite_f hF c22
        refine x_sub [(0, .ref (b + 0)), (2, .ref (b + (7 + (22 + (cl a1)))))] [1, 0] rfl ?_
        exact h_J48 (7 + (22 + (cl a1))) (mk_Cal led7 hl6) _ _ hw hS hF
      · have hF := ite_t hF c22
        refine x_iconst (1 : Int32) C dX11_cancel_44 rfl ?_
        refine x_goto 49 C dX11_cancel_45 (by decide) ?_
        refine x_sub [(0, .ref (b + 0)), (2, .ref (b + (7 + (22 + (cl a1)))))] [1, 0] rfl ?_
        exact h_J49 (7 + (22 + (cl a1))) true (mk_Cal led7 hl6) _ _ hw hS hF
noncomputable def g_X11_setWaste (ν : Mm) (a1 : Int32) (a2 : Int32) : Option (Thr (Int32 × Mm)) := bnd (g_X11_requireCall ν a1) (fun q1 => bnx q1 (fun q3 => bnd (g_X11_requireRange ν a2 (0 : Int32) (999 : Int32)) (fun q4 => bnx q4 (fun q6 => bnd (g_X3_save ν 7) (fun q7 => asr (vp_in a1 40) (bnd (some (uI q7 (7 + (22 + (cl a1))) 3 a2)) (fun μ12 => some (.ok (q7.1 (7 + (22 + (cl a1))) 3, μ12)))))))))
set_option maxRecDepth 20000 in
set_option maxHeartbeats 4000000 in
theorem k_X11_setWaste (l : Launch) (D : va_G) (cA : Nat → ClassId) (s0 : State) (z : Nat) (b : Nat) (ν : Mm) (sz : Nat) (hG : xG l D cA s0) (a1 : Int32) (a2 : Int32) (r : Thr (Int32 × Mm)) (hF : g_X11_setWaste ν a1 a2 = some r) : vx_Met l yX11_setWaste (wsG yX11_setWaste cX11_setWaste 5 (some (FieldType.int))) { frames := 9, cells := 2, slots := 12, locals := 175 } (xP D cA s0 [.ref (b + 0), .int a1, .int a2] (fun H => H.size = sz ∧ WC D cA s0 z b ν H)) (xQt (fun q => (some (.int q.1))) (fun q H => WC D cA s0 z b q.2 H) (xA b 2628 sz) r) (xXt (fun H => WC D cA s0 z b ν H) (xA b 2628 sz) r) 2 12 (xA b 2628 sz) := by
  refine t_start (z := z) (b := b) (ν := ν) (s0 := s0) (own := RX11) [(0, .ref (b + 0)), (1, .int a1), (2, .int a2)] rfl rfl (by decide) (nb rfl) ?_
  intro p e s m args below meth c C hX hw
  obtain ⟨hsz, hw⟩ := hw
  subst hsz
  have hS : va_S (xA b 2628 s.heap.size) s.heap s.heap [] := va_S.rf
  refine x_aload_n C dX11_setWaste_0 rfl ?_
  refine x_iload_n C dX11_setWaste_1 rfl ?_
  obtain ⟨q1, hq2, hF⟩ := bnd_e hF
  refine t_goT (fun ls h => t_runV (As := [.int a1]) [] h C ml_X11_199 (k_X11_requireCall l D cA s0 z b ν _ hG a1 q1 hq2) ⟨rfl, rfl, nb rfl, nb rfl⟩ rfl (C_PD hw) rfl ⟨rfl, hw⟩ (nb rfl) ⟨nb rfl, nb rfl⟩ dX11_setWaste_2) hF hS (xA_le hS) C hX (fun _ h => h) (nb rfl) (nb rfl) (fun q3 hF H locs hw hS => ?_)
  refine x_widen (k := 1) (n := 6) (nb rfl) (nb rfl) ?_
  have hw : WC D cA s0 z b ν H := hw
  refine x_iload_n C dX11_setWaste_5 rfl ?_
  refine x_iconst (0 : Int32) C dX11_setWaste_6 rfl ?_
  refine x_sipush (999 : Int32) C dX11_setWaste_7 rfl ?_
  obtain ⟨q4, hq5, hF⟩ := bnd_e hF
  refine t_goT (fun ls h => t_runS (As := [.int a2, .int (0 : Int32), .int (999 : Int32)]) [] h C ml_X11_76 (k_X11_requireRange l D cA s0 z b ν _ hG a2 (0 : Int32) (999 : Int32) q4 hq5) ⟨rfl, rfl, nb rfl, nb rfl⟩ rfl ⟨rfl, hw⟩ (nb rfl) ⟨nb rfl, nb rfl⟩ dX11_setWaste_10) hF hS (xA_le hS) C hX (fun _ h => h) (nb rfl) (nb rfl) (fun q6 hF H locs hw hS => ?_)
  refine x_widen (k := 2) (n := 12) (nb rfl) (nb rfl) ?_
  have hw : WC D cA s0 z b ν H := hw
  refine x_aload_n C dX11_setWaste_13 rfl ?_
  refine x_get (.ref (b + 662)) C fl_X11_43 (C_PD hw) rfl dX11_setWaste_14 ?_
  refine x_aload_n C dX11_setWaste_17 rfl ?_
  refine x_get (.ref (b + 7)) C fl_X11_24 (C_PD hw) rfl dX11_setWaste_18 ?_
  obtain ⟨q7, hq8, hF⟩ := bnd_e hF
  refine x_goM (fun ls h => x_runV (As := [.ref (b + 7)]) [] h C ml_X11_84 (k_X3_save l D cA s0 z b ν _ hG 7 q7 hq8) ⟨rfl, rfl, nb rfl, nb rfl⟩ rfl (C_His hw) rfl ⟨rfl, hw⟩ (nb rfl) ⟨nb rfl, nb rfl⟩ dX11_setWaste_21) hS (xA_le hS) (fun H locs hw hz hk hS => ?_)
  have hw : WC D cA s0 z b q7 H := hw
  refine x_aload_n C dX11_setWaste_24 rfl ?_
  refine x_get (.ref (b + 7)) C fl_X11_24 (C_PD hw) rfl dX11_setWaste_25 ?_
  refine x_get (.ref (b + (7 + 2))) C fl_X11_202 (C_Led led7 hw) rfl dX11_setWaste_28 ?_
  refine x_iload_n C dX11_setWaste_31 rfl ?_
  obtain ⟨h9, hF⟩ := asr_e hF
  obtain ⟨hn10, hl11⟩ := vpn h9 (by decide)
  refine x_aald 4 C (C_calls led7 hw) rfl hn10 hl11 (by decide) rfl dX11_setWaste_32 ?_
  refine x_astore_n [(3, .ref (b + (7 + (22 + (cl a1))))), (0, .ref (b + 0)), (1, .int a1), (2, .int a2)] C dX11_setWaste_33 rfl (by decide) rfl ?_
  refine x_aload_n C dX11_setWaste_34 rfl ?_
  refine x_get (.int (q7.1 (7 + (22 + (cl a1))) 3)) C fl_X11_217 (C_Cal (mk_Cal led7 hl11) hw) rfl dX11_setWaste_35 ?_
  refine x_istore [(4, .int (q7.1 (7 + (22 + (cl a1))) 3)), (3, .ref (b + (7 + (22 + (cl a1))))), (0, .ref (b + 0)), (1, .int a1), (2, .int a2)] C dX11_setWaste_38 (by decide) rfl ?_
  refine x_aload_n C dX11_setWaste_40 rfl ?_
  refine x_iload_n C dX11_setWaste_41 rfl ?_
  refine y_putI (kk0 := 3) (7 + (22 + (cl a1))) C fl_X11_217 hw (l2 (lt_Cal (mk_Cal led7 hl11))) (fun nm => S_Cal (mk_Cal led7 hl11)) (fun nm => S_Cal (mk_Cal led7 hl11)) rfl rfl (fun _ => nb rfl) dX11_setWaste_42 hS (xA_in (l2 (lt_Cal (mk_Cal led7 hl11)))) (fun H locs hw hS => ?_)
  obtain ⟨μ12, hm13, hF⟩ := bnd_e hF
  have hw : WC D cA s0 z b μ12 H := rv_m (W := fun m => WC D cA s0 z b m _) hm13 hw
  refine x_iload C dX11_setWaste_45 rfl ?_
  exact t_iret C rfl dX11_setWaste_47  (rt_o hF) rfl hw hS (nb rfl) (nb rfl)
noncomputable def g_X11_setTons (ν : Mm) (a1 : Int32) (a2 : Int32) : Option (Thr (Int32 × Mm)) := bnd (g_X11_requireShip ν a1) (fun q1 => bnx q1 (fun q3 => bnd (g_X11_requireRange ν a2 (1 : Int32) (9999 : Int32)) (fun q4 => bnx q4 (fun q6 => bnd (g_X3_save ν 7) (fun q7 => asr (vp_in a1 8) (bnd (some (uI q7 (7 + (6 + 2 * (cl a1))) 2 a2)) (fun μ12 => some (.ok (q7.1 (7 + (6 + 2 * (cl a1))) 2, μ12)))))))))
set_option maxRecDepth 20000 in
set_option maxHeartbeats 4000000 in
theorem k_X11_setTons (l : Launch) (D : va_G) (cA : Nat → ClassId) (s0 : State) (z : Nat) (b : Nat) (ν : Mm) (sz : Nat) (hG : xG l D cA s0) (a1 : Int32) (a2 : Int32) (r : Thr (Int32 × Mm)) (hF : g_X11_setTons ν a1 a2 = some r) : vx_Met l yX11_setTons (wsG yX11_setTons cX11_setTons 5 (some (FieldType.int))) { frames := 9, cells := 2, slots := 12, locals := 175 } (xP D cA s0 [.ref (b + 0), .int a1, .int a2] (fun H => H.size = sz ∧ WC D cA s0 z b ν H)) (xQt (fun q => (some (.int q.1))) (fun q H => WC D cA s0 z b q.2 H) (xA b 2628 sz) r) (xXt (fun H => WC D cA s0 z b ν H) (xA b 2628 sz) r) 2 12 (xA b 2628 sz) := by
  refine t_start (z := z) (b := b) (ν := ν) (s0 := s0) (own := RX11) [(0, .ref (b + 0)), (1, .int a1), (2, .int a2)] rfl rfl (by decide) (nb rfl) ?_
  intro p e s m args below meth c C hX hw
  obtain ⟨hsz, hw⟩ := hw
  subst hsz
  have hS : va_S (xA b 2628 s.heap.size) s.heap s.heap [] := va_S.rf
  refine x_aload_n C dX11_setTons_0 rfl ?_
  refine x_iload_n C dX11_setTons_1 rfl ?_
  obtain ⟨q1, hq2, hF⟩ := bnd_e hF
  refine t_goT (fun ls h => t_runV (As := [.int a1]) [] h C ml_X11_184 (k_X11_requireShip l D cA s0 z b ν _ hG a1 q1 hq2) ⟨rfl, rfl, nb rfl, nb rfl⟩ rfl (C_PD hw) rfl ⟨rfl, hw⟩ (nb rfl) ⟨nb rfl, nb rfl⟩ dX11_setTons_2) hF hS (xA_le hS) C hX (fun _ h => h) (nb rfl) (nb rfl) (fun q3 hF H locs hw hS => ?_)
  refine x_widen (k := 1) (n := 6) (nb rfl) (nb rfl) ?_
  have hw : WC D cA s0 z b ν H := hw
  refine x_iload_n C dX11_setTons_5 rfl ?_
  refine x_iconst (1 : Int32) C dX11_setTons_6 rfl ?_
  refine x_sipush (9999 : Int32) C dX11_setTons_7 rfl ?_
  obtain ⟨q4, hq5, hF⟩ := bnd_e hF
  refine t_goT (fun ls h => t_runS (As := [.int a2, .int (1 : Int32), .int (9999 : Int32)]) [] h C ml_X11_76 (k_X11_requireRange l D cA s0 z b ν _ hG a2 (1 : Int32) (9999 : Int32) q4 hq5) ⟨rfl, rfl, nb rfl, nb rfl⟩ rfl ⟨rfl, hw⟩ (nb rfl) ⟨nb rfl, nb rfl⟩ dX11_setTons_10) hF hS (xA_le hS) C hX (fun _ h => h) (nb rfl) (nb rfl) (fun q6 hF H locs hw hS => ?_)
  refine x_widen (k := 2) (n := 12) (nb rfl) (nb rfl) ?_
  have hw : WC D cA s0 z b ν H := hw
  refine x_aload_n C dX11_setTons_13 rfl ?_
  refine x_get (.ref (b + 662)) C fl_X11_43 (C_PD hw) rfl dX11_setTons_14 ?_
  refine x_aload_n C dX11_setTons_17 rfl ?_
  refine x_get (.ref (b + 7)) C fl_X11_24 (C_PD hw) rfl dX11_setTons_18 ?_
  obtain ⟨q7, hq8, hF⟩ := bnd_e hF
  refine x_goM (fun ls h => x_runV (As := [.ref (b + 7)]) [] h C ml_X11_84 (k_X3_save l D cA s0 z b ν _ hG 7 q7 hq8) ⟨rfl, rfl, nb rfl, nb rfl⟩ rfl (C_His hw) rfl ⟨rfl, hw⟩ (nb rfl) ⟨nb rfl, nb rfl⟩ dX11_setTons_21) hS (xA_le hS) (fun H locs hw hz hk hS => ?_)
  have hw : WC D cA s0 z b q7 H := hw
  refine x_aload_n C dX11_setTons_24 rfl ?_
  refine x_get (.ref (b + 7)) C fl_X11_24 (C_PD hw) rfl dX11_setTons_25 ?_
  refine x_get (.ref (b + (7 + 1))) C fl_X11_187 (C_Led led7 hw) rfl dX11_setTons_28 ?_
  refine x_iload_n C dX11_setTons_31 rfl ?_
  obtain ⟨h9, hF⟩ := asr_e hF
  obtain ⟨hn10, hl11⟩ := vpn h9 (by decide)
  refine x_aald 3 C (C_ships led7 hw) rfl hn10 hl11 (by decide) rfl dX11_setTons_32 ?_
  refine x_astore_n [(3, .ref (b + (7 + (6 + 2 * (cl a1))))), (0, .ref (b + 0)), (1, .int a1), (2, .int a2)] C dX11_setTons_33 rfl (by decide) rfl ?_
  refine x_aload_n C dX11_setTons_34 rfl ?_
  refine x_get (.int (q7.1 (7 + (6 + 2 * (cl a1))) 2)) C fl_X11_191 (C_Ship (mk_Ship led7 hl11) hw) rfl dX11_setTons_35 ?_
  refine x_istore [(4, .int (q7.1 (7 + (6 + 2 * (cl a1))) 2)), (3, .ref (b + (7 + (6 + 2 * (cl a1))))), (0, .ref (b + 0)), (1, .int a1), (2, .int a2)] C dX11_setTons_38 (by decide) rfl ?_
  refine x_aload_n C dX11_setTons_40 rfl ?_
  refine x_iload_n C dX11_setTons_41 rfl ?_
  refine y_putI (kk0 := 2) (7 + (6 + 2 * (cl a1))) C fl_X11_191 hw (l2 (lt_Ship (mk_Ship led7 hl11))) (fun nm => S_Ship (mk_Ship led7 hl11)) (fun nm => S_Ship (mk_Ship led7 hl11)) rfl rfl (fun _ => nb rfl) dX11_setTons_42 hS (xA_in (l2 (lt_Ship (mk_Ship led7 hl11)))) (fun H locs hw hS => ?_)
  obtain ⟨μ12, hm13, hF⟩ := bnd_e hF
  have hw : WC D cA s0 z b μ12 H := rv_m (W := fun m => WC D cA s0 z b m _) hm13 hw
  refine x_iload C dX11_setTons_45 rfl ?_
  exact t_iret C rfl dX11_setTons_47  (rt_o hF) rfl hw hS (nb rfl) (nb rfl)
noncomputable def g_X11_bill (ν : Mm) (a1 : Int32) : Option (Thr (Int32 × Mm)) := bnd (g_X11_requireCall ν a1) (fun q1 => bnx q1 (fun q3 => bnd (g_X0_canBill ν a1) (fun q4 => bnd (g_X11_requireState ν q4) (fun q6 => bnx q6 (fun q8 => bnd (g_X3_save ν 7) (fun q9 => bnd (g_X0_newInvoice q9 a1) (fun q11 => some (.ok (q11.1, q11.2)))))))))
set_option maxRecDepth 20000 in
set_option maxHeartbeats 4000000 in
theorem k_X11_bill (l : Launch) (D : va_G) (cA : Nat → ClassId) (s0 : State) (z : Nat) (b : Nat) (ν : Mm) (sz : Nat) (hG : xG l D cA s0) (a1 : Int32) (r : Thr (Int32 × Mm)) (hF : g_X11_bill ν a1 = some r) : vx_Met l yX11_bill (wsG yX11_bill cX11_bill 2 (some (FieldType.int))) { frames := 9, cells := 2, slots := 12, locals := 175 } (xP D cA s0 [.ref (b + 0), .int a1] (fun H => H.size = sz ∧ WC D cA s0 z b ν H)) (xQt (fun q => (some (.int q.1))) (fun q H => WC D cA s0 z b q.2 H) (xA b 2628 sz) r) (xXt (fun H => WC D cA s0 z b ν H) (xA b 2628 sz) r) 2 12 (xA b 2628 sz) := by
  refine t_start (z := z) (b := b) (ν := ν) (s0 := s0) (own := RX11) [(0, .ref (b + 0)), (1, .int a1)] rfl rfl (by decide) (nb rfl) ?_
  intro p e s m args below meth c C hX hw
  obtain ⟨hsz, hw⟩ := hw
  subst hsz
  have hS : va_S (xA b 2628 s.heap.size) s.heap s.heap [] := va_S.rf
  refine x_aload_n C dX11_bill_0 rfl ?_
  refine x_iload_n C dX11_bill_1 rfl ?_
  obtain ⟨q1, hq2, hF⟩ := bnd_e hF
  refine t_goT (fun ls h => t_runV (As := [.int a1]) [] h C ml_X11_199 (k_X11_requireCall l D cA s0 z b ν _ hG a1 q1 hq2) ⟨rfl, rfl, nb rfl, nb rfl⟩ rfl (C_PD hw) rfl ⟨rfl, hw⟩ (nb rfl) ⟨nb rfl, nb rfl⟩ dX11_bill_2) hF hS (xA_le hS) C hX (fun _ h => h) (nb rfl) (nb rfl) (fun q3 hF H locs hw hS => ?_)
  refine x_widen (k := 1) (n := 6) (nb rfl) (nb rfl) ?_
  have hw : WC D cA s0 z b ν H := hw
  refine x_aload_n C dX11_bill_5 rfl ?_
  refine x_get (.ref (b + 2626)) C fl_X11_52 (C_PD hw) rfl dX11_bill_6 ?_
  refine x_iload_n C dX11_bill_9 rfl ?_
  obtain ⟨q4, hq5, hF⟩ := bnd_e hF
  refine x_goR (fun ls h => x_runV (As := [.int a1]) [] h C ml_X11_366 (k_X0_canBill l D cA s0 z b ν hG a1 q4 hq5) ⟨rfl, rfl, nb rfl, nb rfl⟩ rfl (C_Acc hw) rfl hw (nb rfl) ⟨nb rfl, nb rfl⟩ dX11_bill_10) ?_
  obtain ⟨q6, hq7, hF⟩ := bnd_e hF
  refine t_goT (fun ls h => t_runS (As := [.int (bI q4)]) [] h C ml_X11_69 (k_X11_requireState l D cA s0 z b ν _ hG q4 q6 hq7) ⟨rfl, rfl, nb rfl, nb rfl⟩ rfl ⟨rfl, hw⟩ (nb rfl) ⟨nb rfl, nb rfl⟩ dX11_bill_13) hF hS (xA_le hS) C hX (fun _ h => h) (nb rfl) (nb rfl) (fun q8 hF H locs hw hS => ?_)
  refine x_widen (k := 2) (n := 12) (nb rfl) (nb rfl) ?_
  have hw : WC D cA s0 z b ν H := hw
  refine x_aload_n C dX11_bill_16 rfl ?_
  refine x_get (.ref (b + 662)) C fl_X11_43 (C_PD hw) rfl dX11_bill_17 ?_
  refine x_aload_n C dX11_bill_20 rfl ?_
  refine x_get (.ref (b + 7)) C fl_X11_24 (C_PD hw) rfl dX11_bill_21 ?_
  obtain ⟨q9, hq10, hF⟩ := bnd_e hF
  refine x_goM (fun ls h => x_runV (As := [.ref (b + 7)]) [] h C ml_X11_84 (k_X3_save l D cA s0 z b ν _ hG 7 q9 hq10) ⟨rfl, rfl, nb rfl, nb rfl⟩ rfl (C_His hw) rfl ⟨rfl, hw⟩ (nb rfl) ⟨nb rfl, nb rfl⟩ dX11_bill_24) hS (xA_le hS) (fun H locs hw hz hk hS => ?_)
  have hw : WC D cA s0 z b q9 H := hw
  refine x_aload_n C dX11_bill_27 rfl ?_
  refine x_get (.ref (b + 2626)) C fl_X11_52 (C_PD hw) rfl dX11_bill_28 ?_
  refine x_iload_n C dX11_bill_31 rfl ?_
  obtain ⟨q11, hq12, hF⟩ := bnd_e hF
  refine x_goM (fun ls h => x_runV (As := [.int a1]) [] h C ml_X11_369 (k_X0_newInvoice l D cA s0 z b q9 _ hG a1 q11 hq12) ⟨rfl, rfl, nb rfl, nb rfl⟩ rfl (C_Acc hw) rfl ⟨rfl, hw⟩ (nb rfl) ⟨nb rfl, nb rfl⟩ dX11_bill_32) hS (xA_le hS) (fun H locs hw hz hk hS => ?_)
  have hw : WC D cA s0 z b q11.2 H := hw
  exact t_iret C rfl dX11_bill_35  (rt_o hF) rfl hw hS (nb rfl) (nb rfl)
noncomputable def g_X11_billAll_L20 (ν : Mm) (a1 : Int32) : Nat → Mm → Int32 → Int32 → Option (Thr (Int32 × Mm))
  | 0, _, _, _ => none
  | n + 1, μ0, x2, x3 => (if (μ0.1 7 6) ≤ x3 then some (.ok (x2, μ0)) else asr (vp_in x3 40) ((if (μ0.1 (7 + (22 + (cl x3))) 0) = a1 then bnd (g_X0_canBill μ0 x3) (fun q11 => (if q11 = true then bnd (g_X0_newInvoice μ0 x3) (fun q14 => (g_X11_billAll_L20 ν a1 n q14.2 (x2 + (1 : Int32)) (x3 + (1 : Int32)))) else (g_X11_billAll_L20 ν a1 n μ0 x2 (x3 + (1 : Int32))))) else (g_X11_billAll_L20 ν a1 n μ0 x2 (x3 + (1 : Int32))))))
noncomputable def g_X11_billAll (ν : Mm) (a1 : Int32) : Option (Thr (Int32 × Mm)) := bnd (g_X11_requireShip ν a1) (fun q1 => bnx q1 (fun q3 => bnd (g_X3_save ν 7) (fun q4 => (g_X11_billAll_L20 ν a1 10000 q4 (0 : Int32) (0 : Int32)))))
set_option maxRecDepth 20000 in
set_option maxHeartbeats 4000000 in
theorem k_X11_billAll (l : Launch) (D : va_G) (cA : Nat → ClassId) (s0 : State) (z : Nat) (b : Nat) (ν : Mm) (sz : Nat) (hG : xG l D cA s0) (a1 : Int32) (r : Thr (Int32 × Mm)) (hF : g_X11_billAll ν a1 = some r) : vx_Met l yX11_billAll (wsG yX11_billAll cX11_billAll 4 (some (FieldType.int))) { frames := 9, cells := 1, slots := 6, locals := 175 } (xP D cA s0 [.ref (b + 0), .int a1] (fun H => H.size = sz ∧ WC D cA s0 z b ν H)) (xQt (fun q => (some (.int q.1))) (fun q H => WC D cA s0 z b q.2 H) (xA b 2628 sz) r) (xXt (fun H => WC D cA s0 z b ν H) (xA b 2628 sz) r) 1 6 (xA b 2628 sz) := by
  refine t_start (z := z) (b := b) (ν := ν) (s0 := s0) (own := RX11) [(0, .ref (b + 0)), (1, .int a1)] rfl rfl (by decide) (nb rfl) ?_
  intro p e s m args below meth c C hX hw
  obtain ⟨hsz, hw⟩ := hw
  subst hsz
  have hS : va_S (xA b 2628 s.heap.size) s.heap s.heap [] := va_S.rf
  have h_L20 : ∀ (n : Nat) (μ0 : Mm) (x2 : Int32) (x3 : Int32) (H : Heap) (locs : List Loc) (hw : WC D cA s0 z b μ0 H) (hS : va_S (xA b 2628 s.heap.size) s.heap H locs), g_X11_billAll_L20 ν a1 n μ0 x2 x3 = some r → xW p l e { frames := 9, cells := 1, slots := 6, locals := 175 } s m args below meth c 4 (vx_MQ below (xQt (fun q => (some (.int q.1))) (fun q H => WC D cA s0 z b q.2 H) (xA b 2628 s.heap.size) r) (xXt (fun H => WC D cA s0 z b ν H) (xA b 2628 s.heap.size) r) args s 1 6 (xA b 2628 s.heap.size)) H locs 1 6 20 [(0, .ref (b + 0)), (1, .int a1), (2, .int x2), (3, .int x3)] [] := by
    intro n
    induction n with
    | zero =>
      intro μ0 x2 x3 H locs hw hS hF
      exact no_some hF
    | succ n ih =>
      intro μ0 x2 x3 H locs hw hS hF
      have ih20 := ih
      refine x_iload_n C dX11_billAll_20 rfl ?_
      refine x_aload_n C dX11_billAll_21 rfl ?_
      refine x_get (.ref (b + 7)) C fl_X11_24 (C_PD hw) rfl dX11_billAll_22 ?_
      refine x_get (.int (μ0.1 7 6)) C fl_X11_103 (C_Led led7 hw) rfl dX11_billAll_25 ?_
      refine x_icmp_ge 76 C dX11_billAll_28 (by decide) (fun c6 => ?_) (fun c6 => ?_)
      · have hF := ite_t hF c6
        refine x_iload_n C dX11_billAll_76 rfl ?_
        exact t_iret C rfl dX11_billAll_77  (rt_o hF) rfl hw hS (nb rfl) (nb rfl)
      · have hF := ite_f hF c6
        refine x_aload_n C dX11_billAll_31 rfl ?_
        refine x_get (.ref (b + 7)) C fl_X11_24 (C_PD hw) rfl dX11_billAll_32 ?_
        refine x_get (.ref (b + (7 + 2))) C fl_X11_202 (C_Led led7 hw) rfl dX11_billAll_35 ?_
        refine x_iload_n C dX11_billAll_38 rfl ?_
        obtain ⟨h7, hF⟩ := asr_e hF
        obtain ⟨hn8, hl9⟩ := vpn h7 (by decide)
        refine x_aald 4 C (C_calls led7 hw) rfl hn8 hl9 (by decide) rfl dX11_billAll_39 ?_
        refine x_get (.int (μ0.1 (7 + (22 + (cl x3))) 0)) C fl_X11_206 (C_Cal (mk_Cal led7 hl9) hw) rfl dX11_billAll_40 ?_
        refine x_iload_n C dX11_billAll_43 rfl ?_
        refine x_icmp_ne 70 C dX11_billAll_44 (by decide) (fun c10 => ?_) (fun c10 => ?_)
        · have hF := ite_f hF c10
          refine x_iinc (x3 + (1 : Int32)) [(3, .int (x3 + (1 : Int32))), (0, .ref (b + 0)), (1, .int a1), (2, .int x2)] C dX11_billAll_70 rfl rfl (by decide) rfl ?_
          refine x_goto 20 C dX11_billAll_73 (by decide) ?_
          refine x_sub [(0, .ref (b + 0)), (1, .int a1), (2, .int x2), (3, .int (x3 + (1 : Int32)))] [1, 2, 3, 0] rfl ?_
          exact ih20 μ0 x2 (x3 + (1 : Int32)) _ _ hw hS hF
        · have hF := ite_t hF c10
          refine x_aload_n C dX11_billAll_47 rfl ?_
          refine x_get (.ref (b + 2626)) C fl_X11_52 (C_PD hw) rfl dX11_billAll_48 ?_
          refine x_iload_n C dX11_billAll_51 rfl ?_
          obtain ⟨q11, hq12, hF⟩ := bnd_e hF
          refine x_goR (fun ls h => x_runV (As := [.int x3]) [] h C ml_X11_366 (k_X0_canBill l D cA s0 z b μ0 hG x3 q11 hq12) ⟨rfl, rfl, nb rfl, nb rfl⟩ rfl (C_Acc hw) rfl hw (nb rfl) ⟨nb rfl, nb rfl⟩ dX11_billAll_52) ?_
          refine x_ifB_eq 70 C dX11_billAll_55 (by decide) (fun c13 => ?_) (fun c13 => ?_)
          · have hF := ite_f hF (nbt c13)
            refine x_iinc (x3 + (1 : Int32)) [(3, .int (x3 + (1 : Int32))), (0, .ref (b + 0)), (1, .int a1), (2, .int x2)] C dX11_billAll_70 rfl rfl (by decide) rfl ?_
            refine x_goto 20 C dX11_billAll_73 (by decide) ?_
            refine x_sub [(0, .ref (b + 0)), (1, .int a1), (2, .int x2), (3, .int (x3 + (1 : Int32)))] [1, 2, 3, 0] rfl ?_
            exact ih20 μ0 x2 (x3 + (1 : Int32)) _ _ hw hS hF
          · have hF := ite_t hF c13
            refine x_aload_n C dX11_billAll_58 rfl ?_
            refine x_get (.ref (b + 2626)) C fl_X11_52 (C_PD hw) rfl dX11_billAll_59 ?_
            refine x_iload_n C dX11_billAll_62 rfl ?_
            obtain ⟨q14, hq15, hF⟩ := bnd_e hF
            refine x_goM (fun ls h => x_runV (As := [.int x3]) [] h C ml_X11_369 (k_X0_newInvoice l D cA s0 z b μ0 _ hG x3 q14 hq15) ⟨rfl, rfl, nb rfl, nb rfl⟩ rfl (C_Acc hw) rfl ⟨rfl, hw⟩ (nb rfl) ⟨nb rfl, nb rfl⟩ dX11_billAll_63) hS (xA_le hS) (fun H locs hw hz hk hS => ?_)
            have hw : WC D cA s0 z b q14.2 H := hw
            refine x_pop C dX11_billAll_66 rfl ?_
            refine x_iinc (x2 + (1 : Int32)) [(2, .int (x2 + (1 : Int32))), (0, .ref (b + 0)), (1, .int a1), (3, .int x3)] C dX11_billAll_67 rfl rfl (by decide) rfl ?_
            refine x_iinc (x3 + (1 : Int32)) [(3, .int (x3 + (1 : Int32))), (2, .int (x2 + (1 : Int32))), (0, .ref (b + 0)), (1, .int a1)] C dX11_billAll_70 rfl rfl (by decide) rfl ?_
            refine x_goto 20 C dX11_billAll_73 (by decide) ?_
            refine x_sub [(0, .ref (b + 0)), (1, .int a1), (2, .int (x2 + (1 : Int32))), (3, .int (x3 + (1 : Int32)))] [2, 3, 1, 0] rfl ?_
            exact ih20 q14.2 (x2 + (1 : Int32)) (x3 + (1 : Int32)) _ _ hw hS hF
  refine x_aload_n C dX11_billAll_0 rfl ?_
  refine x_iload_n C dX11_billAll_1 rfl ?_
  obtain ⟨q1, hq2, hF⟩ := bnd_e hF
  refine t_goT (fun ls h => t_runV (As := [.int a1]) [] h C ml_X11_184 (k_X11_requireShip l D cA s0 z b ν _ hG a1 q1 hq2) ⟨rfl, rfl, nb rfl, nb rfl⟩ rfl (C_PD hw) rfl ⟨rfl, hw⟩ (nb rfl) ⟨nb rfl, nb rfl⟩ dX11_billAll_2) hF hS (xA_le hS) C hX (fun _ h => h) (nb rfl) (nb rfl) (fun q3 hF H locs hw hS => ?_)
  refine x_widen (k := 1) (n := 6) (nb rfl) (nb rfl) ?_
  have hw : WC D cA s0 z b ν H := hw
  refine x_aload_n C dX11_billAll_5 rfl ?_
  refine x_get (.ref (b + 662)) C fl_X11_43 (C_PD hw) rfl dX11_billAll_6 ?_
  refine x_aload_n C dX11_billAll_9 rfl ?_
  refine x_get (.ref (b + 7)) C fl_X11_24 (C_PD hw) rfl dX11_billAll_10 ?_
  obtain ⟨q4, hq5, hF⟩ := bnd_e hF
  refine x_goM (fun ls h => x_runV (As := [.ref (b + 7)]) [] h C ml_X11_84 (k_X3_save l D cA s0 z b ν _ hG 7 q4 hq5) ⟨rfl, rfl, nb rfl, nb rfl⟩ rfl (C_His hw) rfl ⟨rfl, hw⟩ (nb rfl) ⟨nb rfl, nb rfl⟩ dX11_billAll_13) hS (xA_le hS) (fun H locs hw hz hk hS => ?_)
  have hw : WC D cA s0 z b q4 H := hw
  refine x_iconst (0 : Int32) C dX11_billAll_16 rfl ?_
  refine x_istore_n [(2, .int (0 : Int32)), (0, .ref (b + 0)), (1, .int a1)] C dX11_billAll_17 rfl (by decide) rfl ?_
  refine x_iconst (0 : Int32) C dX11_billAll_18 rfl ?_
  refine x_istore_n [(3, .int (0 : Int32)), (2, .int (0 : Int32)), (0, .ref (b + 0)), (1, .int a1)] C dX11_billAll_19 rfl (by decide) rfl ?_
  refine x_sub [(0, .ref (b + 0)), (1, .int a1), (2, .int (0 : Int32)), (3, .int (0 : Int32))] [2, 3, 1, 0] rfl ?_
  exact h_L20 10000 q4 (0 : Int32) (0 : Int32) _ _ hw hS hF
noncomputable def g_X11_credit_J48 (ν : Mm) (a1 : Int32) (a2 : Int32) (y0 : Bool) : Option (Thr (Int32 × Mm)) := bnd (g_X11_requireState ν y0) (fun q13 => bnx q13 (fun q15 => bnd (g_X3_save ν 7) (fun q16 => bnd (g_X0_newNote q16 a1 a2) (fun q18 => some (.ok (q18.1, q18.2))))))
noncomputable def g_X11_credit_J47 (ν : Mm) (a1 : Int32) (a2 : Int32)  : Option (Thr (Int32 × Mm)) := (g_X11_credit_J48 ν a1 a2 false)
noncomputable def g_X11_credit (ν : Mm) (a1 : Int32) (a2 : Int32) : Option (Thr (Int32 × Mm)) := bnd (g_X11_requireInvoice ν a1) (fun q1 => bnx q1 (fun q3 => bnd (g_X11_requireRange ν a2 (1 : Int32) (15 : Int32)) (fun q4 => bnx q4 (fun q6 => asr (vp_in a1 60) (bnd (g_X4_standing ν (7 + (62 + 2 * (cl a1)))) (fun q10 => (if (a2 &&& (q10 ^^^ (-1 : Int32))) = 0 then (if (40 : Int32) ≤ (ν.1 7 8) then (g_X11_credit_J47 ν a1 a2) else (g_X11_credit_J48 ν a1 a2 true)) else (g_X11_credit_J47 ν a1 a2))))))))
set_option maxRecDepth 20000 in
set_option maxHeartbeats 4000000 in
theorem k_X11_credit (l : Launch) (D : va_G) (cA : Nat → ClassId) (s0 : State) (z : Nat) (b : Nat) (ν : Mm) (sz : Nat) (hG : xG l D cA s0) (a1 : Int32) (a2 : Int32) (r : Thr (Int32 × Mm)) (hF : g_X11_credit ν a1 a2 = some r) : vx_Met l yX11_credit (wsG yX11_credit cX11_credit 3 (some (FieldType.int))) { frames := 9, cells := 3, slots := 18, locals := 175 } (xP D cA s0 [.ref (b + 0), .int a1, .int a2] (fun H => H.size = sz ∧ WC D cA s0 z b ν H)) (xQt (fun q => (some (.int q.1))) (fun q H => WC D cA s0 z b q.2 H) (xA b 2628 sz) r) (xXt (fun H => WC D cA s0 z b ν H) (xA b 2628 sz) r) 3 18 (xA b 2628 sz) := by
  refine t_start (z := z) (b := b) (ν := ν) (s0 := s0) (own := RX11) [(0, .ref (b + 0)), (1, .int a1), (2, .int a2)] rfl rfl (by decide) (nb rfl) ?_
  intro p e s m args below meth c C hX hw
  obtain ⟨hsz, hw⟩ := hw
  subst hsz
  have hS : va_S (xA b 2628 s.heap.size) s.heap s.heap [] := va_S.rf
  have h_J48 : ∀ (y0 : Bool) (H : Heap) (locs : List Loc) (hw : WC D cA s0 z b ν H) (hS : va_S (xA b 2628 s.heap.size) s.heap H locs), g_X11_credit_J48 ν a1 a2 y0 = some r → xW p l e { frames := 9, cells := 3, slots := 18, locals := 175 } s m args below meth c 3 (vx_MQ below (xQt (fun q => (some (.int q.1))) (fun q H => WC D cA s0 z b q.2 H) (xA b 2628 s.heap.size) r) (xXt (fun H => WC D cA s0 z b ν H) (xA b 2628 s.heap.size) r) args s 3 18 (xA b 2628 s.heap.size)) H locs 2 12 48 [(0, .ref (b + 0)), (1, .int a1), (2, .int a2)] [.int (bI y0)] := by
    intro y0 H locs hw hS hF
    obtain ⟨q13, hq14, hF⟩ := bnd_e hF
    refine t_goT (fun ls h => t_runS (As := [.int (bI y0)]) [] h C ml_X11_69 (k_X11_requireState l D cA s0 z b ν _ hG y0 q13 hq14) ⟨rfl, rfl, nb rfl, nb rfl⟩ rfl ⟨rfl, hw⟩ (nb rfl) ⟨nb rfl, nb rfl⟩ dX11_credit_48) hF hS (xA_le hS) C hX (fun _ h => h) (nb rfl) (nb rfl) (fun q15 hF H locs hw hS => ?_)
    refine x_widen (k := 3) (n := 18) (nb rfl) (nb rfl) ?_
    have hw : WC D cA s0 z b ν H := hw
    refine x_aload_n C dX11_credit_51 rfl ?_
    refine x_get (.ref (b + 662)) C fl_X11_43 (C_PD hw) rfl dX11_credit_52 ?_
    refine x_aload_n C dX11_credit_55 rfl ?_
    refine x_get (.ref (b + 7)) C fl_X11_24 (C_PD hw) rfl dX11_credit_56 ?_
    obtain ⟨q16, hq17, hF⟩ := bnd_e hF
    refine x_goM (fun ls h => x_runV (As := [.ref (b + 7)]) [] h C ml_X11_84 (k_X3_save l D cA s0 z b ν _ hG 7 q16 hq17) ⟨rfl, rfl, nb rfl, nb rfl⟩ rfl (C_His hw) rfl ⟨rfl, hw⟩ (nb rfl) ⟨nb rfl, nb rfl⟩ dX11_credit_59) hS (xA_le hS) (fun H locs hw hz hk hS => ?_)
    have hw : WC D cA s0 z b q16 H := hw
    refine x_aload_n C dX11_credit_62 rfl ?_
    refine x_get (.ref (b + 2626)) C fl_X11_52 (C_PD hw) rfl dX11_credit_63 ?_
    refine x_iload_n C dX11_credit_66 rfl ?_
    refine x_iload_n C dX11_credit_67 rfl ?_
    obtain ⟨q18, hq19, hF⟩ := bnd_e hF
    refine x_goM (fun ls h => x_runV (As := [.int a1, .int a2]) [] h C ml_X11_375 (k_X0_newNote l D cA s0 z b q16 _ hG a1 a2 q18 hq19) ⟨rfl, rfl, nb rfl, nb rfl⟩ rfl (C_Acc hw) rfl ⟨rfl, hw⟩ (nb rfl) ⟨nb rfl, nb rfl⟩ dX11_credit_68) hS (xA_le hS) (fun H locs hw hz hk hS => ?_)
    have hw : WC D cA s0 z b q18.2 H := hw
    exact t_iret C rfl dX11_credit_71  (rt_o hF) rfl hw hS (nb rfl) (nb rfl)
  have h_J47 : ∀ (H : Heap) (locs : List Loc) (hw : WC D cA s0 z b ν H) (hS : va_S (xA b 2628 s.heap.size) s.heap H locs), g_X11_credit_J47 ν a1 a2  = some r → xW p l e { frames := 9, cells := 3, slots := 18, locals := 175 } s m args below meth c 3 (vx_MQ below (xQt (fun q => (some (.int q.1))) (fun q H => WC D cA s0 z b q.2 H) (xA b 2628 s.heap.size) r) (xXt (fun H => WC D cA s0 z b ν H) (xA b 2628 s.heap.size) r) args s 3 18 (xA b 2628 s.heap.size)) H locs 2 12 47 [(0, .ref (b + 0)), (1, .int a1), (2, .int a2)] [] := by
    intro H locs hw hS hF
    refine x_iconst (0 : Int32) C dX11_credit_47 rfl ?_
    exact h_J48 false _ _ hw hS hF
  refine x_aload_n C dX11_credit_0 rfl ?_
  refine x_iload_n C dX11_credit_1 rfl ?_
  obtain ⟨q1, hq2, hF⟩ := bnd_e hF
  refine t_goT (fun ls h => t_runV (As := [.int a1]) [] h C ml_X11_257 (k_X11_requireInvoice l D cA s0 z b ν _ hG a1 q1 hq2) ⟨rfl, rfl, nb rfl, nb rfl⟩ rfl (C_PD hw) rfl ⟨rfl, hw⟩ (nb rfl) ⟨nb rfl, nb rfl⟩ dX11_credit_2) hF hS (xA_le hS) C hX (fun _ h => h) (nb rfl) (nb rfl) (fun q3 hF H locs hw hS => ?_)
  refine x_widen (k := 1) (n := 6) (nb rfl) (nb rfl) ?_
  have hw : WC D cA s0 z b ν H := hw
  refine x_iload_n C dX11_credit_5 rfl ?_
  refine x_iconst (1 : Int32) C dX11_credit_6 rfl ?_
  refine x_bipush (15 : Int32) C dX11_credit_7 rfl ?_
  obtain ⟨q4, hq5, hF⟩ := bnd_e hF
  refine t_goT (fun ls h => t_runS (As := [.int a2, .int (1 : Int32), .int (15 : Int32)]) [] h C ml_X11_76 (k_X11_requireRange l D cA s0 z b ν _ hG a2 (1 : Int32) (15 : Int32) q4 hq5) ⟨rfl, rfl, nb rfl, nb rfl⟩ rfl ⟨rfl, hw⟩ (nb rfl) ⟨nb rfl, nb rfl⟩ dX11_credit_9) hF hS (xA_le hS) C hX (fun _ h => h) (nb rfl) (nb rfl) (fun q6 hF H locs hw hS => ?_)
  refine x_widen (k := 2) (n := 12) (nb rfl) (nb rfl) ?_
  have hw : WC D cA s0 z b ν H := hw
  refine x_iload_n C dX11_credit_12 rfl ?_
  refine x_aload_n C dX11_credit_13 rfl ?_
  refine x_get (.ref (b + 7)) C fl_X11_24 (C_PD hw) rfl dX11_credit_14 ?_
  refine x_get (.ref (b + (7 + 3))) C fl_X11_260 (C_Led led7 hw) rfl dX11_credit_17 ?_
  refine x_iload_n C dX11_credit_20 rfl ?_
  obtain ⟨h7, hF⟩ := asr_e hF
  obtain ⟨hn8, hl9⟩ := vpn h7 (by decide)
  refine x_aald 5 C (C_invoices led7 hw) rfl hn8 hl9 (by decide) rfl dX11_credit_21 ?_
  obtain ⟨q10, hq11, hF⟩ := bnd_e hF
  refine x_goR (fun ls h => x_runV (As := []) [.int a2] h C ml_X11_372 (k_X4_standing l D cA s0 z b ν hG (7 + (62 + 2 * (cl a1))) q10 hq11) ⟨rfl, rfl, nb rfl, nb rfl⟩ rfl (C_Inv (mk_Inv led7 hl9) hw) rfl hw (nb rfl) ⟨nb rfl, nb rfl⟩ dX11_credit_22) ?_
  refine x_iconst (-1 : Int32) C dX11_credit_25 rfl ?_
  refine x_ixor C dX11_credit_26 ?_
  refine x_iand C dX11_credit_27 ?_
  refine x_if_ne 47 C dX11_credit_28 (by decide) (fun c12 => ?_) (fun c12 => ?_)
  · have hF := ite_f hF c12
    exact h_J47 _ _ hw hS hF
  · have hF := ite_t hF c12
    refine x_aload_n C dX11_credit_31 rfl ?_
    refine x_get (.ref (b + 7)) C fl_X11_24 (C_PD hw) rfl dX11_credit_32 ?_
    refine x_get (.int (ν.1 7 8)) C fl_X11_109 (C_Led led7 hw) rfl dX11_credit_35 ?_
    refine x_bipush (40 : Int32) C dX11_credit_38 rfl ?_
    refine x_icmp_ge 47 C dX11_credit_40 (by decide) (fun c20 => ?_) (fun c20 => ?_)
    · have hF := ite_t hF c20
      exact h_J47 _ _ hw hS hF
    · have hF := ite_f hF c20
      refine x_iconst (1 : Int32) C dX11_credit_43 rfl ?_
      refine x_goto 48 C dX11_credit_44 (by decide) ?_
      exact h_J48 true _ _ hw hS hF
noncomputable def g_X11_dispute_J60 (ν : Mm) (a1 : Int32) (a2 : Int32) (x3 : Nat) (y0 : Bool) : Option (Thr (Int32 × Mm)) := bnd (g_X11_requireState ν y0) (fun q18 => bnx q18 (fun q20 => bnd (g_X3_save ν 7) (fun q21 => bnd (some (uI q21 x3 5 ((q21.1 x3 5) ||| ((1 : Int32) <<< (a2 &&& 31))))) (fun μ23 => bnd (g_J6_bitCount_0f7a4 (μ23.1 x3 5)) (fun q25 => some (.ok (q25, μ23)))))))
noncomputable def g_X11_dispute_J59 (ν : Mm) (a1 : Int32) (a2 : Int32) (x3 : Nat) : Option (Thr (Int32 × Mm)) := (g_X11_dispute_J60 ν a1 a2 x3 false)
noncomputable def g_X11_dispute (ν : Mm) (a1 : Int32) (a2 : Int32) : Option (Thr (Int32 × Mm)) := bnd (g_X11_requireCall ν a1) (fun q1 => bnx q1 (fun q3 => bnd (g_X11_requireRange ν a2 (0 : Int32) (29 : Int32)) (fun q4 => bnx q4 (fun q6 => bnd (g_X5_layDaysOf ν 7 a1) (fun q7 => bnd (g_X11_contains q7 a2) (fun q9 => bnd (g_X11_requireArgument ν q9) (fun q11 => bnx q11 (fun q13 => asr (vp_in a1 40) ((if (ν.1 (7 + (22 + (cl a1))) 4) = 0 then bnd (g_X2_contestedDays ν (7 + (22 + (cl a1)))) (fun q27 => bnd (g_X11_contains q27 a2) (fun q29 => (if q29 = true then (g_X11_dispute_J59 ν a1 a2 (7 + (22 + (cl a1)))) else (g_X11_dispute_J60 ν a1 a2 (7 + (22 + (cl a1))) true)))) else (g_X11_dispute_J59 ν a1 a2 (7 + (22 + (cl a1))))))))))))))
set_option maxRecDepth 20000 in
set_option maxHeartbeats 4000000 in
theorem k_X11_dispute (l : Launch) (D : va_G) (cA : Nat → ClassId) (s0 : State) (z : Nat) (b : Nat) (ν : Mm) (sz : Nat) (hG : xG l D cA s0) (a1 : Int32) (a2 : Int32) (r : Thr (Int32 × Mm)) (hF : g_X11_dispute ν a1 a2 = some r) : vx_Met l yX11_dispute (wsG yX11_dispute cX11_dispute 4 (some (FieldType.int))) { frames := 9, cells := 4, slots := 24, locals := 175 } (xP D cA s0 [.ref (b + 0), .int a1, .int a2] (fun H => H.size = sz ∧ WC D cA s0 z b ν H)) (xQt (fun q => (some (.int q.1))) (fun q H => WC D cA s0 z b q.2 H) (xA b 2628 sz) r) (xXt (fun H => WC D cA s0 z b ν H) (xA b 2628 sz) r) 4 24 (xA b 2628 sz) := by
  refine t_start (z := z) (b := b) (ν := ν) (s0 := s0) (own := RX11) [(0, .ref (b + 0)), (1, .int a1), (2, .int a2)] rfl rfl (by decide) (nb rfl) ?_
  intro p e s m args below meth c C hX hw
  obtain ⟨hsz, hw⟩ := hw
  subst hsz
  have hS : va_S (xA b 2628 s.heap.size) s.heap s.heap [] := va_S.rf
  have h_J60 : ∀ (x3 : Nat) (y0 : Bool) (hpx3 : isCal x3) (H : Heap) (locs : List Loc) (hw : WC D cA s0 z b ν H) (hS : va_S (xA b 2628 s.heap.size) s.heap H locs), g_X11_dispute_J60 ν a1 a2 x3 y0 = some r → xW p l e { frames := 9, cells := 4, slots := 24, locals := 175 } s m args below meth c 4 (vx_MQ below (xQt (fun q => (some (.int q.1))) (fun q H => WC D cA s0 z b q.2 H) (xA b 2628 s.heap.size) r) (xXt (fun H => WC D cA s0 z b ν H) (xA b 2628 s.heap.size) r) args s 4 24 (xA b 2628 s.heap.size)) H locs 3 18 60 [(0, .ref (b + 0)), (2, .int a2), (3, .ref (b + x3))] [.int (bI y0)] := by
    intro x3 y0 hpx3 H locs hw hS hF
    obtain ⟨q18, hq19, hF⟩ := bnd_e hF
    refine t_goT (fun ls h => t_runS (As := [.int (bI y0)]) [] h C ml_X11_69 (k_X11_requireState l D cA s0 z b ν _ hG y0 q18 hq19) ⟨rfl, rfl, nb rfl, nb rfl⟩ rfl ⟨rfl, hw⟩ (nb rfl) ⟨nb rfl, nb rfl⟩ dX11_dispute_60) hF hS (xA_le hS) C hX (fun _ h => h) (nb rfl) (nb rfl) (fun q20 hF H locs hw hS => ?_)
    refine x_widen (k := 4) (n := 24) (nb rfl) (nb rfl) ?_
    have hw : WC D cA s0 z b ν H := hw
    refine x_aload_n C dX11_dispute_63 rfl ?_
    refine x_get (.ref (b + 662)) C fl_X11_43 (C_PD hw) rfl dX11_dispute_64 ?_
    refine x_aload_n C dX11_dispute_67 rfl ?_
    refine x_get (.ref (b + 7)) C fl_X11_24 (C_PD hw) rfl dX11_dispute_68 ?_
    obtain ⟨q21, hq22, hF⟩ := bnd_e hF
    refine x_goM (fun ls h => x_runV (As := [.ref (b + 7)]) [] h C ml_X11_84 (k_X3_save l D cA s0 z b ν _ hG 7 q21 hq22) ⟨rfl, rfl, nb rfl, nb rfl⟩ rfl (C_His hw) rfl ⟨rfl, hw⟩ (nb rfl) ⟨nb rfl, nb rfl⟩ dX11_dispute_71) hS (xA_le hS) (fun H locs hw hz hk hS => ?_)
    have hw : WC D cA s0 z b q21 H := hw
    refine x_aload_n C dX11_dispute_74 rfl ?_
    refine x_dup C dX11_dispute_75 rfl ?_
    refine x_get (.int (q21.1 x3 5)) C fl_X11_235 (C_Cal hpx3 hw) rfl dX11_dispute_76 ?_
    refine x_iconst (1 : Int32) C dX11_dispute_79 rfl ?_
    refine x_iload_n C dX11_dispute_80 rfl ?_
    refine x_ishl C dX11_dispute_81 ?_
    refine x_ior C dX11_dispute_82 ?_
    refine y_putI (kk0 := 5) x3 C fl_X11_235 hw (l2 (lt_Cal hpx3)) (fun nm => S_Cal hpx3) (fun nm => S_Cal hpx3) rfl rfl (fun _ => nb rfl) dX11_dispute_83 hS (xA_in (l2 (lt_Cal hpx3))) (fun H locs hw hS => ?_)
    obtain ⟨μ23, hm24, hF⟩ := bnd_e hF
    have hw : WC D cA s0 z b μ23 H := rv_m (W := fun m => WC D cA s0 z b m _) hm24 hw
    refine x_aload_n C dX11_dispute_86 rfl ?_
    refine x_get (.int (μ23.1 x3 5)) C fl_X11_235 (C_Cal hpx3 hw) rfl dX11_dispute_87 ?_
    obtain ⟨q25, hq26, hF⟩ := bnd_e hF
    refine x_goR (fun ls h => x_runS (As := [.int (μ23.1 x3 5)]) [] h C ml_X11_305 (k_J6_bitCount_0f7a4 l D cA s0 z hG (μ23.1 x3 5) q25 hq26) ⟨rfl, rfl, nb rfl, nb rfl⟩ rfl trivial (nb rfl) ⟨nb rfl, nb rfl⟩ dX11_dispute_90) ?_
    exact t_iret C rfl dX11_dispute_93  (rt_o hF) rfl hw hS (nb rfl) (nb rfl)
  have h_J59 : ∀ (x3 : Nat) (hpx3 : isCal x3) (H : Heap) (locs : List Loc) (hw : WC D cA s0 z b ν H) (hS : va_S (xA b 2628 s.heap.size) s.heap H locs), g_X11_dispute_J59 ν a1 a2 x3 = some r → xW p l e { frames := 9, cells := 4, slots := 24, locals := 175 } s m args below meth c 4 (vx_MQ below (xQt (fun q => (some (.int q.1))) (fun q H => WC D cA s0 z b q.2 H) (xA b 2628 s.heap.size) r) (xXt (fun H => WC D cA s0 z b ν H) (xA b 2628 s.heap.size) r) args s 4 24 (xA b 2628 s.heap.size)) H locs 3 18 59 [(0, .ref (b + 0)), (2, .int a2), (3, .ref (b + x3))] [] := by
    intro x3 hpx3 H locs hw hS hF
    refine x_iconst (0 : Int32) C dX11_dispute_59 rfl ?_
    exact h_J60 x3 false hpx3 _ _ hw hS hF
  refine x_aload_n C dX11_dispute_0 rfl ?_
  refine x_iload_n C dX11_dispute_1 rfl ?_
  obtain ⟨q1, hq2, hF⟩ := bnd_e hF
  refine t_goT (fun ls h => t_runV (As := [.int a1]) [] h C ml_X11_199 (k_X11_requireCall l D cA s0 z b ν _ hG a1 q1 hq2) ⟨rfl, rfl, nb rfl, nb rfl⟩ rfl (C_PD hw) rfl ⟨rfl, hw⟩ (nb rfl) ⟨nb rfl, nb rfl⟩ dX11_dispute_2) hF hS (xA_le hS) C hX (fun _ h => h) (nb rfl) (nb rfl) (fun q3 hF H locs hw hS => ?_)
  refine x_widen (k := 1) (n := 6) (nb rfl) (nb rfl) ?_
  have hw : WC D cA s0 z b ν H := hw
  refine x_iload_n C dX11_dispute_5 rfl ?_
  refine x_iconst (0 : Int32) C dX11_dispute_6 rfl ?_
  refine x_bipush (29 : Int32) C dX11_dispute_7 rfl ?_
  obtain ⟨q4, hq5, hF⟩ := bnd_e hF
  refine t_goT (fun ls h => t_runS (As := [.int a2, .int (0 : Int32), .int (29 : Int32)]) [] h C ml_X11_76 (k_X11_requireRange l D cA s0 z b ν _ hG a2 (0 : Int32) (29 : Int32) q4 hq5) ⟨rfl, rfl, nb rfl, nb rfl⟩ rfl ⟨rfl, hw⟩ (nb rfl) ⟨nb rfl, nb rfl⟩ dX11_dispute_9) hF hS (xA_le hS) C hX (fun _ h => h) (nb rfl) (nb rfl) (fun q6 hF H locs hw hS => ?_)
  refine x_widen (k := 2) (n := 12) (nb rfl) (nb rfl) ?_
  have hw : WC D cA s0 z b ν H := hw
  refine x_aload_n C dX11_dispute_12 rfl ?_
  refine x_get (.ref (b + 7)) C fl_X11_24 (C_PD hw) rfl dX11_dispute_13 ?_
  refine x_iload_n C dX11_dispute_16 rfl ?_
  obtain ⟨q7, hq8, hF⟩ := bnd_e hF
  refine x_goR (fun ls h => x_runV (As := [.int a1]) [] h C ml_X11_232 (k_X5_layDaysOf l D cA s0 z b ν hG 7 a1 q7 hq8) ⟨rfl, rfl, nb rfl, nb rfl⟩ rfl (C_Led led7 hw) rfl hw (nb rfl) ⟨nb rfl, nb rfl⟩ dX11_dispute_17) ?_
  refine x_iload_n C dX11_dispute_20 rfl ?_
  obtain ⟨q9, hq10, hF⟩ := bnd_e hF
  refine x_goR (fun ls h => x_runS (As := [.int q7, .int a2]) [] h C ml_X11_378 (k_X11_contains l D cA s0 z hG q7 a2 q9 hq10) ⟨rfl, rfl, nb rfl, nb rfl⟩ rfl trivial (nb rfl) ⟨nb rfl, nb rfl⟩ dX11_dispute_21) ?_
  obtain ⟨q11, hq12, hF⟩ := bnd_e hF
  refine t_goT (fun ls h => t_runS (As := [.int (bI q9)]) [] h C ml_X11_382 (k_X11_requireArgument l D cA s0 z b ν _ hG q9 q11 hq12) ⟨rfl, rfl, nb rfl, nb rfl⟩ rfl ⟨rfl, hw⟩ (nb rfl) ⟨nb rfl, nb rfl⟩ dX11_dispute_24) hF hS (xA_le hS) C hX (fun _ h => h) (nb rfl) (nb rfl) (fun q13 hF H locs hw hS => ?_)
  refine x_widen (k := 3) (n := 18) (nb rfl) (nb rfl) ?_
  have hw : WC D cA s0 z b ν H := hw
  refine x_aload_n C dX11_dispute_27 rfl ?_
  refine x_get (.ref (b + 7)) C fl_X11_24 (C_PD hw) rfl dX11_dispute_28 ?_
  refine x_get (.ref (b + (7 + 2))) C fl_X11_202 (C_Led led7 hw) rfl dX11_dispute_31 ?_
  refine x_iload_n C dX11_dispute_34 rfl ?_
  obtain ⟨h14, hF⟩ := asr_e hF
  obtain ⟨hn15, hl16⟩ := vpn h14 (by decide)
  refine x_aald 4 C (C_calls led7 hw) rfl hn15 hl16 (by decide) rfl dX11_dispute_35 ?_
  refine x_astore_n [(3, .ref (b + (7 + (22 + (cl a1))))), (0, .ref (b + 0)), (1, .int a1), (2, .int a2)] C dX11_dispute_36 rfl (by decide) rfl ?_
  refine x_aload_n C dX11_dispute_37 rfl ?_
  refine x_get (.int (ν.1 (7 + (22 + (cl a1))) 4)) C fl_X11_220 (C_Cal (mk_Cal led7 hl16) hw) rfl dX11_dispute_38 ?_
  refine x_if_ne 59 C dX11_dispute_41 (by decide) (fun c17 => ?_) (fun c17 => ?_)
  · have hF := ite_f hF c17
    refine x_sub [(0, .ref (b + 0)), (2, .int a2), (3, .ref (b + (7 + (22 + (cl a1)))))] [1, 3, 0] rfl ?_
    exact h_J59 (7 + (22 + (cl a1))) (mk_Cal led7 hl16) _ _ hw hS hF
  · have hF := ite_t hF c17
    refine x_aload_n C dX11_dispute_44 rfl ?_
    obtain ⟨q27, hq28, hF⟩ := bnd_e hF
    refine x_goR (fun ls h => x_runV (As := []) [] h C ml_X11_302 (k_X2_contestedDays l D cA s0 z b ν hG (7 + (22 + (cl a1))) q27 hq28) ⟨rfl, rfl, nb rfl, nb rfl⟩ rfl (C_Cal (mk_Cal led7 hl16) hw) rfl hw (nb rfl) ⟨nb rfl, nb rfl⟩ dX11_dispute_45) ?_
    refine x_iload_n C dX11_dispute_48 rfl ?_
    obtain ⟨q29, hq30, hF⟩ := bnd_e hF
    refine x_goR (fun ls h => x_runS (As := [.int q27, .int a2]) [] h C ml_X11_378 (k_X11_contains l D cA s0 z hG q27 a2 q29 hq30) ⟨rfl, rfl, nb rfl, nb rfl⟩ rfl trivial (nb rfl) ⟨nb rfl, nb rfl⟩ dX11_dispute_49) ?_
    refine x_ifB_ne 59 C dX11_dispute_52 (by decide) (fun c31 => ?_) (fun c31 => ?_)
    · have hF := ite_t hF c31
      refine x_sub [(0, .ref (b + 0)), (2, .int a2), (3, .ref (b + (7 + (22 + (cl a1)))))] [1, 3, 0] rfl ?_
      exact h_J59 (7 + (22 + (cl a1))) (mk_Cal led7 hl16) _ _ hw hS hF
    · have hF := ite_f hF (nbt c31)
      refine x_iconst (1 : Int32) C dX11_dispute_55 rfl ?_
      refine x_goto 60 C dX11_dispute_56 (by decide) ?_
      refine x_sub [(0, .ref (b + 0)), (2, .int a2), (3, .ref (b + (7 + (22 + (cl a1)))))] [1, 3, 0] rfl ?_
      exact h_J60 (7 + (22 + (cl a1))) true (mk_Cal led7 hl16) _ _ hw hS hF
noncomputable def g_X11_settle_J43 (ν : Mm) (a1 : Int32) (a2 : Int32) (a3 : Bool) (x4 : Nat) (y0 : Bool) : Option (Thr (Int32 × Mm)) := bnd (g_X11_requireState ν y0) (fun q8 => bnx q8 (fun q10 => bnd (g_X3_save ν 7) (fun q11 => bnd (some (uI q11 x4 5 ((q11.1 x4 5) &&& (((1 : Int32) <<< (a2 &&& 31)) ^^^ (-1 : Int32))))) (fun μ13 => (if a3 = true then bnd (some (uI μ13 x4 6 ((μ13.1 x4 6) ||| ((1 : Int32) <<< (a2 &&& 31))))) (fun μ18 => bnd (g_J6_bitCount_0f7a4 (μ18.1 x4 5)) (fun q20 => some (.ok (q20, μ18)))) else bnd (g_J6_bitCount_0f7a4 (μ13.1 x4 5)) (fun q16 => some (.ok (q16, μ13))))))))
noncomputable def g_X11_settle_J42 (ν : Mm) (a1 : Int32) (a2 : Int32) (a3 : Bool) (x4 : Nat) : Option (Thr (Int32 × Mm)) := (g_X11_settle_J43 ν a1 a2 a3 x4 false)
noncomputable def g_X11_settle (ν : Mm) (a1 : Int32) (a2 : Int32) (a3 : Bool) : Option (Thr (Int32 × Mm)) := bnd (g_X11_requireCall ν a1) (fun q1 => bnx q1 (fun q3 => asr (vp_in a1 40) ((if a2 < 0 then (g_X11_settle_J42 ν a1 a2 a3 (7 + (22 + (cl a1)))) else (if (30 : Int32) ≤ a2 then (g_X11_settle_J42 ν a1 a2 a3 (7 + (22 + (cl a1)))) else bnd (g_X11_contains (ν.1 (7 + (22 + (cl a1))) 5) a2) (fun q23 => (if q23 = true then (g_X11_settle_J43 ν a1 a2 a3 (7 + (22 + (cl a1))) true) else (g_X11_settle_J42 ν a1 a2 a3 (7 + (22 + (cl a1)))))))))))
set_option maxRecDepth 20000 in
set_option maxHeartbeats 4000000 in
theorem k_X11_settle (l : Launch) (D : va_G) (cA : Nat → ClassId) (s0 : State) (z : Nat) (b : Nat) (ν : Mm) (sz : Nat) (hG : xG l D cA s0) (a1 : Int32) (a2 : Int32) (a3 : Bool) (r : Thr (Int32 × Mm)) (hF : g_X11_settle ν a1 a2 a3 = some r) : vx_Met l yX11_settle (wsG yX11_settle cX11_settle 5 (some (FieldType.int))) { frames := 9, cells := 2, slots := 12, locals := 175 } (xP D cA s0 [.ref (b + 0), .int a1, .int a2, .int (bI a3)] (fun H => H.size = sz ∧ WC D cA s0 z b ν H)) (xQt (fun q => (some (.int q.1))) (fun q H => WC D cA s0 z b q.2 H) (xA b 2628 sz) r) (xXt (fun H => WC D cA s0 z b ν H) (xA b 2628 sz) r) 2 12 (xA b 2628 sz) := by
  refine t_start (z := z) (b := b) (ν := ν) (s0 := s0) (own := RX11) [(0, .ref (b + 0)), (1, .int a1), (2, .int a2), (3, .int (bI a3))] rfl rfl (by decide) (nb rfl) ?_
  intro p e s m args below meth c C hX hw
  obtain ⟨hsz, hw⟩ := hw
  subst hsz
  have hS : va_S (xA b 2628 s.heap.size) s.heap s.heap [] := va_S.rf
  have h_J43 : ∀ (x4 : Nat) (y0 : Bool) (hpx4 : isCal x4) (H : Heap) (locs : List Loc) (hw : WC D cA s0 z b ν H) (hS : va_S (xA b 2628 s.heap.size) s.heap H locs), g_X11_settle_J43 ν a1 a2 a3 x4 y0 = some r → xW p l e { frames := 9, cells := 2, slots := 12, locals := 175 } s m args below meth c 5 (vx_MQ below (xQt (fun q => (some (.int q.1))) (fun q H => WC D cA s0 z b q.2 H) (xA b 2628 s.heap.size) r) (xXt (fun H => WC D cA s0 z b ν H) (xA b 2628 s.heap.size) r) args s 2 12 (xA b 2628 s.heap.size)) H locs 1 6 43 [(0, .ref (b + 0)), (2, .int a2), (3, .int (bI a3)), (4, .ref (b + x4))] [.int (bI y0)] := by
    intro x4 y0 hpx4 H locs hw hS hF
    obtain ⟨q8, hq9, hF⟩ := bnd_e hF
    refine t_goT (fun ls h => t_runS (As := [.int (bI y0)]) [] h C ml_X11_69 (k_X11_requireState l D cA s0 z b ν _ hG y0 q8 hq9) ⟨rfl, rfl, nb rfl, nb rfl⟩ rfl ⟨rfl, hw⟩ (nb rfl) ⟨nb rfl, nb rfl⟩ dX11_settle_43) hF hS (xA_le hS) C hX (fun _ h => h) (nb rfl) (nb rfl) (fun q10 hF H locs hw hS => ?_)
    refine x_widen (k := 2) (n := 12) (nb rfl) (nb rfl) ?_
    have hw : WC D cA s0 z b ν H := hw
    refine x_aload_n C dX11_settle_46 rfl ?_
    refine x_get (.ref (b + 662)) C fl_X11_43 (C_PD hw) rfl dX11_settle_47 ?_
    refine x_aload_n C dX11_settle_50 rfl ?_
    refine x_get (.ref (b + 7)) C fl_X11_24 (C_PD hw) rfl dX11_settle_51 ?_
    obtain ⟨q11, hq12, hF⟩ := bnd_e hF
    refine x_goM (fun ls h => x_runV (As := [.ref (b + 7)]) [] h C ml_X11_84 (k_X3_save l D cA s0 z b ν _ hG 7 q11 hq12) ⟨rfl, rfl, nb rfl, nb rfl⟩ rfl (C_His hw) rfl ⟨rfl, hw⟩ (nb rfl) ⟨nb rfl, nb rfl⟩ dX11_settle_54) hS (xA_le hS) (fun H locs hw hz hk hS => ?_)
    have hw : WC D cA s0 z b q11 H := hw
    refine x_aload C dX11_settle_57 rfl ?_
    refine x_dup C dX11_settle_59 rfl ?_
    refine x_get (.int (q11.1 x4 5)) C fl_X11_235 (C_Cal hpx4 hw) rfl dX11_settle_60 ?_
    refine x_iconst (1 : Int32) C dX11_settle_63 rfl ?_
    refine x_iload_n C dX11_settle_64 rfl ?_
    refine x_ishl C dX11_settle_65 ?_
    refine x_iconst (-1 : Int32) C dX11_settle_66 rfl ?_
    refine x_ixor C dX11_settle_67 ?_
    refine x_iand C dX11_settle_68 ?_
    refine y_putI (kk0 := 5) x4 C fl_X11_235 hw (l2 (lt_Cal hpx4)) (fun nm => S_Cal hpx4) (fun nm => S_Cal hpx4) rfl rfl (fun _ => nb rfl) dX11_settle_69 hS (xA_in (l2 (lt_Cal hpx4))) (fun H locs hw hS => ?_)
    obtain ⟨μ13, hm14, hF⟩ := bnd_e hF
    have hw : WC D cA s0 z b μ13 H := rv_m (W := fun m => WC D cA s0 z b m _) hm14 hw
    refine x_iload_n C dX11_settle_72 rfl ?_
    refine x_ifB_eq 89 C dX11_settle_73 (by decide) (fun c15 => ?_) (fun c15 => ?_)
    · have hF := ite_f hF (nbt c15)
      refine x_aload C dX11_settle_89 rfl ?_
      refine x_get (.int (μ13.1 x4 5)) C fl_X11_235 (C_Cal hpx4 hw) rfl dX11_settle_91 ?_
      obtain ⟨q16, hq17, hF⟩ := bnd_e hF
      refine x_goR (fun ls h => x_runS (As := [.int (μ13.1 x4 5)]) [] h C ml_X11_305 (k_J6_bitCount_0f7a4 l D cA s0 z hG (μ13.1 x4 5) q16 hq17) ⟨rfl, rfl, nb rfl, nb rfl⟩ rfl trivial (nb rfl) ⟨nb rfl, nb rfl⟩ dX11_settle_94) ?_
      exact t_iret C rfl dX11_settle_97  (rt_o hF) rfl hw hS (nb rfl) (nb rfl)
    · have hF := ite_t hF c15
      refine x_aload C dX11_settle_76 rfl ?_
      refine x_dup C dX11_settle_78 rfl ?_
      refine x_get (.int (μ13.1 x4 6)) C fl_X11_238 (C_Cal hpx4 hw) rfl dX11_settle_79 ?_
      refine x_iconst (1 : Int32) C dX11_settle_82 rfl ?_
      refine x_iload_n C dX11_settle_83 rfl ?_
      refine x_ishl C dX11_settle_84 ?_
      refine x_ior C dX11_settle_85 ?_
      refine y_putI (kk0 := 6) x4 C fl_X11_238 hw (l2 (lt_Cal hpx4)) (fun nm => S_Cal hpx4) (fun nm => S_Cal hpx4) rfl rfl (fun _ => nb rfl) dX11_settle_86 hS (xA_in (l2 (lt_Cal hpx4))) (fun H locs hw hS => ?_)
      obtain ⟨μ18, hm19, hF⟩ := bnd_e hF
      have hw : WC D cA s0 z b μ18 H := rv_m (W := fun m => WC D cA s0 z b m _) hm19 hw
      refine x_aload C dX11_settle_89 rfl ?_
      refine x_get (.int (μ18.1 x4 5)) C fl_X11_235 (C_Cal hpx4 hw) rfl dX11_settle_91 ?_
      obtain ⟨q20, hq21, hF⟩ := bnd_e hF
      refine x_goR (fun ls h => x_runS (As := [.int (μ18.1 x4 5)]) [] h C ml_X11_305 (k_J6_bitCount_0f7a4 l D cA s0 z hG (μ18.1 x4 5) q20 hq21) ⟨rfl, rfl, nb rfl, nb rfl⟩ rfl trivial (nb rfl) ⟨nb rfl, nb rfl⟩ dX11_settle_94) ?_
      exact t_iret C rfl dX11_settle_97  (rt_o hF) rfl hw hS (nb rfl) (nb rfl)
  have h_J42 : ∀ (x4 : Nat) (hpx4 : isCal x4) (H : Heap) (locs : List Loc) (hw : WC D cA s0 z b ν H) (hS : va_S (xA b 2628 s.heap.size) s.heap H locs), g_X11_settle_J42 ν a1 a2 a3 x4 = some r → xW p l e { frames := 9, cells := 2, slots := 12, locals := 175 } s m args below meth c 5 (vx_MQ below (xQt (fun q => (some (.int q.1))) (fun q H => WC D cA s0 z b q.2 H) (xA b 2628 s.heap.size) r) (xXt (fun H => WC D cA s0 z b ν H) (xA b 2628 s.heap.size) r) args s 2 12 (xA b 2628 s.heap.size)) H locs 1 6 42 [(0, .ref (b + 0)), (2, .int a2), (3, .int (bI a3)), (4, .ref (b + x4))] [] := by
    intro x4 hpx4 H locs hw hS hF
    refine x_iconst (0 : Int32) C dX11_settle_42 rfl ?_
    exact h_J43 x4 false hpx4 _ _ hw hS hF
  refine x_aload_n C dX11_settle_0 rfl ?_
  refine x_iload_n C dX11_settle_1 rfl ?_
  obtain ⟨q1, hq2, hF⟩ := bnd_e hF
  refine t_goT (fun ls h => t_runV (As := [.int a1]) [] h C ml_X11_199 (k_X11_requireCall l D cA s0 z b ν _ hG a1 q1 hq2) ⟨rfl, rfl, nb rfl, nb rfl⟩ rfl (C_PD hw) rfl ⟨rfl, hw⟩ (nb rfl) ⟨nb rfl, nb rfl⟩ dX11_settle_2) hF hS (xA_le hS) C hX (fun _ h => h) (nb rfl) (nb rfl) (fun q3 hF H locs hw hS => ?_)
  refine x_widen (k := 1) (n := 6) (nb rfl) (nb rfl) ?_
  have hw : WC D cA s0 z b ν H := hw
  refine x_aload_n C dX11_settle_5 rfl ?_
  refine x_get (.ref (b + 7)) C fl_X11_24 (C_PD hw) rfl dX11_settle_6 ?_
  refine x_get (.ref (b + (7 + 2))) C fl_X11_202 (C_Led led7 hw) rfl dX11_settle_9 ?_
  refine x_iload_n C dX11_settle_12 rfl ?_
  obtain ⟨h4, hF⟩ := asr_e hF
  obtain ⟨hn5, hl6⟩ := vpn h4 (by decide)
  refine x_aald 4 C (C_calls led7 hw) rfl hn5 hl6 (by decide) rfl dX11_settle_13 ?_
  refine x_astore [(4, .ref (b + (7 + (22 + (cl a1))))), (0, .ref (b + 0)), (1, .int a1), (2, .int a2), (3, .int (bI a3))] C dX11_settle_14 (by decide) rfl ?_
  refine x_iload_n C dX11_settle_16 rfl ?_
  refine x_if_lt 42 C dX11_settle_17 (by decide) (fun c7 => ?_) (fun c7 => ?_)
  · have hF := ite_t hF c7
    refine x_sub [(0, .ref (b + 0)), (2, .int a2), (3, .int (bI a3)), (4, .ref (b + (7 + (22 + (cl a1)))))] [1, 3, 4, 0] rfl ?_
    exact h_J42 (7 + (22 + (cl a1))) (mk_Cal led7 hl6) _ _ hw hS hF
  · have hF := ite_f hF c7
    refine x_iload_n C dX11_settle_20 rfl ?_
    refine x_bipush (30 : Int32) C dX11_settle_21 rfl ?_
    refine x_icmp_ge 42 C dX11_settle_23 (by decide) (fun c22 => ?_) (fun c22 => ?_)
    · have hF := ite_t hF c22
      refine x_sub [(0, .ref (b + 0)), (2, .int a2), (3, .int (bI a3)), (4, .ref (b + (7 + (22 + (cl a1)))))] [1, 3, 4, 0] rfl ?_
      exact h_J42 (7 + (22 + (cl a1))) (mk_Cal led7 hl6) _ _ hw hS hF
    · have hF := ite_f hF c22
      refine x_aload C dX11_settle_26 rfl ?_
      refine x_get (.int (ν.1 (7 + (22 + (cl a1))) 5)) C fl_X11_235 (C_Cal (mk_Cal led7 hl6) hw) rfl dX11_settle_28 ?_
      refine x_iload_n C dX11_settle_31 rfl ?_
      obtain ⟨q23, hq24, hF⟩ := bnd_e hF
      refine x_goR (fun ls h => x_runS (As := [.int (ν.1 (7 + (22 + (cl a1))) 5), .int a2]) [] h C ml_X11_378 (k_X11_contains l D cA s0 z hG (ν.1 (7 + (22 + (cl a1))) 5) a2 q23 hq24) ⟨rfl, rfl, nb rfl, nb rfl⟩ rfl trivial (nb rfl) ⟨nb rfl, nb rfl⟩ dX11_settle_32) ?_
      refine x_ifB_eq 42 C dX11_settle_35 (by decide) (fun c25 => ?_) (fun c25 => ?_)
      · have hF := ite_f hF (nbt c25)
        refine x_sub [(0, .ref (b + 0)), (2, .int a2), (3, .int (bI a3)), (4, .ref (b + (7 + (22 + (cl a1)))))] [1, 3, 4, 0] rfl ?_
        exact h_J42 (7 + (22 + (cl a1))) (mk_Cal led7 hl6) _ _ hw hS hF
      · have hF := ite_t hF c25
        refine x_iconst (1 : Int32) C dX11_settle_38 rfl ?_
        refine x_goto 43 C dX11_settle_39 (by decide) ?_
        refine x_sub [(0, .ref (b + 0)), (2, .int a2), (3, .int (bI a3)), (4, .ref (b + (7 + (22 + (cl a1)))))] [1, 3, 4, 0] rfl ?_
        exact h_J43 (7 + (22 + (cl a1))) true (mk_Cal led7 hl6) _ _ hw hS hF
noncomputable def g_X11_pay (ν : Mm) (a1 : Int32) (a2 : Int32) : Option (Thr (Int64 × Mm)) := bnd (g_X11_requireShip ν a1) (fun q1 => bnx q1 (fun q3 => bnd (g_X11_requireRange ν a2 (1 : Int32) (1000000000 : Int32)) (fun q4 => bnx q4 (fun q6 => bnd (g_X3_save ν 7) (fun q7 => asr (vp_in a1 8) (bnd (some (uP q7 (7 + (6 + 2 * (cl a1))) 3 ((q7.2.1 (7 + (6 + 2 * (cl a1))) 3) + a2.toInt64))) (fun μ12 => some (.ok (μ12.2.1 (7 + (6 + 2 * (cl a1))) 3, μ12)))))))))
set_option maxRecDepth 20000 in
set_option maxHeartbeats 4000000 in
theorem k_X11_pay (l : Launch) (D : va_G) (cA : Nat → ClassId) (s0 : State) (z : Nat) (b : Nat) (ν : Mm) (sz : Nat) (hG : xG l D cA s0) (a1 : Int32) (a2 : Int32) (r : Thr (Int64 × Mm)) (hF : g_X11_pay ν a1 a2 = some r) : vx_Met l yX11_pay (wsG yX11_pay cX11_pay 4 (some (FieldType.long))) { frames := 9, cells := 2, slots := 12, locals := 175 } (xP D cA s0 [.ref (b + 0), .int a1, .int a2] (fun H => H.size = sz ∧ WC D cA s0 z b ν H)) (xQt (fun q => (some (.long q.1))) (fun q H => WC D cA s0 z b q.2 H) (xA b 2628 sz) r) (xXt (fun H => WC D cA s0 z b ν H) (xA b 2628 sz) r) 2 12 (xA b 2628 sz) := by
  refine t_start (z := z) (b := b) (ν := ν) (s0 := s0) (own := RX11) [(0, .ref (b + 0)), (1, .int a1), (2, .int a2)] rfl rfl (by decide) (nb rfl) ?_
  intro p e s m args below meth c C hX hw
  obtain ⟨hsz, hw⟩ := hw
  subst hsz
  have hS : va_S (xA b 2628 s.heap.size) s.heap s.heap [] := va_S.rf
  refine x_aload_n C dX11_pay_0 rfl ?_
  refine x_iload_n C dX11_pay_1 rfl ?_
  obtain ⟨q1, hq2, hF⟩ := bnd_e hF
  refine t_goT (fun ls h => t_runV (As := [.int a1]) [] h C ml_X11_184 (k_X11_requireShip l D cA s0 z b ν _ hG a1 q1 hq2) ⟨rfl, rfl, nb rfl, nb rfl⟩ rfl (C_PD hw) rfl ⟨rfl, hw⟩ (nb rfl) ⟨nb rfl, nb rfl⟩ dX11_pay_2) hF hS (xA_le hS) C hX (fun _ h => h) (nb rfl) (nb rfl) (fun q3 hF H locs hw hS => ?_)
  refine x_widen (k := 1) (n := 6) (nb rfl) (nb rfl) ?_
  have hw : WC D cA s0 z b ν H := hw
  refine x_iload_n C dX11_pay_5 rfl ?_
  refine x_iconst (1 : Int32) C dX11_pay_6 rfl ?_
  refine x_ldcw (1000000000 : Int32) C co_X11_385 dX11_pay_7 ?_
  obtain ⟨q4, hq5, hF⟩ := bnd_e hF
  refine t_goT (fun ls h => t_runS (As := [.int a2, .int (1 : Int32), .int (1000000000 : Int32)]) [] h C ml_X11_76 (k_X11_requireRange l D cA s0 z b ν _ hG a2 (1 : Int32) (1000000000 : Int32) q4 hq5) ⟨rfl, rfl, nb rfl, nb rfl⟩ rfl ⟨rfl, hw⟩ (nb rfl) ⟨nb rfl, nb rfl⟩ dX11_pay_10) hF hS (xA_le hS) C hX (fun _ h => h) (nb rfl) (nb rfl) (fun q6 hF H locs hw hS => ?_)
  refine x_widen (k := 2) (n := 12) (nb rfl) (nb rfl) ?_
  have hw : WC D cA s0 z b ν H := hw
  refine x_aload_n C dX11_pay_13 rfl ?_
  refine x_get (.ref (b + 662)) C fl_X11_43 (C_PD hw) rfl dX11_pay_14 ?_
  refine x_aload_n C dX11_pay_17 rfl ?_
  refine x_get (.ref (b + 7)) C fl_X11_24 (C_PD hw) rfl dX11_pay_18 ?_
  obtain ⟨q7, hq8, hF⟩ := bnd_e hF
  refine x_goM (fun ls h => x_runV (As := [.ref (b + 7)]) [] h C ml_X11_84 (k_X3_save l D cA s0 z b ν _ hG 7 q7 hq8) ⟨rfl, rfl, nb rfl, nb rfl⟩ rfl (C_His hw) rfl ⟨rfl, hw⟩ (nb rfl) ⟨nb rfl, nb rfl⟩ dX11_pay_21) hS (xA_le hS) (fun H locs hw hz hk hS => ?_)
  have hw : WC D cA s0 z b q7 H := hw
  refine x_aload_n C dX11_pay_24 rfl ?_
  refine x_get (.ref (b + 7)) C fl_X11_24 (C_PD hw) rfl dX11_pay_25 ?_
  refine x_get (.ref (b + (7 + 1))) C fl_X11_187 (C_Led led7 hw) rfl dX11_pay_28 ?_
  refine x_iload_n C dX11_pay_31 rfl ?_
  obtain ⟨h9, hF⟩ := asr_e hF
  obtain ⟨hn10, hl11⟩ := vpn h9 (by decide)
  refine x_aald 3 C (C_ships led7 hw) rfl hn10 hl11 (by decide) rfl dX11_pay_32 ?_
  refine x_astore_n [(3, .ref (b + (7 + (6 + 2 * (cl a1))))), (0, .ref (b + 0)), (1, .int a1), (2, .int a2)] C dX11_pay_33 rfl (by decide) rfl ?_
  refine x_aload_n C dX11_pay_34 rfl ?_
  refine x_dup C dX11_pay_35 rfl ?_
  refine x_get (.long (q7.2.1 (7 + (6 + 2 * (cl a1))) 3)) C fl_X11_328 (C_Ship (mk_Ship led7 hl11) hw) rfl dX11_pay_36 ?_
  refine x_iload_n C dX11_pay_39 rfl ?_
  refine x_i2l C dX11_pay_40 ?_
  refine x_ladd C dX11_pay_41 ?_
  refine y_putP (kk0 := 3) (7 + (6 + 2 * (cl a1))) C fl_X11_328 hw (l2 (lt_Ship (mk_Ship led7 hl11))) (fun nm => S_Ship (mk_Ship led7 hl11)) (fun nm => S_Ship (mk_Ship led7 hl11)) rfl rfl (fun _ => nb rfl) dX11_pay_42 hS (xA_in (l2 (lt_Ship (mk_Ship led7 hl11)))) (fun H locs hw hS => ?_)
  obtain ⟨μ12, hm13, hF⟩ := bnd_e hF
  have hw : WC D cA s0 z b μ12 H := rv_m (W := fun m => WC D cA s0 z b m _) hm13 hw
  refine x_aload_n C dX11_pay_45 rfl ?_
  refine x_get (.long (μ12.2.1 (7 + (6 + 2 * (cl a1))) 3)) C fl_X11_328 (C_Ship (mk_Ship led7 hl11) hw) rfl dX11_pay_46 ?_
  exact t_lret C rfl dX11_pay_49  (rt_o hF) rfl hw hS (nb rfl) (nb rfl)
noncomputable def g_X11_advance_J28 (ν : Mm) (a1 : Int32) (y0 : Bool) : Option (Thr (Int32 × Mm)) := bnd (g_X11_requireState ν y0) (fun q5 => bnx q5 (fun q7 => bnd (g_X3_save ν 7) (fun q8 => bnd (some (uI q8 7 10 ((q8.1 7 10) + a1))) (fun μ10 => some (.ok (μ10.1 7 10, μ10))))))
noncomputable def g_X11_advance (ν : Mm) (a1 : Int32) : Option (Thr (Int32 × Mm)) := bnd (g_X11_requireRange ν a1 (1 : Int32) (3600 : Int32)) (fun q1 => bnx q1 (fun q3 => (if (99999 : Int32) < ((ν.1 7 10) + a1) then (g_X11_advance_J28 ν a1 false) else (g_X11_advance_J28 ν a1 true))))
set_option maxRecDepth 20000 in
set_option maxHeartbeats 4000000 in
theorem k_X11_advance (l : Launch) (D : va_G) (cA : Nat → ClassId) (s0 : State) (z : Nat) (b : Nat) (ν : Mm) (sz : Nat) (hG : xG l D cA s0) (a1 : Int32) (r : Thr (Int32 × Mm)) (hF : g_X11_advance ν a1 = some r) : vx_Met l yX11_advance (wsG yX11_advance cX11_advance 2 (some (FieldType.int))) { frames := 9, cells := 2, slots := 12, locals := 175 } (xP D cA s0 [.ref (b + 0), .int a1] (fun H => H.size = sz ∧ WC D cA s0 z b ν H)) (xQt (fun q => (some (.int q.1))) (fun q H => WC D cA s0 z b q.2 H) (xA b 2628 sz) r) (xXt (fun H => WC D cA s0 z b ν H) (xA b 2628 sz) r) 2 12 (xA b 2628 sz) := by
  refine t_start (z := z) (b := b) (ν := ν) (s0 := s0) (own := RX11) [(0, .ref (b + 0)), (1, .int a1)] rfl rfl (by decide) (nb rfl) ?_
  intro p e s m args below meth c C hX hw
  obtain ⟨hsz, hw⟩ := hw
  subst hsz
  have hS : va_S (xA b 2628 s.heap.size) s.heap s.heap [] := va_S.rf
  have h_J28 : ∀ (y0 : Bool) (H : Heap) (locs : List Loc) (hw : WC D cA s0 z b ν H) (hS : va_S (xA b 2628 s.heap.size) s.heap H locs), g_X11_advance_J28 ν a1 y0 = some r → xW p l e { frames := 9, cells := 2, slots := 12, locals := 175 } s m args below meth c 2 (vx_MQ below (xQt (fun q => (some (.int q.1))) (fun q H => WC D cA s0 z b q.2 H) (xA b 2628 s.heap.size) r) (xXt (fun H => WC D cA s0 z b ν H) (xA b 2628 s.heap.size) r) args s 2 12 (xA b 2628 s.heap.size)) H locs 1 6 28 [(0, .ref (b + 0)), (1, .int a1)] [.int (bI y0)] := by
    intro y0 H locs hw hS hF
    obtain ⟨q5, hq6, hF⟩ := bnd_e hF
    refine t_goT (fun ls h => t_runS (As := [.int (bI y0)]) [] h C ml_X11_69 (k_X11_requireState l D cA s0 z b ν _ hG y0 q5 hq6) ⟨rfl, rfl, nb rfl, nb rfl⟩ rfl ⟨rfl, hw⟩ (nb rfl) ⟨nb rfl, nb rfl⟩ dX11_advance_28) hF hS (xA_le hS) C hX (fun _ h => h) (nb rfl) (nb rfl) (fun q7 hF H locs hw hS => ?_)
    refine x_widen (k := 2) (n := 12) (nb rfl) (nb rfl) ?_
    have hw : WC D cA s0 z b ν H := hw
    refine x_aload_n C dX11_advance_31 rfl ?_
    refine x_get (.ref (b + 662)) C fl_X11_43 (C_PD hw) rfl dX11_advance_32 ?_
    refine x_aload_n C dX11_advance_35 rfl ?_
    refine x_get (.ref (b + 7)) C fl_X11_24 (C_PD hw) rfl dX11_advance_36 ?_
    obtain ⟨q8, hq9, hF⟩ := bnd_e hF
    refine x_goM (fun ls h => x_runV (As := [.ref (b + 7)]) [] h C ml_X11_84 (k_X3_save l D cA s0 z b ν _ hG 7 q8 hq9) ⟨rfl, rfl, nb rfl, nb rfl⟩ rfl (C_His hw) rfl ⟨rfl, hw⟩ (nb rfl) ⟨nb rfl, nb rfl⟩ dX11_advance_39) hS (xA_le hS) (fun H locs hw hz hk hS => ?_)
    have hw : WC D cA s0 z b q8 H := hw
    refine x_aload_n C dX11_advance_42 rfl ?_
    refine x_get (.ref (b + 7)) C fl_X11_24 (C_PD hw) rfl dX11_advance_43 ?_
    refine x_dup C dX11_advance_46 rfl ?_
    refine x_get (.int (q8.1 7 10)) C fl_X11_115 (C_Led led7 hw) rfl dX11_advance_47 ?_
    refine x_iload_n C dX11_advance_50 rfl ?_
    refine x_iadd C dX11_advance_51 ?_
    refine y_putI (kk0 := 10) 7 C fl_X11_115 hw (l4 led7) (fun nm => S_Led led7) (fun nm => S_Led led7) rfl rfl (fun _ => nb rfl) dX11_advance_52 hS (xA_in (l4 led7)) (fun H locs hw hS => ?_)
    obtain ⟨μ10, hm11, hF⟩ := bnd_e hF
    have hw : WC D cA s0 z b μ10 H := rv_m (W := fun m => WC D cA s0 z b m _) hm11 hw
    refine x_aload_n C dX11_advance_55 rfl ?_
    refine x_get (.ref (b + 7)) C fl_X11_24 (C_PD hw) rfl dX11_advance_56 ?_
    refine x_get (.int (μ10.1 7 10)) C fl_X11_115 (C_Led led7 hw) rfl dX11_advance_59 ?_
    exact t_iret C rfl dX11_advance_62  (rt_o hF) rfl hw hS (nb rfl) (nb rfl)
  refine x_iload_n C dX11_advance_0 rfl ?_
  refine x_iconst (1 : Int32) C dX11_advance_1 rfl ?_
  refine x_sipush (3600 : Int32) C dX11_advance_2 rfl ?_
  obtain ⟨q1, hq2, hF⟩ := bnd_e hF
  refine t_goT (fun ls h => t_runS (As := [.int a1, .int (1 : Int32), .int (3600 : Int32)]) [] h C ml_X11_76 (k_X11_requireRange l D cA s0 z b ν _ hG a1 (1 : Int32) (3600 : Int32) q1 hq2) ⟨rfl, rfl, nb rfl, nb rfl⟩ rfl ⟨rfl, hw⟩ (nb rfl) ⟨nb rfl, nb rfl⟩ dX11_advance_5) hF hS (xA_le hS) C hX (fun _ h => h) (nb rfl) (nb rfl) (fun q3 hF H locs hw hS => ?_)
  refine x_widen (k := 1) (n := 6) (nb rfl) (nb rfl) ?_
  have hw : WC D cA s0 z b ν H := hw
  refine x_aload_n C dX11_advance_8 rfl ?_
  refine x_get (.ref (b + 7)) C fl_X11_24 (C_PD hw) rfl dX11_advance_9 ?_
  refine x_get (.int (ν.1 7 10)) C fl_X11_115 (C_Led led7 hw) rfl dX11_advance_12 ?_
  refine x_iload_n C dX11_advance_15 rfl ?_
  refine x_iadd C dX11_advance_16 ?_
  refine x_ldcw (99999 : Int32) C co_X11_386 dX11_advance_17 ?_
  refine x_icmp_gt 27 C dX11_advance_20 (by decide) (fun c4 => ?_) (fun c4 => ?_)
  · have hF := ite_t hF c4
    refine x_iconst (0 : Int32) C dX11_advance_27 rfl ?_
    exact h_J28 false _ _ hw hS hF
  · have hF := ite_f hF c4
    refine x_iconst (1 : Int32) C dX11_advance_23 rfl ?_
    refine x_goto 28 C dX11_advance_24 (by decide) ?_
    exact h_J28 true _ _ hw hS hF
noncomputable def g_X11_setRate_J39 (ν : Mm) (a1 : Int32) (a2 : Int32) (y0 : Bool) : Option (Thr (Int32 × Mm)) := bnd (g_X11_requireState ν y0) (fun q11 => bnx q11 (fun q13 => bnd (g_X3_save ν 7) (fun q14 => bnd (g_X5_newVersion q14 7) (fun q16 => asr (isTar q16.1) (asr (vp_in a1 6) (bnd (some (uI q16.2 (q16.1 + 2) (cl a1) a2)) (fun μ22 => some (.ok (μ22.1 7 9, μ22)))))))))
noncomputable def g_X11_setRate (ν : Mm) (a1 : Int32) (a2 : Int32) : Option (Thr (Int32 × Mm)) := bnd (g_X5_present ν 7) (fun q1 => asr (isTar q1) (bnd (g_X11_requireIndex ν a1 (ν.1 q1 4)) (fun q4 => bnx q4 (fun q6 => bnd (g_X11_requireRange ν a2 (0 : Int32) (999 : Int32)) (fun q7 => bnx q7 (fun q9 => (if (20 : Int32) ≤ (ν.1 7 9) then (g_X11_setRate_J39 ν a1 a2 false) else (g_X11_setRate_J39 ν a1 a2 true))))))))
set_option maxRecDepth 20000 in
set_option maxHeartbeats 4000000 in
theorem k_X11_setRate (l : Launch) (D : va_G) (cA : Nat → ClassId) (s0 : State) (z : Nat) (b : Nat) (ν : Mm) (sz : Nat) (hG : xG l D cA s0) (a1 : Int32) (a2 : Int32) (r : Thr (Int32 × Mm)) (hF : g_X11_setRate ν a1 a2 = some r) : vx_Met l yX11_setRate (wsG yX11_setRate cX11_setRate 3 (some (FieldType.int))) { frames := 9, cells := 3, slots := 18, locals := 175 } (xP D cA s0 [.ref (b + 0), .int a1, .int a2] (fun H => H.size = sz ∧ WC D cA s0 z b ν H)) (xQt (fun q => (some (.int q.1))) (fun q H => WC D cA s0 z b q.2 H) (xA b 2628 sz) r) (xXt (fun H => WC D cA s0 z b ν H) (xA b 2628 sz) r) 3 18 (xA b 2628 sz) := by
  refine t_start (z := z) (b := b) (ν := ν) (s0 := s0) (own := RX11) [(0, .ref (b + 0)), (1, .int a1), (2, .int a2)] rfl rfl (by decide) (nb rfl) ?_
  intro p e s m args below meth c C hX hw
  obtain ⟨hsz, hw⟩ := hw
  subst hsz
  have hS : va_S (xA b 2628 s.heap.size) s.heap s.heap [] := va_S.rf
  have h_J39 : ∀ (y0 : Bool) (H : Heap) (locs : List Loc) (hw : WC D cA s0 z b ν H) (hS : va_S (xA b 2628 s.heap.size) s.heap H locs), g_X11_setRate_J39 ν a1 a2 y0 = some r → xW p l e { frames := 9, cells := 3, slots := 18, locals := 175 } s m args below meth c 3 (vx_MQ below (xQt (fun q => (some (.int q.1))) (fun q H => WC D cA s0 z b q.2 H) (xA b 2628 s.heap.size) r) (xXt (fun H => WC D cA s0 z b ν H) (xA b 2628 s.heap.size) r) args s 3 18 (xA b 2628 s.heap.size)) H locs 2 12 39 [(0, .ref (b + 0)), (1, .int a1), (2, .int a2)] [.int (bI y0)] := by
    intro y0 H locs hw hS hF
    obtain ⟨q11, hq12, hF⟩ := bnd_e hF
    refine t_goT (fun ls h => t_runS (As := [.int (bI y0)]) [] h C ml_X11_69 (k_X11_requireState l D cA s0 z b ν _ hG y0 q11 hq12) ⟨rfl, rfl, nb rfl, nb rfl⟩ rfl ⟨rfl, hw⟩ (nb rfl) ⟨nb rfl, nb rfl⟩ dX11_setRate_39) hF hS (xA_le hS) C hX (fun _ h => h) (nb rfl) (nb rfl) (fun q13 hF H locs hw hS => ?_)
    refine x_widen (k := 3) (n := 18) (nb rfl) (nb rfl) ?_
    have hw : WC D cA s0 z b ν H := hw
    refine x_aload_n C dX11_setRate_42 rfl ?_
    refine x_get (.ref (b + 662)) C fl_X11_43 (C_PD hw) rfl dX11_setRate_43 ?_
    refine x_aload_n C dX11_setRate_46 rfl ?_
    refine x_get (.ref (b + 7)) C fl_X11_24 (C_PD hw) rfl dX11_setRate_47 ?_
    obtain ⟨q14, hq15, hF⟩ := bnd_e hF
    refine x_goM (fun ls h => x_runV (As := [.ref (b + 7)]) [] h C ml_X11_84 (k_X3_save l D cA s0 z b ν _ hG 7 q14 hq15) ⟨rfl, rfl, nb rfl, nb rfl⟩ rfl (C_His hw) rfl ⟨rfl, hw⟩ (nb rfl) ⟨nb rfl, nb rfl⟩ dX11_setRate_50) hS (xA_le hS) (fun H locs hw hz hk hS => ?_)
    have hw : WC D cA s0 z b q14 H := hw
    refine x_aload_n C dX11_setRate_53 rfl ?_
    refine x_get (.ref (b + 7)) C fl_X11_24 (C_PD hw) rfl dX11_setRate_54 ?_
    obtain ⟨q16, hq17, hF⟩ := bnd_e hF
    refine x_goM (fun ls h => x_runV (As := []) [] h C ml_X11_387 (k_X5_newVersion l D cA s0 z b q14 _ hG 7 q16 hq17) ⟨rfl, rfl, nb rfl, nb rfl⟩ rfl (C_Led led7 hw) rfl ⟨rfl, hw⟩ (nb rfl) ⟨nb rfl, nb rfl⟩ dX11_setRate_57) hS (xA_le hS) (fun H locs hw hz hk hS => ?_)
    have hw : WC D cA s0 z b q16.2 H := hw
    obtain ⟨h18, hF⟩ := asr_e hF
    refine x_get (.ref (b + (q16.1 + 2))) C fl_X11_161 (C_Tar h18 hw) rfl dX11_setRate_60 ?_
    refine x_iload_n C dX11_setRate_63 rfl ?_
    refine x_iload_n C dX11_setRate_64 rfl ?_
    obtain ⟨h19, hF⟩ := asr_e hF
    obtain ⟨hn20, hl21⟩ := vpn h19 (by decide)
    refine y_iast (q16.1 + 2) C hw (la_bandRate h18) (fun nm f => S_bandRate h18) hn20 hl21 (by decide) dX11_setRate_65 hS (xA_in (la_bandRate h18)) (fun H locs hw hS => ?_)
    obtain ⟨μ22, hm23, hF⟩ := bnd_e hF
    have hw : WC D cA s0 z b μ22 H := rv_m (W := fun m => WC D cA s0 z b m _) hm23 hw
    refine x_aload_n C dX11_setRate_66 rfl ?_
    refine x_get (.ref (b + 7)) C fl_X11_24 (C_PD hw) rfl dX11_setRate_67 ?_
    refine x_get (.int (μ22.1 7 9)) C fl_X11_112 (C_Led led7 hw) rfl dX11_setRate_70 ?_
    exact t_iret C rfl dX11_setRate_73  (rt_o hF) rfl hw hS (nb rfl) (nb rfl)
  refine x_iload_n C dX11_setRate_0 rfl ?_
  refine x_aload_n C dX11_setRate_1 rfl ?_
  refine x_get (.ref (b + 7)) C fl_X11_24 (C_PD hw) rfl dX11_setRate_2 ?_
  obtain ⟨q1, hq2, hF⟩ := bnd_e hF
  refine x_goR (fun ls h => x_runV (As := []) [.int a1] h C ml_X11_118 (k_X5_present l D cA s0 z b ν hG 7 q1 hq2) ⟨rfl, rfl, nb rfl, nb rfl⟩ rfl (C_Led led7 hw) rfl hw (nb rfl) ⟨Nat.zero_le _, Nat.zero_le _⟩ dX11_setRate_5) ?_
  obtain ⟨h3, hF⟩ := asr_e hF
  refine x_get (.int (ν.1 q1 4)) C fl_X11_122 (C_Tar h3 hw) rfl dX11_setRate_8 ?_
  obtain ⟨q4, hq5, hF⟩ := bnd_e hF
  refine t_goT (fun ls h => t_runS (As := [.int a1, .int (ν.1 q1 4)]) [] h C ml_X11_153 (k_X11_requireIndex l D cA s0 z b ν _ hG a1 (ν.1 q1 4) q4 hq5) ⟨rfl, rfl, nb rfl, nb rfl⟩ rfl ⟨rfl, hw⟩ (nb rfl) ⟨nb rfl, nb rfl⟩ dX11_setRate_11) hF hS (xA_le hS) C hX (fun _ h => h) (nb rfl) (nb rfl) (fun q6 hF H locs hw hS => ?_)
  refine x_widen (k := 1) (n := 6) (nb rfl) (nb rfl) ?_
  have hw : WC D cA s0 z b ν H := hw
  refine x_iload_n C dX11_setRate_14 rfl ?_
  refine x_iconst (0 : Int32) C dX11_setRate_15 rfl ?_
  refine x_sipush (999 : Int32) C dX11_setRate_16 rfl ?_
  obtain ⟨q7, hq8, hF⟩ := bnd_e hF
  refine t_goT (fun ls h => t_runS (As := [.int a2, .int (0 : Int32), .int (999 : Int32)]) [] h C ml_X11_76 (k_X11_requireRange l D cA s0 z b ν _ hG a2 (0 : Int32) (999 : Int32) q7 hq8) ⟨rfl, rfl, nb rfl, nb rfl⟩ rfl ⟨rfl, hw⟩ (nb rfl) ⟨nb rfl, nb rfl⟩ dX11_setRate_19) hF hS (xA_le hS) C hX (fun _ h => h) (nb rfl) (nb rfl) (fun q9 hF H locs hw hS => ?_)
  refine x_widen (k := 2) (n := 12) (nb rfl) (nb rfl) ?_
  have hw : WC D cA s0 z b ν H := hw
  refine x_aload_n C dX11_setRate_22 rfl ?_
  refine x_get (.ref (b + 7)) C fl_X11_24 (C_PD hw) rfl dX11_setRate_23 ?_
  refine x_get (.int (ν.1 7 9)) C fl_X11_112 (C_Led led7 hw) rfl dX11_setRate_26 ?_
  refine x_bipush (20 : Int32) C dX11_setRate_29 rfl ?_
  refine x_icmp_ge 38 C dX11_setRate_31 (by decide) (fun c10 => ?_) (fun c10 => ?_)
  · have hF := ite_t hF c10
    refine x_iconst (0 : Int32) C dX11_setRate_38 rfl ?_
    exact h_J39 false _ _ hw hS hF
  · have hF := ite_f hF c10
    refine x_iconst (1 : Int32) C dX11_setRate_34 rfl ?_
    refine x_goto 39 C dX11_setRate_35 (by decide) ?_
    exact h_J39 true _ _ hw hS hF
