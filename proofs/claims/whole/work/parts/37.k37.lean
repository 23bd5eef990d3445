noncomputable def g_X11_overdue_L12 (ν : Mm) (a1 : Int32) : Nat → Int32 → Int32 → Option (Thr Int32)
  | 0, _, _ => none
  | n + 1, x2, x3 => (if (ν.1 7 7) ≤ x3 then some (.ok x2) else asr (vp_in x3 60) ((if ((ν.1 7 10) - (ν.1 (7 + (54 + 2 * (cl x3))) 2)) < a1 then (g_X11_overdue_L12 ν a1 n x2 (x3 + (1 : Int32))) else bnd (g_X0_openAmount ν x3) (fun q9 => (if q9 ≤ 0 then (g_X11_overdue_L12 ν a1 n x2 (x3 + (1 : Int32))) else (g_X11_overdue_L12 ν a1 n (x2 + (1 : Int32)) (x3 + (1 : Int32))))))))
noncomputable def g_X11_overdue (ν : Mm) (a1 : Int32) : Option (Thr Int32) := bnd (g_X11_requireRange ν a1 (0 : Int32) (3599 : Int32)) (fun q1 => bnx q1 (fun q3 => (g_X11_overdue_L12 ν a1 10000 (0 : Int32) (0 : Int32))))
set_option maxRecDepth 20000 in
set_option maxHeartbeats 4000000 in
theorem k_X11_overdue (l : Launch) (D : va_G) (cA : Nat → ClassId) (s0 : State) (z : Nat) (b : Nat) (ν : Mm) (sz : Nat) (hG : xG l D cA s0) (a1 : Int32) (r : Thr Int32) (hF : g_X11_overdue ν a1 = some r) : vx_Met l yX11_overdue (wsG yX11_overdue cX11_overdue 4 (some (FieldType.int))) { frames := 9, cells := 1, slots := 6, locals := 175 } (xP D cA s0 [.ref (b + 0), .int a1] (fun H => H.size = sz ∧ WC D cA s0 z b ν H)) (xQt (fun q => (some (.int q))) (fun _ H => WC D cA s0 z b ν H) (xA b 2564 sz) r) (xXt (fun H => WC D cA s0 z b ν H) (xA b 2564 sz) r) 1 6 (xA b 2564 sz) := by
  refine t_start (z := z) (b := b) (ν := ν) (s0 := s0) (own := RX11) [(0, .ref (b + 0)), (1, .int a1)] rfl rfl (by decide) (nb rfl) ?_
  intro p e s m args below meth c C hX hw
  obtain ⟨hsz, hw⟩ := hw
  subst hsz
  have hS : va_S (xA b 2564 s.heap.size) s.heap s.heap [] := va_S.rf
  have h_L12 : ∀ (n : Nat) (x2 : Int32) (x3 : Int32) (H : Heap) (locs : List Loc) (hw : WC D cA s0 z b ν H) (hS : va_S (xA b 2564 s.heap.size) s.heap H locs), g_X11_overdue_L12 ν a1 n x2 x3 = some r → xW p l e { frames := 9, cells := 1, slots := 6, locals := 175 } s m args below meth c 4 (vx_MQ below (xQt (fun q => (some (.int q))) (fun _ H => WC D cA s0 z b ν H) (xA b 2564 s.heap.size) r) (xXt (fun H => WC D cA s0 z b ν H) (xA b 2564 s.heap.size) r) args s 1 6 (xA b 2564 s.heap.size)) H locs 1 6 12 [(0, .ref (b + 0)), (1, .int a1), (2, .int x2), (3, .int x3)] [] := by
    intro n
    induction n with
    | zero =>
      intro x2 x3 H locs hw hS hF
      exact no_some hF
    | succ n ih =>
      intro x2 x3 H locs hw hS hF
      have ih12 := ih
      refine x_iload_n C dX11_overdue_12 rfl ?_
      refine x_aload_n C dX11_overdue_13 rfl ?_
      refine x_get (.ref (b + 7)) C fl_X11_24 (C_PD hw) rfl dX11_overdue_14 ?_
      refine x_get (.int (ν.1 7 7)) C fl_X11_106 (C_Led led7 hw) rfl dX11_overdue_17 ?_
      refine x_icmp_ge 67 C dX11_overdue_20 (by decide) (fun c4 => ?_) (fun c4 => ?_)
      · have hF := ite_t hF c4
        refine x_iload_n C dX11_overdue_67 rfl ?_
        exact t_iret C rfl dX11_overdue_68  (rt_o hF) rfl hw hS (nb rfl) (nb rfl)
      · have hF := ite_f hF c4
        refine x_aload_n C dX11_overdue_23 rfl ?_
        refine x_get (.ref (b + 7)) C fl_X11_24 (C_PD hw) rfl dX11_overdue_24 ?_
        refine x_get (.int (ν.1 7 10)) C fl_X11_115 (C_Led led7 hw) rfl dX11_overdue_27 ?_
        refine x_aload_n C dX11_overdue_30 rfl ?_
        refine x_get (.ref (b + 7)) C fl_X11_24 (C_PD hw) rfl dX11_overdue_31 ?_
        refine x_get (.ref (b + (7 + 3))) C fl_X11_260 (C_Led led7 hw) rfl dX11_overdue_34 ?_
        refine x_iload_n C dX11_overdue_37 rfl ?_
        obtain ⟨h5, hF⟩ := asr_e hF
        obtain ⟨hn6, hl7⟩ := vpn h5 (by decide)
        refine x_aald 5 C (C_invoices led7 hw) rfl hn6 hl7 (by decide) rfl dX11_overdue_38 ?_
        refine x_get (.int (ν.1 (7 + (54 + 2 * (cl x3))) 2)) C fl_X11_269 (C_Inv (mk_Inv led7 hl7) hw) rfl dX11_overdue_39 ?_
        refine x_isub C dX11_overdue_42 ?_
        refine x_iload_n C dX11_overdue_43 rfl ?_
        refine x_icmp_lt 61 C dX11_overdue_44 (by decide) (fun c8 => ?_) (fun c8 => ?_)
        · have hF := ite_t hF c8
          refine x_iinc (x3 + (1 : Int32)) [(3, .int (x3 + (1 : Int32))), (0, .ref (b + 0)), (1, .int a1), (2, .int x2)] C dX11_overdue_61 rfl rfl (by decide) rfl ?_
          refine x_goto 12 C dX11_overdue_64 (by decide) ?_
          refine x_sub [(0, .ref (b + 0)), (1, .int a1), (2, .int x2), (3, .int (x3 + (1 : Int32)))] [1, 2, 3, 0] rfl ?_
          exact ih12 x2 (x3 + (1 : Int32)) _ _ hw hS hF
        · have hF := ite_f hF c8
          refine x_aload_n C dX11_overdue_47 rfl ?_
          refine x_get (.ref (b + 2562)) C fl_X11_52 (C_PD hw) rfl dX11_overdue_48 ?_
          refine x_iload_n C dX11_overdue_51 rfl ?_
          obtain ⟨q9, hq10, hF⟩ := bnd_e hF
          refine x_goR (fun ls h => x_runV (As := [.int x3]) [] h C ml_X11_288 (k_X0_openAmount l D cA s0 z b ν hG x3 q9 hq10) ⟨rfl, rfl, nb rfl, nb rfl⟩ rfl (C_Acc hw) rfl hw (nb rfl) ⟨nb rfl, nb rfl⟩ dX11_overdue_52) ?_
          refine x_if_le 61 C dX11_overdue_55 (by decide) (fun c11 => ?_) (fun c11 => ?_)
          · have hF := ite_t hF c11
            refine x_iinc (x3 + (1 : Int32)) [(3, .int (x3 + (1 : Int32))), (0, .ref (b + 0)), (1, .int a1), (2, .int x2)] C dX11_overdue_61 rfl rfl (by decide) rfl ?_
            refine x_goto 12 C dX11_overdue_64 (by decide) ?_
            refine x_sub [(0, .ref (b + 0)), (1, .int a1), (2, .int x2), (3, .int (x3 + (1 : Int32)))] [1, 2, 3, 0] rfl ?_
            exact ih12 x2 (x3 + (1 : Int32)) _ _ hw hS hF
          · have hF := ite_f hF c11
            refine x_iinc (x2 + (1 : Int32)) [(2, .int (x2 + (1 : Int32))), (0, .ref (b + 0)), (1, .int a1), (3, .int x3)] C dX11_overdue_58 rfl rfl (by decide) rfl ?_
            refine x_iinc (x3 + (1 : Int32)) [(3, .int (x3 + (1 : Int32))), (2, .int (x2 + (1 : Int32))), (0, .ref (b + 0)), (1, .int a1)] C dX11_overdue_61 rfl rfl (by decide) rfl ?_
            refine x_goto 12 C dX11_overdue_64 (by decide) ?_
            refine x_sub [(0, .ref (b + 0)), (1, .int a1), (2, .int (x2 + (1 : Int32))), (3, .int (x3 + (1 : Int32)))] [2, 3, 1, 0] rfl ?_
            exact ih12 (x2 + (1 : Int32)) (x3 + (1 : Int32)) _ _ hw hS hF
  refine x_iload_n C dX11_overdue_0 rfl ?_
  refine x_iconst (0 : Int32) C dX11_overdue_1 rfl ?_
  refine x_sipush (3599 : Int32) C dX11_overdue_2 rfl ?_
  obtain ⟨q1, hq2, hF⟩ := bnd_e hF
  refine t_goT (fun ls h => t_runS (As := [.int a1, .int (0 : Int32), .int (3599 : Int32)]) [] h C ml_X11_76 (k_X11_requireRange l D cA s0 z b ν _ hG a1 (0 : Int32) (3599 : Int32) q1 hq2) ⟨rfl, rfl, nb rfl, nb rfl⟩ rfl ⟨rfl, hw⟩ (nb rfl) ⟨nb rfl, nb rfl⟩ dX11_overdue_5) hF hS (xA_le hS) C hX (fun _ h => h) (nb rfl) (nb rfl) (fun q3 hF H locs hw hS => ?_)
  refine x_widen (k := 1) (n := 6) (nb rfl) (nb rfl) ?_
  have hw : WC D cA s0 z b ν H := hw
  refine x_iconst (0 : Int32) C dX11_overdue_8 rfl ?_
  refine x_istore_n [(2, .int (0 : Int32)), (0, .ref (b + 0)), (1, .int a1)] C dX11_overdue_9 rfl (by decide) rfl ?_
  refine x_iconst (0 : Int32) C dX11_overdue_10 rfl ?_
  refine x_istore_n [(3, .int (0 : Int32)), (2, .int (0 : Int32)), (0, .ref (b + 0)), (1, .int a1)] C dX11_overdue_11 rfl (by decide) rfl ?_
  refine x_sub [(0, .ref (b + 0)), (1, .int a1), (2, .int (0 : Int32)), (3, .int (0 : Int32))] [2, 3, 1, 0] rfl ?_
  exact h_L12 10000 (0 : Int32) (0 : Int32) _ _ hw hS hF
noncomputable def g_X11_revenue_L16 (ν : Mm) (a1 : Int32) (a2 : Int32) : Nat → Int64 → Int32 → Option (Thr Int64)
  | 0, _, _ => none
  | n + 1, x3, x5 => (if (ν.1 7 7) ≤ x5 then some (.ok x3) else asr (vp_in x5 60) (bnd (g_X4_stands ν (7 + (54 + 2 * (cl x5))) a2) (fun q11 => (if q11 = true then asr (vp_in (ν.1 (7 + (54 + 2 * (cl x5))) 1) 40) (bnd (g_X2_year ν (7 + (14 + (cl (ν.1 (7 + (54 + 2 * (cl x5))) 1))))) (fun q17 => (if q17 = a1 then asr (vp_in a2 4) ((g_X11_revenue_L16 ν a1 a2 n (x3 + ((ν.1 ((7 + (54 + 2 * (cl x5))) + 1) (cl a2)).toInt64)) (x5 + (1 : Int32)))) else (g_X11_revenue_L16 ν a1 a2 n x3 (x5 + (1 : Int32)))))) else (g_X11_revenue_L16 ν a1 a2 n x3 (x5 + (1 : Int32)))))))
noncomputable def g_X11_revenue (ν : Mm) (a1 : Int32) (a2 : Int32) : Option (Thr Int64) := bnd (g_X11_requireRange ν a1 (0 : Int32) (9 : Int32)) (fun q1 => bnx q1 (fun q3 => bnd (g_X11_requireLine ν a2) (fun q4 => bnx q4 (fun q6 => (g_X11_revenue_L16 ν a1 a2 10000 (0 : Int64) (0 : Int32))))))
set_option maxRecDepth 20000 in
set_option maxHeartbeats 4000000 in
theorem k_X11_revenue (l : Launch) (D : va_G) (cA : Nat → ClassId) (s0 : State) (z : Nat) (b : Nat) (ν : Mm) (sz : Nat) (hG : xG l D cA s0) (a1 : Int32) (a2 : Int32) (r : Thr Int64) (hF : g_X11_revenue ν a1 a2 = some r) : vx_Met l yX11_revenue (wsG yX11_revenue cX11_revenue 7 (some (FieldType.long))) { frames := 10, cells := 2, slots := 12, locals := 195 } (xP D cA s0 [.ref (b + 0), .int a1, .int a2] (fun H => H.size = sz ∧ WC D cA s0 z b ν H)) (xQt (fun q => (some (.long q))) (fun _ H => WC D cA s0 z b ν H) (xA b 2564 sz) r) (xXt (fun H => WC D cA s0 z b ν H) (xA b 2564 sz) r) 2 12 (xA b 2564 sz) := by
  refine t_start (z := z) (b := b) (ν := ν) (s0 := s0) (own := RX11) [(0, .ref (b + 0)), (1, .int a1), (2, .int a2)] rfl rfl (by decide) (nb rfl) ?_
  intro p e s m args below meth c C hX hw
  obtain ⟨hsz, hw⟩ := hw
  subst hsz
  have hS : va_S (xA b 2564 s.heap.size) s.heap s.heap [] := va_S.rf
  have h_L16 : ∀ (n : Nat) (x3 : Int64) (x5 : Int32) (H : Heap) (locs : List Loc) (hw : WC D cA s0 z b ν H) (hS : va_S (xA b 2564 s.heap.size) s.heap H locs), g_X11_revenue_L16 ν a1 a2 n x3 x5 = some r → xW p l e { frames := 10, cells := 2, slots := 12, locals := 195 } s m args below meth c 7 (vx_MQ below (xQt (fun q => (some (.long q))) (fun _ H => WC D cA s0 z b ν H) (xA b 2564 s.heap.size) r) (xXt (fun H => WC D cA s0 z b ν H) (xA b 2564 s.heap.size) r) args s 2 12 (xA b 2564 s.heap.size)) H locs 2 12 16 [(0, .ref (b + 0)), (1, .int a1), (2, .int a2), (3, .long x3), (5, .int x5)] [] := by
    intro n
    induction n with
    | zero =>
      intro x3 x5 H locs hw hS hF
      exact no_some hF
    | succ n ih =>
      intro x3 x5 H locs hw hS hF
      have ih16 := ih
      refine x_iload C dX11_revenue_16 rfl ?_
      refine x_aload_n C dX11_revenue_18 rfl ?_
      refine x_get (.ref (b + 7)) C fl_X11_24 (C_PD hw) rfl dX11_revenue_19 ?_
      refine x_get (.int (ν.1 7 7)) C fl_X11_106 (C_Led led7 hw) rfl dX11_revenue_22 ?_
      refine x_icmp_ge 86 C dX11_revenue_25 (by decide) (fun c7 => ?_) (fun c7 => ?_)
      · have hF := ite_t hF c7
        refine x_lload_n C dX11_revenue_86 rfl ?_
        exact t_lret C rfl dX11_revenue_87  (rt_o hF) rfl hw hS (nb rfl) (nb rfl)
      · have hF := ite_f hF c7
        refine x_aload_n C dX11_revenue_28 rfl ?_
        refine x_get (.ref (b + 7)) C fl_X11_24 (C_PD hw) rfl dX11_revenue_29 ?_
        refine x_get (.ref (b + (7 + 3))) C fl_X11_260 (C_Led led7 hw) rfl dX11_revenue_32 ?_
        refine x_iload C dX11_revenue_35 rfl ?_
        obtain ⟨h8, hF⟩ := asr_e hF
        obtain ⟨hn9, hl10⟩ := vpn h8 (by decide)
        refine x_aald 5 C (C_invoices led7 hw) rfl hn9 hl10 (by decide) rfl dX11_revenue_37 ?_
        refine x_astore [(6, .ref (b + (7 + (54 + 2 * (cl x5))))), (0, .ref (b + 0)), (1, .int a1), (2, .int a2), (3, .long x3), (5, .int x5)] C dX11_revenue_38 (by decide) rfl ?_
        refine x_aload C dX11_revenue_40 rfl ?_
        refine x_iload_n C dX11_revenue_42 rfl ?_
        obtain ⟨q11, hq12, hF⟩ := bnd_e hF
        refine x_goR (fun ls h => x_runV (As := [.int a2]) [] h C ml_X11_299 (k_X4_stands l D cA s0 z b ν hG (7 + (54 + 2 * (cl x5))) a2 q11 hq12) ⟨rfl, rfl, nb rfl, nb rfl⟩ rfl (C_Inv (mk_Inv led7 hl10) hw) rfl hw (nb rfl) ⟨nb rfl, nb rfl⟩ dX11_revenue_43) ?_
        refine x_ifB_eq 80 C dX11_revenue_46 (by decide) (fun c13 => ?_) (fun c13 => ?_)
        · have hF := ite_f hF (nbt c13)
          refine x_iinc (x5 + (1 : Int32)) [(5, .int (x5 + (1 : Int32))), (6, .ref (b + (7 + (54 + 2 * (cl x5))))), (0, .ref (b + 0)), (1, .int a1), (2, .int a2), (3, .long x3)] C dX11_revenue_80 rfl rfl (by decide) rfl ?_
          refine x_goto 16 C dX11_revenue_83 (by decide) ?_
          refine x_sub [(0, .ref (b + 0)), (1, .int a1), (2, .int a2), (3, .long x3), (5, .int (x5 + (1 : Int32)))] [2, 3, 4, 5, 0] rfl ?_
          exact ih16 x3 (x5 + (1 : Int32)) _ _ hw hS hF
        · have hF := ite_t hF c13
          refine x_aload_n C dX11_revenue_49 rfl ?_
          refine x_get (.ref (b + 7)) C fl_X11_24 (C_PD hw) rfl dX11_revenue_50 ?_
          refine x_get (.ref (b + (7 + 2))) C fl_X11_202 (C_Led led7 hw) rfl dX11_revenue_53 ?_
          refine x_aload C dX11_revenue_56 rfl ?_
          refine x_get (.int (ν.1 (7 + (54 + 2 * (cl x5))) 1)) C fl_X11_264 (C_Inv (mk_Inv led7 hl10) hw) rfl dX11_revenue_58 ?_
          obtain ⟨h14, hF⟩ := asr_e hF
          obtain ⟨hn15, hl16⟩ := vpn h14 (by decide)
          refine x_aald 4 C (C_calls led7 hw) rfl hn15 hl16 (by decide) rfl dX11_revenue_61 ?_
          obtain ⟨q17, hq18, hF⟩ := bnd_e hF
          refine x_goR (fun ls h => x_runV (As := []) [] h C ml_X11_335 (k_X2_year l D cA s0 z b ν hG (7 + (14 + (cl (ν.1 (7 + (54 + 2 * (cl x5))) 1)))) q17 hq18) ⟨rfl, rfl, nb rfl, nb rfl⟩ rfl (C_Cal (mk_Cal led7 hl16) hw) rfl hw (nb rfl) ⟨nb rfl, nb rfl⟩ dX11_revenue_62) ?_
          refine x_iload_n C dX11_revenue_65 rfl ?_
          refine x_icmp_ne 80 C dX11_revenue_66 (by decide) (fun c19 => ?_) (fun c19 => ?_)
          · have hF := ite_f hF c19
            refine x_iinc (x5 + (1 : Int32)) [(5, .int (x5 + (1 : Int32))), (6, .ref (b + (7 + (54 + 2 * (cl x5))))), (0, .ref (b + 0)), (1, .int a1), (2, .int a2), (3, .long x3)] C dX11_revenue_80 rfl rfl (by decide) rfl ?_
            refine x_goto 16 C dX11_revenue_83 (by decide) ?_
            refine x_sub [(0, .ref (b + 0)), (1, .int a1), (2, .int a2), (3, .long x3), (5, .int (x5 + (1 : Int32)))] [2, 3, 4, 5, 0] rfl ?_
            exact ih16 x3 (x5 + (1 : Int32)) _ _ hw hS hF
          · have hF := ite_t hF c19
            refine x_lload_n C dX11_revenue_69 rfl ?_
            refine x_aload C dX11_revenue_70 rfl ?_
            refine x_get (.ref (b + ((7 + (54 + 2 * (cl x5))) + 1))) C fl_X11_282 (C_Inv (mk_Inv led7 hl10) hw) rfl dX11_revenue_72 ?_
            refine x_iload_n C dX11_revenue_75 rfl ?_
            obtain ⟨h20, hF⟩ := asr_e hF
            obtain ⟨hn21, hl22⟩ := vpn h20 (by decide)
            refine x_ialdN C (C_amounts (mk_Inv led7 hl10) hw) hn21 hl22 (by decide) dX11_revenue_76 ?_
            refine x_i2l C dX11_revenue_77 ?_
            refine x_ladd C dX11_revenue_78 ?_
            refine x_lstore_n [(3, .long (x3 + ((ν.1 ((7 + (54 + 2 * (cl x5))) + 1) (cl a2)).toInt64))), (6, .ref (b + (7 + (54 + 2 * (cl x5))))), (0, .ref (b + 0)), (1, .int a1), (2, .int a2), (5, .int x5)] C dX11_revenue_79 rfl (by decide) rfl ?_
            refine x_iinc (x5 + (1 : Int32)) [(5, .int (x5 + (1 : Int32))), (3, .long (x3 + ((ν.1 ((7 + (54 + 2 * (cl x5))) + 1) (cl a2)).toInt64))), (6, .ref (b + (7 + (54 + 2 * (cl x5))))), (0, .ref (b + 0)), (1, .int a1), (2, .int a2)] C dX11_revenue_80 rfl rfl (by decide) rfl ?_
            refine x_goto 16 C dX11_revenue_83 (by decide) ?_
            refine x_sub [(0, .ref (b + 0)), (1, .int a1), (2, .int a2), (3, .long (x3 + ((ν.1 ((7 + (54 + 2 * (cl x5))) + 1) (cl a2)).toInt64))), (5, .int (x5 + (1 : Int32)))] [3, 4, 5, 1, 0] rfl ?_
            exact ih16 (x3 + ((ν.1 ((7 + (54 + 2 * (cl x5))) + 1) (cl a2)).toInt64)) (x5 + (1 : Int32)) _ _ hw hS hF
  refine x_iload_n C dX11_revenue_0 rfl ?_
  refine x_iconst (0 : Int32) C dX11_revenue_1 rfl ?_
  refine x_bipush (9 : Int32) C dX11_revenue_2 rfl ?_
  obtain ⟨q1, hq2, hF⟩ := bnd_e hF
  refine t_goT (fun ls h => t_runS (As := [.int a1, .int (0 : Int32), .int (9 : Int32)]) [] h C ml_X11_76 (k_X11_requireRange l D cA s0 z b ν _ hG a1 (0 : Int32) (9 : Int32) q1 hq2) ⟨rfl, rfl, nb rfl, nb rfl⟩ rfl ⟨rfl, hw⟩ (nb rfl) ⟨nb rfl, nb rfl⟩ dX11_revenue_4) hF hS (xA_le hS) C hX (fun _ h => h) (nb rfl) (nb rfl) (fun q3 hF H locs hw hS => ?_)
  refine x_widen (k := 1) (n := 6) (nb rfl) (nb rfl) ?_
  have hw : WC D cA s0 z b ν H := hw
  refine x_iload_n C dX11_revenue_7 rfl ?_
  obtain ⟨q4, hq5, hF⟩ := bnd_e hF
  refine t_goT (fun ls h => t_runS (As := [.int a2]) [] h C ml_X11_247 (k_X11_requireLine l D cA s0 z b ν _ hG a2 q4 hq5) ⟨rfl, rfl, nb rfl, nb rfl⟩ rfl ⟨rfl, hw⟩ (nb rfl) ⟨nb rfl, nb rfl⟩ dX11_revenue_8) hF hS (xA_le hS) C hX (fun _ h => h) (nb rfl) (nb rfl) (fun q6 hF H locs hw hS => ?_)
  refine x_widen (k := 2) (n := 12) (nb rfl) (nb rfl) ?_
  have hw : WC D cA s0 z b ν H := hw
  refine x_lconst (0 : Int64) C dX11_revenue_11 rfl ?_
  refine x_lstore_n [(3, .long (0 : Int64)), (0, .ref (b + 0)), (1, .int a1), (2, .int a2)] C dX11_revenue_12 rfl (by decide) rfl ?_
  refine x_iconst (0 : Int32) C dX11_revenue_13 rfl ?_
  refine x_istore [(5, .int (0 : Int32)), (3, .long (0 : Int64)), (0, .ref (b + 0)), (1, .int a1), (2, .int a2)] C dX11_revenue_14 (by decide) rfl ?_
  refine x_sub [(0, .ref (b + 0)), (1, .int a1), (2, .int a2), (3, .long (0 : Int64)), (5, .int (0 : Int32))] [2, 3, 4, 1, 0] rfl ?_
  exact h_L16 10000 (0 : Int64) (0 : Int32) _ _ hw hS hF
noncomputable def g_X11_rebates_L17 (ν : Mm) (a1 : Int32) (a2 : Int32) : Nat → Int64 → Int32 → Option (Thr Int64)
  | 0, _, _ => none
  | n + 1, x3, x5 => (if (ν.1 7 6) ≤ x5 then some (.ok x3) else asr (vp_in x5 40) ((if (ν.1 (7 + (14 + (cl x5))) 0) = a1 then bnd (g_X2_year ν (7 + (14 + (cl x5)))) (fun q12 => (if q12 = a2 then bnd (g_X5_present ν 7) (fun q15 => asr (isTar q15) (bnd (g_X5_rankOf ν 7 x5) (fun q18 => bnd (g_X5_lineAtRank ν 7 q15 x5 (1 : Int32) q18) (fun q20 => (g_X11_rebates_L17 ν a1 a2 n (x3 + q20.toInt64) (x5 + (1 : Int32))))))) else (g_X11_rebates_L17 ν a1 a2 n x3 (x5 + (1 : Int32))))) else (g_X11_rebates_L17 ν a1 a2 n x3 (x5 + (1 : Int32))))))
noncomputable def g_X11_rebates (ν : Mm) (a1 : Int32) (a2 : Int32) : Option (Thr Int64) := bnd (g_X11_requireShip ν a1) (fun q1 => bnx q1 (fun q3 => bnd (g_X11_requireRange ν a2 (0 : Int32) (9 : Int32)) (fun q4 => bnx q4 (fun q6 => (g_X11_rebates_L17 ν a1 a2 10000 (0 : Int64) (0 : Int32))))))
set_option maxRecDepth 20000 in
set_option maxHeartbeats 4000000 in
theorem k_X11_rebates (l : Launch) (D : va_G) (cA : Nat → ClassId) (s0 : State) (z : Nat) (b : Nat) (ν : Mm) (sz : Nat) (hG : xG l D cA s0) (a1 : Int32) (a2 : Int32) (r : Thr Int64) (hF : g_X11_rebates ν a1 a2 = some r) : vx_Met l yX11_rebates (wsG yX11_rebates cX11_rebates 7 (some (FieldType.long))) { frames := 9, cells := 2, slots := 12, locals := 175 } (xP D cA s0 [.ref (b + 0), .int a1, .int a2] (fun H => H.size = sz ∧ WC D cA s0 z b ν H)) (xQt (fun q => (some (.long q))) (fun _ H => WC D cA s0 z b ν H) (xA b 2564 sz) r) (xXt (fun H => WC D cA s0 z b ν H) (xA b 2564 sz) r) 2 12 (xA b 2564 sz) := by
  refine t_start (z := z) (b := b) (ν := ν) (s0 := s0) (own := RX11) [(0, .ref (b + 0)), (1, .int a1), (2, .int a2)] rfl rfl (by decide) (nb rfl) ?_
  intro p e s m args below meth c C hX hw
  obtain ⟨hsz, hw⟩ := hw
  subst hsz
  have hS : va_S (xA b 2564 s.heap.size) s.heap s.heap [] := va_S.rf
  have h_L17 : ∀ (n : Nat) (x3 : Int64) (x5 : Int32) (H : Heap) (locs : List Loc) (hw : WC D cA s0 z b ν H) (hS : va_S (xA b 2564 s.heap.size) s.heap H locs), g_X11_rebates_L17 ν a1 a2 n x3 x5 = some r → xW p l e { frames := 9, cells := 2, slots := 12, locals := 175 } s m args below meth c 7 (vx_MQ below (xQt (fun q => (some (.long q))) (fun _ H => WC D cA s0 z b ν H) (xA b 2564 s.heap.size) r) (xXt (fun H => WC D cA s0 z b ν H) (xA b 2564 s.heap.size) r) args s 2 12 (xA b 2564 s.heap.size)) H locs 2 12 17 [(0, .ref (b + 0)), (1, .int a1), (2, .int a2), (3, .long x3), (5, .int x5)] [] := by
    intro n
    induction n with
    | zero =>
      intro x3 x5 H locs hw hS hF
      exact no_some hF
    | succ n ih =>
      intro x3 x5 H locs hw hS hF
      have ih17 := ih
      refine x_iload C dX11_rebates_17 rfl ?_
      refine x_aload_n C dX11_rebates_19 rfl ?_
      refine x_get (.ref (b + 7)) C fl_X11_24 (C_PD hw) rfl dX11_rebates_20 ?_
      refine x_get (.int (ν.1 7 6)) C fl_X11_103 (C_Led led7 hw) rfl dX11_rebates_23 ?_
      refine x_icmp_ge 95 C dX11_rebates_26 (by decide) (fun c7 => ?_) (fun c7 => ?_)
      · have hF := ite_t hF c7
        refine x_lload_n C dX11_rebates_95 rfl ?_
        exact t_lret C rfl dX11_rebates_96  (rt_o hF) rfl hw hS (nb rfl) (nb rfl)
      · have hF := ite_f hF c7
        refine x_aload_n C dX11_rebates_29 rfl ?_
        refine x_get (.ref (b + 7)) C fl_X11_24 (C_PD hw) rfl dX11_rebates_30 ?_
        refine x_get (.ref (b + (7 + 2))) C fl_X11_202 (C_Led led7 hw) rfl dX11_rebates_33 ?_
        refine x_iload C dX11_rebates_36 rfl ?_
        obtain ⟨h8, hF⟩ := asr_e hF
        obtain ⟨hn9, hl10⟩ := vpn h8 (by decide)
        refine x_aald 4 C (C_calls led7 hw) rfl hn9 hl10 (by decide) rfl dX11_rebates_38 ?_
        refine x_astore [(6, .ref (b + (7 + (14 + (cl x5))))), (0, .ref (b + 0)), (1, .int a1), (2, .int a2), (3, .long x3), (5, .int x5)] C dX11_rebates_39 (by decide) rfl ?_
        refine x_aload C dX11_rebates_41 rfl ?_
        refine x_get (.int (ν.1 (7 + (14 + (cl x5))) 0)) C fl_X11_206 (C_Cal (mk_Cal led7 hl10) hw) rfl dX11_rebates_43 ?_
        refine x_iload_n C dX11_rebates_46 rfl ?_
        refine x_icmp_ne 89 C dX11_rebates_47 (by decide) (fun c11 => ?_) (fun c11 => ?_)
        · have hF := ite_f hF c11
          refine x_iinc (x5 + (1 : Int32)) [(5, .int (x5 + (1 : Int32))), (6, .ref (b + (7 + (14 + (cl x5))))), (0, .ref (b + 0)), (1, .int a1), (2, .int a2), (3, .long x3)] C dX11_rebates_89 rfl rfl (by decide) rfl ?_
          refine x_goto 17 C dX11_rebates_92 (by decide) ?_
          refine x_sub [(0, .ref (b + 0)), (1, .int a1), (2, .int a2), (3, .long x3), (5, .int (x5 + (1 : Int32)))] [2, 3, 4, 5, 0] rfl ?_
          exact ih17 x3 (x5 + (1 : Int32)) _ _ hw hS hF
        · have hF := ite_t hF c11
          refine x_aload C dX11_rebates_50 rfl ?_
          obtain ⟨q12, hq13, hF⟩ := bnd_e hF
          refine x_goR (fun ls h => x_runV (As := []) [] h C ml_X11_335 (k_X2_year l D cA s0 z b ν hG (7 + (14 + (cl x5))) q12 hq13) ⟨rfl, rfl, nb rfl, nb rfl⟩ rfl (C_Cal (mk_Cal led7 hl10) hw) rfl hw (nb rfl) ⟨nb rfl, nb rfl⟩ dX11_rebates_52) ?_
          refine x_iload_n C dX11_rebates_55 rfl ?_
          refine x_icmp_ne 89 C dX11_rebates_56 (by decide) (fun c14 => ?_) (fun c14 => ?_)
          · have hF := ite_f hF c14
            refine x_iinc (x5 + (1 : Int32)) [(5, .int (x5 + (1 : Int32))), (6, .ref (b + (7 + (14 + (cl x5))))), (0, .ref (b + 0)), (1, .int a1), (2, .int a2), (3, .long x3)] C dX11_rebates_89 rfl rfl (by decide) rfl ?_
            refine x_goto 17 C dX11_rebates_92 (by decide) ?_
            refine x_sub [(0, .ref (b + 0)), (1, .int a1), (2, .int a2), (3, .long x3), (5, .int (x5 + (1 : Int32)))] [2, 3, 4, 5, 0] rfl ?_
            exact ih17 x3 (x5 + (1 : Int32)) _ _ hw hS hF
          · have hF := ite_t hF c14
            refine x_lload_n C dX11_rebates_59 rfl ?_
            refine x_aload_n C dX11_rebates_60 rfl ?_
            refine x_get (.ref (b + 7)) C fl_X11_24 (C_PD hw) rfl dX11_rebates_61 ?_
            refine x_iload C dX11_rebates_64 rfl ?_
            refine x_iconst (1 : Int32) C dX11_rebates_66 rfl ?_
            refine x_aload_n C dX11_rebates_67 rfl ?_
            refine x_get (.ref (b + 7)) C fl_X11_24 (C_PD hw) rfl dX11_rebates_68 ?_
            obtain ⟨q15, hq16, hF⟩ := bnd_e hF
            refine x_goR (fun ls h => x_runV (As := []) [.int (1 : Int32), .int x5, .ref (b + 7), .long x3] h C ml_X11_118 (k_X5_present l D cA s0 z b ν hG 7 q15 hq16) ⟨rfl, rfl, nb rfl, nb rfl⟩ rfl (C_Led led7 hw) rfl hw (nb rfl) ⟨nb rfl, nb rfl⟩ dX11_rebates_71) ?_
            obtain ⟨h17, hF⟩ := asr_e hF
            refine x_aload_n C dX11_rebates_74 rfl ?_
            refine x_get (.ref (b + 7)) C fl_X11_24 (C_PD hw) rfl dX11_rebates_75 ?_
            refine x_iload C dX11_rebates_78 rfl ?_
            obtain ⟨q18, hq19, hF⟩ := bnd_e hF
            refine x_goR (fun ls h => x_runV (As := [.int x5]) [.ref (b + q15), .int (1 : Int32), .int x5, .ref (b + 7), .long x3] h C ml_X11_223 (k_X5_rankOf l D cA s0 z b ν hG 7 x5 q18 hq19) ⟨rfl, rfl, nb rfl, nb rfl⟩ rfl (C_Led led7 hw) rfl hw (nb rfl) ⟨nb rfl, nb rfl⟩ dX11_rebates_80) ?_
            obtain ⟨q20, hq21, hF⟩ := bnd_e hF
            refine x_goR (fun ls h => x_runV (As := [.int x5, .int (1 : Int32), .ref (b + q15), .int q18]) [.long x3] h C ml_X11_250 (k_X5_lineAtRank l D cA s0 z b ν hG 7 q15 x5 (1 : Int32) q18 q20 hq21) ⟨rfl, rfl, nb rfl, nb rfl⟩ rfl (C_Led led7 hw) rfl hw (nb rfl) ⟨nb rfl, nb rfl⟩ dX11_rebates_83) ?_
            refine x_i2l C dX11_rebates_86 ?_
            refine x_ladd C dX11_rebates_87 ?_
            refine x_lstore_n [(3, .long (x3 + q20.toInt64)), (6, .ref (b + (7 + (14 + (cl x5))))), (0, .ref (b + 0)), (1, .int a1), (2, .int a2), (5, .int x5)] C dX11_rebates_88 rfl (by decide) rfl ?_
            refine x_iinc (x5 + (1 : Int32)) [(5, .int (x5 + (1 : Int32))), (3, .long (x3 + q20.toInt64)), (6, .ref (b + (7 + (14 + (cl x5))))), (0, .ref (b + 0)), (1, .int a1), (2, .int a2)] C dX11_rebates_89 rfl rfl (by decide) rfl ?_
            refine x_goto 17 C dX11_rebates_92 (by decide) ?_
            refine x_sub [(0, .ref (b + 0)), (1, .int a1), (2, .int a2), (3, .long (x3 + q20.toInt64)), (5, .int (x5 + (1 : Int32)))] [3, 4, 5, 1, 0] rfl ?_
            exact ih17 (x3 + q20.toInt64) (x5 + (1 : Int32)) _ _ hw hS hF
  refine x_aload_n C dX11_rebates_0 rfl ?_
  refine x_iload_n C dX11_rebates_1 rfl ?_
  obtain ⟨q1, hq2, hF⟩ := bnd_e hF
  refine t_goT (fun ls h => t_runV (As := [.int a1]) [] h C ml_X11_184 (k_X11_requireShip l D cA s0 z b ν _ hG a1 q1 hq2) ⟨rfl, rfl, nb rfl, nb rfl⟩ rfl (C_PD hw) rfl ⟨rfl, hw⟩ (nb rfl) ⟨nb rfl, nb rfl⟩ dX11_rebates_2) hF hS (xA_le hS) C hX (fun _ h => h) (nb rfl) (nb rfl) (fun q3 hF H locs hw hS => ?_)
  refine x_widen (k := 1) (n := 6) (nb rfl) (nb rfl) ?_
  have hw : WC D cA s0 z b ν H := hw
  refine x_iload_n C dX11_rebates_5 rfl ?_
  refine x_iconst (0 : Int32) C dX11_rebates_6 rfl ?_
  refine x_bipush (9 : Int32) C dX11_rebates_7 rfl ?_
  obtain ⟨q4, hq5, hF⟩ := bnd_e hF
  refine t_goT (fun ls h => t_runS (As := [.int a2, .int (0 : Int32), .int (9 : Int32)]) [] h C ml_X11_76 (k_X11_requireRange l D cA s0 z b ν _ hG a2 (0 : Int32) (9 : Int32) q4 hq5) ⟨rfl, rfl, nb rfl, nb rfl⟩ rfl ⟨rfl, hw⟩ (nb rfl) ⟨nb rfl, nb rfl⟩ dX11_rebates_9) hF hS (xA_le hS) C hX (fun _ h => h) (nb rfl) (nb rfl) (fun q6 hF H locs hw hS => ?_)
  refine x_widen (k := 2) (n := 12) (nb rfl) (nb rfl) ?_
  have hw : WC D cA s0 z b ν H := hw
  refine x_lconst (0 : Int64) C dX11_rebates_12 rfl ?_
  refine x_lstore_n [(3, .long (0 : Int64)), (0, .ref (b + 0)), (1, .int a1), (2, .int a2)] C dX11_rebates_13 rfl (by decide) rfl ?_
  refine x_iconst (0 : Int32) C dX11_rebates_14 rfl ?_
  refine x_istore [(5, .int (0 : Int32)), (3, .long (0 : Int64)), (0, .ref (b + 0)), (1, .int a1), (2, .int a2)] C dX11_rebates_15 (by decide) rfl ?_
  refine x_sub [(0, .ref (b + 0)), (1, .int a1), (2, .int a2), (3, .long (0 : Int64)), (5, .int (0 : Int32))] [2, 3, 4, 1, 0] rfl ?_
  exact h_L17 10000 (0 : Int64) (0 : Int32) _ _ hw hS hF
noncomputable def g_X11_requireStay (ν : Mm) (a1 : Int32) (a2 : Int32) (a3 : Int32) : Option (Thr Unit) := bnd (g_X11_requireRange ν a1 (0 : Int32) (3599 : Int32)) (fun q1 => bnx q1 (fun q3 => bnd (g_X11_requireRange ν a2 a1 ((a1 + (30 : Int32)) - (1 : Int32))) (fun q4 => bnx q4 (fun q6 => bnd (g_X11_requireRange ν a3 (0 : Int32) (999 : Int32)) (fun q7 => bnx q7 (fun q9 => some (.ok ())))))))
set_option maxRecDepth 20000 in
set_option maxHeartbeats 4000000 in
theorem k_X11_requireStay (l : Launch) (D : va_G) (cA : Nat → ClassId) (s0 : State) (z : Nat) (b : Nat) (ν : Mm) (sz : Nat) (hG : xG l D cA s0) (a1 : Int32) (a2 : Int32) (a3 : Int32) (r : Thr Unit) (hF : g_X11_requireStay ν a1 a2 a3 = some r) : vx_Met l yX11_requireStay (wsG yX11_requireStay cX11_requireStay 3 none) { frames := 9, cells := 3, slots := 18, locals := 175 } (xP D cA s0 [.int a1, .int a2, .int a3] (fun H => H.size = sz ∧ WC D cA s0 z b ν H)) (xQt (fun q => none) (fun _ H => WC D cA s0 z b ν H) (xA b 2564 sz) r) (xXt (fun H => WC D cA s0 z b ν H) (xA b 2564 sz) r) 3 18 (xA b 2564 sz) := by
  refine t_start (z := z) (b := b) (ν := ν) (s0 := s0) (own := RX11) [(0, .int a1), (1, .int a2), (2, .int a3)] rfl rfl (by decide) (nb rfl) ?_
  intro p e s m args below meth c C hX hw
  obtain ⟨hsz, hw⟩ := hw
  subst hsz
  have hS : va_S (xA b 2564 s.heap.size) s.heap s.heap [] := va_S.rf
  refine x_iload_n C dX11_requireStay_0 rfl ?_
  refine x_iconst (0 : Int32) C dX11_requireStay_1 rfl ?_
  refine x_sipush (3599 : Int32) C dX11_requireStay_2 rfl ?_
  obtain ⟨q1, hq2, hF⟩ := bnd_e hF
  refine t_goT (fun ls h => t_runS (As := [.int a1, .int (0 : Int32), .int (3599 : Int32)]) [] h C ml_X11_76 (k_X11_requireRange l D cA s0 z b ν _ hG a1 (0 : Int32) (3599 : Int32) q1 hq2) ⟨rfl, rfl, nb rfl, nb rfl⟩ rfl ⟨rfl, hw⟩ (nb rfl) ⟨nb rfl, nb rfl⟩ dX11_requireStay_5) hF hS (xA_le hS) C hX (fun _ h => h) (nb rfl) (nb rfl) (fun q3 hF H locs hw hS => ?_)
  refine x_widen (k := 1) (n := 6) (nb rfl) (nb rfl) ?_
  have hw : WC D cA s0 z b ν H := hw
  refine x_iload_n C dX11_requireStay_8 rfl ?_
  refine x_iload_n C dX11_requireStay_9 rfl ?_
  refine x_iload_n C dX11_requireStay_10 rfl ?_
  refine x_bipush (30 : Int32) C dX11_requireStay_11 rfl ?_
  refine x_iadd C dX11_requireStay_13 ?_
  refine x_iconst (1 : Int32) C dX11_requireStay_14 rfl ?_
  refine x_isub C dX11_requireStay_15 ?_
  obtain ⟨q4, hq5, hF⟩ := bnd_e hF
  refine t_goT (fun ls h => t_runS (As := [.int a2, .int a1, .int ((a1 + (30 : Int32)) - (1 : Int32))]) [] h C ml_X11_76 (k_X11_requireRange l D cA s0 z b ν _ hG a2 a1 ((a1 + (30 : Int32)) - (1 : Int32)) q4 hq5) ⟨rfl, rfl, nb rfl, nb rfl⟩ rfl ⟨rfl, hw⟩ (nb rfl) ⟨nb rfl, nb rfl⟩ dX11_requireStay_16) hF hS (xA_le hS) C hX (fun _ h => h) (nb rfl) (nb rfl) (fun q6 hF H locs hw hS => ?_)
  refine x_widen (k := 2) (n := 12) (nb rfl) (nb rfl) ?_
  have hw : WC D cA s0 z b ν H := hw
  refine x_iload_n C dX11_requireStay_19 rfl ?_
  refine x_iconst (0 : Int32) C dX11_requireStay_20 rfl ?_
  refine x_sipush (999 : Int32) C dX11_requireStay_21 rfl ?_
  obtain ⟨q7, hq8, hF⟩ := bnd_e hF
  refine t_goT (fun ls h => t_runS (As := [.int a3, .int (0 : Int32), .int (999 : Int32)]) [] h C ml_X11_76 (k_X11_requireRange l D cA s0 z b ν _ hG a3 (0 : Int32) (999 : Int32) q7 hq8) ⟨rfl, rfl, nb rfl, nb rfl⟩ rfl ⟨rfl, hw⟩ (nb rfl) ⟨nb rfl, nb rfl⟩ dX11_requireStay_24) hF hS (xA_le hS) C hX (fun _ h => h) (nb rfl) (nb rfl) (fun q9 hF H locs hw hS => ?_)
  refine x_widen (k := 3) (n := 18) (nb rfl) (nb rfl) ?_
  have hw : WC D cA s0 z b ν H := hw
  exact t_vret C rfl dX11_requireStay_27 (rt_o hF) rfl hw hS (nb rfl) (nb rfl)
noncomputable def g_X11_quote (ν : Mm) (a1 : Int32) (a2 : Int32) (a3 : Int32) (a4 : Int32) : Option (Thr Int32) := bnd (g_X11_requireShip ν a1) (fun q1 => bnx q1 (fun q3 => bnd (g_X11_requireStay ν a2 a3 a4) (fun q4 => bnx q4 (fun q6 => bnd (g_X5_present ν 7) (fun q7 => asr (isTar q7) (asr (vp_in a1 8) (bnd (g_X10_laySet ν q7 ((a3 - a2) + (1 : Int32))) (fun q16 => bnd (g_J6_bitCount_0f7a4 q16) (fun q18 => bnd (g_X5_callsBefore ν 7 a1 a2 (40 : Int32)) (fun q20 => bnd (g_X10_duesFor ν q7 (ν.1 (7 + (6 + (cl a1))) 1)) (fun q22 => bnd (g_X10_rebateFor ν q7 (ν.1 (7 + (6 + (cl a1))) 1) ((1 : Int32) + q20)) (fun q24 => bnd (g_X10_wasteFeeFor ν q7 a4) (fun q26 => some (.ok (((q22 + q24) + q26) + ((ν.1 q7 11) * q18))))))))))))))))
set_option maxRecDepth 20000 in
set_option maxHeartbeats 4000000 in
theorem k_X11_quote (l : Launch) (D : va_G) (cA : Nat → ClassId) (s0 : State) (z : Nat) (b : Nat) (ν : Mm) (sz : Nat) (hG : xG l D cA s0) (a1 : Int32) (a2 : Int32) (a3 : Int32) (a4 : Int32) (r : Thr Int32) (hF : g_X11_quote ν a1 a2 a3 a4 = some r) : vx_Met l yX11_quote (wsG yX11_quote cX11_quote 9 (some (FieldType.int))) { frames := 10, cells := 4, slots := 24, locals := 197 } (xP D cA s0 [.ref (b + 0), .int a1, .int a2, .int a3, .int a4] (fun H => H.size = sz ∧ WC D cA s0 z b ν H)) (xQt (fun q => (some (.int q))) (fun _ H => WC D cA s0 z b ν H) (xA b 2564 sz) r) (xXt (fun H => WC D cA s0 z b ν H) (xA b 2564 sz) r) 4 24 (xA b 2564 sz) := by
  refine t_start (z := z) (b := b) (ν := ν) (s0 := s0) (own := RX11) [(0, .ref (b + 0)), (1, .int a1), (2, .int a2), (3, .int a3), (4, .int a4)] rfl rfl (by decide) (nb rfl) ?_
  intro p e s m args below meth c C hX hw
  obtain ⟨hsz, hw⟩ := hw
  subst hsz
  have hS : va_S (xA b 2564 s.heap.size) s.heap s.heap [] := va_S.rf
  refine x_aload_n C dX11_quote_0 rfl ?_
  refine x_iload_n C dX11_quote_1 rfl ?_
  obtain ⟨q1, hq2, hF⟩ := bnd_e hF
  refine t_goT (fun ls h => t_runV (As := [.int a1]) [] h C ml_X11_184 (k_X11_requireShip l D cA s0 z b ν _ hG a1 q1 hq2) ⟨rfl, rfl, nb rfl, nb rfl⟩ rfl (C_PD hw) rfl ⟨rfl, hw⟩ (nb rfl) ⟨nb rfl, nb rfl⟩ dX11_quote_2) hF hS (xA_le hS) C hX (fun _ h => h) (nb rfl) (nb rfl) (fun q3 hF H locs hw hS => ?_)
  refine x_widen (k := 1) (n := 6) (nb rfl) (nb rfl) ?_
  have hw : WC D cA s0 z b ν H := hw
  refine x_iload_n C dX11_quote_5 rfl ?_
  refine x_iload_n C dX11_quote_6 rfl ?_
  refine x_iload C dX11_quote_7 rfl ?_
  obtain ⟨q4, hq5, hF⟩ := bnd_e hF
  refine t_goT (fun ls h => t_runS (As := [.int a2, .int a3, .int a4]) [] h C ml_X11_338 (k_X11_requireStay l D cA s0 z b ν _ hG a2 a3 a4 q4 hq5) ⟨rfl, rfl, nb rfl, nb rfl⟩ rfl ⟨rfl, hw⟩ (nb rfl) ⟨nb rfl, nb rfl⟩ dX11_quote_9) hF hS (xA_le hS) C hX (fun _ h => h) (nb rfl) (nb rfl) (fun q6 hF H locs hw hS => ?_)
  refine x_widen (k := 4) (n := 24) (nb rfl) (nb rfl) ?_
  have hw : WC D cA s0 z b ν H := hw
  refine x_aload_n C dX11_quote_12 rfl ?_
  refine x_get (.ref (b + 7)) C fl_X11_24 (C_PD hw) rfl dX11_quote_13 ?_
  obtain ⟨q7, hq8, hF⟩ := bnd_e hF
  refine x_goR (fun ls h => x_runV (As := []) [] h C ml_X11_118 (k_X5_present l D cA s0 z b ν hG 7 q7 hq8) ⟨rfl, rfl, nb rfl, nb rfl⟩ rfl (C_Led led7 hw) rfl hw (nb rfl) ⟨nb rfl, nb rfl⟩ dX11_quote_16) ?_
  obtain ⟨h9, hF⟩ := asr_e hF
  refine x_astore [(5, .ref (b + q7)), (0, .ref (b + 0)), (1, .int a1), (2, .int a2), (3, .int a3), (4, .int a4)] C dX11_quote_19 (by decide) rfl ?_
  refine x_aload_n C dX11_quote_21 rfl ?_
  refine x_get (.ref (b + 7)) C fl_X11_24 (C_PD hw) rfl dX11_quote_22 ?_
  refine x_get (.ref (b + (7 + 1))) C fl_X11_187 (C_Led led7 hw) rfl dX11_quote_25 ?_
  refine x_iload_n C dX11_quote_28 rfl ?_
  obtain ⟨h10, hF⟩ := asr_e hF
  obtain ⟨hn11, hl12⟩ := vpn h10 (by decide)
  refine x_aald 3 C (C_ships led7 hw) rfl hn11 hl12 (by decide) rfl dX11_quote_29 ?_
  obtain ⟨nr13, hq14, hst15⟩ := C_Ship (mk_Ship led7 hl12) hw
  refine x_get (.int (ν.1 (7 + (6 + (cl a1))) 1)) C fl_X11_191 hq14 rfl dX11_quote_30 ?_
  refine x_istore [(6, .int (ν.1 (7 + (6 + (cl a1))) 1)), (5, .ref (b + q7)), (0, .ref (b + 0)), (1, .int a1), (2, .int a2), (3, .int a3), (4, .int a4)] C dX11_quote_33 (by decide) rfl ?_
  refine x_aload C dX11_quote_35 rfl ?_
  refine x_iload_n C dX11_quote_37 rfl ?_
  refine x_iload_n C dX11_quote_38 rfl ?_
  refine x_isub C dX11_quote_39 ?_
  refine x_iconst (1 : Int32) C dX11_quote_40 rfl ?_
  refine x_iadd C dX11_quote_41 ?_
  obtain ⟨q16, hq17, hF⟩ := bnd_e hF
  refine x_goR (fun ls h => x_runV (As := [.int ((a3 - a2) + (1 : Int32))]) [] h C ml_X11_341 (k_X10_laySet l D cA s0 z b ν hG q7 ((a3 - a2) + (1 : Int32)) q16 hq17) ⟨rfl, rfl, nb rfl, nb rfl⟩ rfl (C_Tar h9 hw) rfl hw (nb rfl) ⟨nb rfl, nb rfl⟩ dX11_quote_42) ?_
  obtain ⟨q18, hq19, hF⟩ := bnd_e hF
  refine x_goR (fun ls h => x_runS (As := [.int q16]) [] h C ml_X11_305 (k_J6_bitCount_0f7a4 l D cA s0 z hG q16 q18 hq19) ⟨rfl, rfl, nb rfl, nb rfl⟩ rfl trivial (nb rfl) ⟨nb rfl, nb rfl⟩ dX11_quote_45) ?_
  refine x_istore [(7, .int q18), (6, .int (ν.1 (7 + (6 + (cl a1))) 1)), (5, .ref (b + q7)), (0, .ref (b + 0)), (1, .int a1), (2, .int a2), (3, .int a3), (4, .int a4)] C dX11_quote_48 (by decide) rfl ?_
  refine x_iconst (1 : Int32) C dX11_quote_50 rfl ?_
  refine x_aload_n C dX11_quote_51 rfl ?_
  refine x_get (.ref (b + 7)) C fl_X11_24 (C_PD hw) rfl dX11_quote_52 ?_
  refine x_iload_n C dX11_quote_55 rfl ?_
  refine x_iload_n C dX11_quote_56 rfl ?_
  refine x_bipush (40 : Int32) C dX11_quote_57 rfl ?_
  obtain ⟨q20, hq21, hF⟩ := bnd_e hF
  refine x_goR (fun ls h => x_runV (As := [.int a1, .int a2, .int (40 : Int32)]) [.int (1 : Int32)] h C ml_X11_344 (k_X5_callsBefore l D cA s0 z b ν hG 7 a1 a2 (40 : Int32) q20 hq21) ⟨rfl, rfl, nb rfl, nb rfl⟩ rfl (C_Led led7 hw) rfl hw (nb rfl) ⟨nb rfl, nb rfl⟩ dX11_quote_59) ?_
  refine x_iadd C dX11_quote_62 ?_
  refine x_istore [(8, .int ((1 : Int32) + q20)), (7, .int q18), (6, .int (ν.1 (7 + (6 + (cl a1))) 1)), (5, .ref (b + q7)), (0, .ref (b + 0)), (1, .int a1), (2, .int a2), (3, .int a3), (4, .int a4)] C dX11_quote_63 (by decide) rfl ?_
  refine x_aload C dX11_quote_65 rfl ?_
  refine x_iload C dX11_quote_67 rfl ?_
  obtain ⟨q22, hq23, hF⟩ := bnd_e hF
  refine x_goR (fun ls h => x_runV (As := [.int (ν.1 (7 + (6 + (cl a1))) 1)]) [] h C ml_X11_174 (k_X10_duesFor l D cA s0 z b ν hG q7 (ν.1 (7 + (6 + (cl a1))) 1) q22 hq23) ⟨rfl, rfl, nb rfl, nb rfl⟩ rfl (C_Tar h9 hw) rfl hw (nb rfl) ⟨nb rfl, nb rfl⟩ dX11_quote_69) ?_
  refine x_aload C dX11_quote_72 rfl ?_
  refine x_iload C dX11_quote_74 rfl ?_
  refine x_iload C dX11_quote_76 rfl ?_
  obtain ⟨q24, hq25, hF⟩ := bnd_e hF
  refine x_goR (fun ls h => x_runV (As := [.int (ν.1 (7 + (6 + (cl a1))) 1), .int ((1 : Int32) + q20)]) [.int q22] h C ml_X11_348 (k_X10_rebateFor l D cA s0 z b ν hG q7 (ν.1 (7 + (6 + (cl a1))) 1) ((1 : Int32) + q20) q24 hq25) ⟨rfl, rfl, nb rfl, nb rfl⟩ rfl (C_Tar h9 hw) rfl hw (nb rfl) ⟨nb rfl, nb rfl⟩ dX11_quote_78) ?_
  refine x_iadd C dX11_quote_81 ?_
  refine x_aload C dX11_quote_82 rfl ?_
  refine x_iload C dX11_quote_84 rfl ?_
  obtain ⟨q26, hq27, hF⟩ := bnd_e hF
  refine x_goR (fun ls h => x_runV (As := [.int a4]) [.int (q22 + q24)] h C ml_X11_181 (k_X10_wasteFeeFor l D cA s0 z b ν hG q7 a4 q26 hq27) ⟨rfl, rfl, nb rfl, nb rfl⟩ rfl (C_Tar h9 hw) rfl hw (nb rfl) ⟨nb rfl, nb rfl⟩ dX11_quote_86) ?_
  refine x_iadd C dX11_quote_89 ?_
  refine x_aload C dX11_quote_90 rfl ?_
  refine x_get (.int (ν.1 q7 11)) C fl_X11_150 (C_Tar h9 hw) rfl dX11_quote_92 ?_
  refine x_iload C dX11_quote_95 rfl ?_
  refine x_imul C dX11_quote_97 ?_
  refine x_iadd C dX11_quote_98 ?_
  exact t_iret C rfl dX11_quote_99  (rt_o hF) rfl hw hS (nb rfl) (nb rfl)
noncomputable def g_X11_callsToRebate_L42 (ν : Mm) (a1 : Int32) (a2 : Int32) : Nat → Nat → Int32 → Int32 → Int32 → Option (Thr Int32)
  | 0, _, _, _, _ => none
  | n + 1, x3, x4, x5, x6 => (if (99 : Int32) < x6 then some (.ok (-1 : Int32)) else bnd (g_X10_percentAt ν x3 (x4 + x6)) (fun q15 => (if q15 ≤ x5 then (g_X11_callsToRebate_L42 ν a1 a2 n x3 x4 x5 (x6 + (1 : Int32))) else some (.ok x6))))
noncomputable def g_X11_callsToRebate (ν : Mm) (a1 : Int32) (a2 : Int32) : Option (Thr Int32) := bnd (g_X11_requireShip ν a1) (fun q1 => bnx q1 (fun q3 => bnd (g_X11_requireRange ν a2 (0 : Int32) (9 : Int32)) (fun q4 => bnx q4 (fun q6 => bnd (g_X5_present ν 7) (fun q7 => asr (isTar q7) (bnd (g_X5_callsInYear ν 7 a1 a2) (fun q10 => bnd (g_X10_percentAt ν q7 q10) (fun q12 => (g_X11_callsToRebate_L42 ν a1 a2 10000 q7 q10 q12 (1 : Int32))))))))))
set_option maxRecDepth 20000 in
set_option maxHeartbeats 4000000 in
theorem k_X11_callsToRebate (l : Launch) (D : va_G) (cA : Nat → ClassId) (s0 : State) (z : Nat) (b : Nat) (ν : Mm) (sz : Nat) (hG : xG l D cA s0) (a1 : Int32) (a2 : Int32) (r : Thr Int32) (hF : g_X11_callsToRebate ν a1 a2 = some r) : vx_Met l yX11_callsToRebate (wsG yX11_callsToRebate cX11_callsToRebate 7 (some (FieldType.int))) { frames := 9, cells := 2, slots := 12, locals := 175 } (xP D cA s0 [.ref (b + 0), .int a1, .int a2] (fun H => H.size = sz ∧ WC D cA s0 z b ν H)) (xQt (fun q => (some (.int q))) (fun _ H => WC D cA s0 z b ν H) (xA b 2564 sz) r) (xXt (fun H => WC D cA s0 z b ν H) (xA b 2564 sz) r) 2 12 (xA b 2564 sz) := by
  refine t_start (z := z) (b := b) (ν := ν) (s0 := s0) (own := RX11) [(0, .ref (b + 0)), (1, .int a1), (2, .int a2)] rfl rfl (by decide) (nb rfl) ?_
  intro p e s m args below meth c C hX hw
  obtain ⟨hsz, hw⟩ := hw
  subst hsz
  have hS : va_S (xA b 2564 s.heap.size) s.heap s.heap [] := va_S.rf
  have h_L42 : ∀ (n : Nat) (x3 : Nat) (x4 : Int32) (x5 : Int32) (x6 : Int32) (hpx3 : isTar x3) (H : Heap) (locs : List Loc) (hw : WC D cA s0 z b ν H) (hS : va_S (xA b 2564 s.heap.size) s.heap H locs), g_X11_callsToRebate_L42 ν a1 a2 n x3 x4 x5 x6 = some r → xW p l e { frames := 9, cells := 2, slots := 12, locals := 175 } s m args below meth c 7 (vx_MQ below (xQt (fun q => (some (.int q))) (fun _ H => WC D cA s0 z b ν H) (xA b 2564 s.heap.size) r) (xXt (fun H => WC D cA s0 z b ν H) (xA b 2564 s.heap.size) r) args s 2 12 (xA b 2564 s.heap.size)) H locs 2 12 42 [(3, .ref (b + x3)), (4, .int x4), (5, .int x5), (6, .int x6)] [] := by
    intro n
    induction n with
    | zero =>
      intro x3 x4 x5 x6 hpx3 H locs hw hS hF
      exact no_some hF
    | succ n ih =>
      intro x3 x4 x5 x6 hpx3 H locs hw hS hF
      have ih42 := ih
      refine x_iload C dX11_callsToRebate_42 rfl ?_
      refine x_bipush (99 : Int32) C dX11_callsToRebate_44 rfl ?_
      refine x_icmp_gt 72 C dX11_callsToRebate_46 (by decide) (fun c14 => ?_) (fun c14 => ?_)
      · have hF := ite_t hF c14
        refine x_iconst (-1 : Int32) C dX11_callsToRebate_72 rfl ?_
        exact t_iret C rfl dX11_callsToRebate_73  (rt_o hF) rfl hw hS (nb rfl) (nb rfl)
      · have hF := ite_f hF c14
        refine x_aload_n C dX11_callsToRebate_49 rfl ?_
        refine x_iload C dX11_callsToRebate_50 rfl ?_
        refine x_iload C dX11_callsToRebate_52 rfl ?_
        refine x_iadd C dX11_callsToRebate_54 ?_
        obtain ⟨q15, hq16, hF⟩ := bnd_e hF
        refine x_goR (fun ls h => x_runV (As := [.int (x4 + x6)]) [] h C ml_X11_226 (k_X10_percentAt l D cA s0 z b ν hG x3 (x4 + x6) q15 hq16) ⟨rfl, rfl, nb rfl, nb rfl⟩ rfl (C_Tar hpx3 hw) rfl hw (nb rfl) ⟨nb rfl, nb rfl⟩ dX11_callsToRebate_55) ?_
        refine x_iload C dX11_callsToRebate_58 rfl ?_
        refine x_icmp_le 66 C dX11_callsToRebate_60 (by decide) (fun c17 => ?_) (fun c17 => ?_)
        · have hF := ite_t hF c17
          refine x_iinc (x6 + (1 : Int32)) [(6, .int (x6 + (1 : Int32))), (3, .ref (b + x3)), (4, .int x4), (5, .int x5)] C dX11_callsToRebate_66 rfl rfl (by decide) rfl ?_
          refine x_goto 42 C dX11_callsToRebate_69 (by decide) ?_
          refine x_sub [(3, .ref (b + x3)), (4, .int x4), (5, .int x5), (6, .int (x6 + (1 : Int32)))] [1, 2, 3, 0] rfl ?_
          exact ih42 x3 x4 x5 (x6 + (1 : Int32)) hpx3 _ _ hw hS hF
        · have hF := ite_f hF c17
          refine x_iload C dX11_callsToRebate_63 rfl ?_
          exact t_iret C rfl dX11_callsToRebate_65  (rt_o hF) rfl hw hS (nb rfl) (nb rfl)
  refine x_aload_n C dX11_callsToRebate_0 rfl ?_
  refine x_iload_n C dX11_callsToRebate_1 rfl ?_
  obtain ⟨q1, hq2, hF⟩ := bnd_e hF
  refine t_goT (fun ls h => t_runV (As := [.int a1]) [] h C ml_X11_184 (k_X11_requireShip l D cA s0 z b ν _ hG a1 q1 hq2) ⟨rfl, rfl, nb rfl, nb rfl⟩ rfl (C_PD hw) rfl ⟨rfl, hw⟩ (nb rfl) ⟨nb rfl, nb rfl⟩ dX11_callsToRebate_2) hF hS (xA_le hS) C hX (fun _ h => h) (nb rfl) (nb rfl) (fun q3 hF H locs hw hS => ?_)
  refine x_widen (k := 1) (n := 6) (nb rfl) (nb rfl) ?_
  have hw : WC D cA s0 z b ν H := hw
  refine x_iload_n C dX11_callsToRebate_5 rfl ?_
  refine x_iconst (0 : Int32) C dX11_callsToRebate_6 rfl ?_
  refine x_bipush (9 : Int32) C dX11_callsToRebate_7 rfl ?_
  obtain ⟨q4, hq5, hF⟩ := bnd_e hF
  refine t_goT (fun ls h => t_runS (As := [.int a2, .int (0 : Int32), .int (9 : Int32)]) [] h C ml_X11_76 (k_X11_requireRange l D cA s0 z b ν _ hG a2 (0 : Int32) (9 : Int32) q4 hq5) ⟨rfl, rfl, nb rfl, nb rfl⟩ rfl ⟨rfl, hw⟩ (nb rfl) ⟨nb rfl, nb rfl⟩ dX11_callsToRebate_9) hF hS (xA_le hS) C hX (fun _ h => h) (nb rfl) (nb rfl) (fun q6 hF H locs hw hS => ?_)
  refine x_widen (k := 2) (n := 12) (nb rfl) (nb rfl) ?_
  have hw : WC D cA s0 z b ν H := hw
  refine x_aload_n C dX11_callsToRebate_12 rfl ?_
  refine x_get (.ref (b + 7)) C fl_X11_24 (C_PD hw) rfl dX11_callsToRebate_13 ?_
  obtain ⟨q7, hq8, hF⟩ := bnd_e hF
  refine x_goR (fun ls h => x_runV (As := []) [] h C ml_X11_118 (k_X5_present l D cA s0 z b ν hG 7 q7 hq8) ⟨rfl, rfl, nb rfl, nb rfl⟩ rfl (C_Led led7 hw) rfl hw (nb rfl) ⟨nb rfl, nb rfl⟩ dX11_callsToRebate_16) ?_
  obtain ⟨h9, hF⟩ := asr_e hF
  refine x_astore_n [(3, .ref (b + q7)), (0, .ref (b + 0)), (1, .int a1), (2, .int a2)] C dX11_callsToRebate_19 rfl (by decide) rfl ?_
  refine x_aload_n C dX11_callsToRebate_20 rfl ?_
  refine x_get (.ref (b + 7)) C fl_X11_24 (C_PD hw) rfl dX11_callsToRebate_21 ?_
  refine x_iload_n C dX11_callsToRebate_24 rfl ?_
  refine x_iload_n C dX11_callsToRebate_25 rfl ?_
  obtain ⟨q10, hq11, hF⟩ := bnd_e hF
  refine x_goR (fun ls h => x_runV (As := [.int a1, .int a2]) [] h C ml_X11_196 (k_X5_callsInYear l D cA s0 z b ν hG 7 a1 a2 q10 hq11) ⟨rfl, rfl, nb rfl, nb rfl⟩ rfl (C_Led led7 hw) rfl hw (nb rfl) ⟨nb rfl, nb rfl⟩ dX11_callsToRebate_26) ?_
  refine x_istore [(4, .int q10), (3, .ref (b + q7)), (0, .ref (b + 0)), (1, .int a1), (2, .int a2)] C dX11_callsToRebate_29 (by decide) rfl ?_
  refine x_aload_n C dX11_callsToRebate_31 rfl ?_
  refine x_iload C dX11_callsToRebate_32 rfl ?_
  obtain ⟨q12, hq13, hF⟩ := bnd_e hF
  refine x_goR (fun ls h => x_runV (As := [.int q10]) [] h C ml_X11_226 (k_X10_percentAt l D cA s0 z b ν hG q7 q10 q12 hq13) ⟨rfl, rfl, nb rfl, nb rfl⟩ rfl (C_Tar h9 hw) rfl hw (nb rfl) ⟨nb rfl, nb rfl⟩ dX11_callsToRebate_34) ?_
  refine x_istore [(5, .int q12), (4, .int q10), (3, .ref (b + q7)), (0, .ref (b + 0)), (1, .int a1), (2, .int a2)] C dX11_callsToRebate_37 (by decide) rfl ?_
  refine x_iconst (1 : Int32) C dX11_callsToRebate_39 rfl ?_
  refine x_istore [(6, .int (1 : Int32)), (5, .int q12), (4, .int q10), (3, .ref (b + q7)), (0, .ref (b + 0)), (1, .int a1), (2, .int a2)] C dX11_callsToRebate_40 (by decide) rfl ?_
  refine x_sub [(3, .ref (b + q7)), (4, .int q10), (5, .int q12), (6, .int (1 : Int32))] [3, 2, 1, 0] rfl ?_
  exact h_L42 10000 q7 q10 q12 (1 : Int32) h9 _ _ hw hS hF
noncomputable def g_X11_worth (ν : Mm) (a1 : Int32) : Option (Thr Int32) := bnd (g_X11_requireCall ν a1) (fun q1 => bnx q1 (fun q3 => asr (vp_in a1 40) ((if (ν.1 (7 + (14 + (cl a1))) 4) = 0 then bnd (g_X2_year ν (7 + (14 + (cl a1)))) (fun q8 => bnd (g_X5_callsInYear ν 7 (ν.1 (7 + (14 + (cl a1))) 0) q8) (fun q10 => bnd (g_X5_totalAtRank ν 7 a1 q10) (fun q12 => some (.ok q12)))) else some (.ok (0 : Int32))))))
set_option maxRecDepth 20000 in
set_option maxHeartbeats 4000000 in
theorem k_X11_worth (l : Launch) (D : va_G) (cA : Nat → ClassId) (s0 : State) (z : Nat) (b : Nat) (ν : Mm) (sz : Nat) (hG : xG l D cA s0) (a1 : Int32) (r : Thr Int32) (hF : g_X11_worth ν a1 = some r) : vx_Met l yX11_worth (wsG yX11_worth cX11_worth 3 (some (FieldType.int))) { frames := 9, cells := 1, slots := 6, locals := 175 } (xP D cA s0 [.ref (b + 0), .int a1] (fun H => H.size = sz ∧ WC D cA s0 z b ν H)) (xQt (fun q => (some (.int q))) (fun _ H => WC D cA s0 z b ν H) (xA b 2564 sz) r) (xXt (fun H => WC D cA s0 z b ν H) (xA b 2564 sz) r) 1 6 (xA b 2564 sz) := by
  refine t_start (z := z) (b := b) (ν := ν) (s0 := s0) (own := RX11) [(0, .ref (b + 0)), (1, .int a1)] rfl rfl (by decide) (nb rfl) ?_
  intro p e s m args below meth c C hX hw
  obtain ⟨hsz, hw⟩ := hw
  subst hsz
  have hS : va_S (xA b 2564 s.heap.size) s.heap s.heap [] := va_S.rf
  refine x_aload_n C dX11_worth_0 rfl ?_
  refine x_iload_n C dX11_worth_1 rfl ?_
  obtain ⟨q1, hq2, hF⟩ := bnd_e hF
  refine t_goT (fun ls h => t_runV (As := [.int a1]) [] h C ml_X11_199 (k_X11_requireCall l D cA s0 z b ν _ hG a1 q1 hq2) ⟨rfl, rfl, nb rfl, nb rfl⟩ rfl (C_PD hw) rfl ⟨rfl, hw⟩ (nb rfl) ⟨nb rfl, nb rfl⟩ dX11_worth_2) hF hS (xA_le hS) C hX (fun _ h => h) (nb rfl) (nb rfl) (fun q3 hF H locs hw hS => ?_)
  refine x_widen (k := 1) (n := 6) (nb rfl) (nb rfl) ?_
  have hw : WC D cA s0 z b ν H := hw
  refine x_aload_n C dX11_worth_5 rfl ?_
  refine x_get (.ref (b + 7)) C fl_X11_24 (C_PD hw) rfl dX11_worth_6 ?_
  refine x_get (.ref (b + (7 + 2))) C fl_X11_202 (C_Led led7 hw) rfl dX11_worth_9 ?_
  refine x_iload_n C dX11_worth_12 rfl ?_
  obtain ⟨h4, hF⟩ := asr_e hF
  obtain ⟨hn5, hl6⟩ := vpn h4 (by decide)
  refine x_aald 4 C (C_calls led7 hw) rfl hn5 hl6 (by decide) rfl dX11_worth_13 ?_
  refine x_astore_n [(2, .ref (b + (7 + (14 + (cl a1))))), (0, .ref (b + 0)), (1, .int a1)] C dX11_worth_14 rfl (by decide) rfl ?_
  refine x_aload_n C dX11_worth_15 rfl ?_
  refine x_get (.int (ν.1 (7 + (14 + (cl a1))) 4)) C fl_X11_220 (C_Cal (mk_Cal led7 hl6) hw) rfl dX11_worth_16 ?_
  refine x_if_eq 24 C dX11_worth_19 (by decide) (fun c7 => ?_) (fun c7 => ?_)
  · have hF := ite_t hF c7
    refine x_aload_n C dX11_worth_24 rfl ?_
    refine x_get (.ref (b + 7)) C fl_X11_24 (C_PD hw) rfl dX11_worth_25 ?_
    refine x_iload_n C dX11_worth_28 rfl ?_
    refine x_aload_n C dX11_worth_29 rfl ?_
    refine x_get (.ref (b + 7)) C fl_X11_24 (C_PD hw) rfl dX11_worth_30 ?_
    refine x_aload_n C dX11_worth_33 rfl ?_
    refine x_get (.int (ν.1 (7 + (14 + (cl a1))) 0)) C fl_X11_206 (C_Cal (mk_Cal led7 hl6) hw) rfl dX11_worth_34 ?_
    refine x_aload_n C dX11_worth_37 rfl ?_
    obtain ⟨q8, hq9, hF⟩ := bnd_e hF
    refine x_goR (fun ls h => x_runV (As := []) [.int (ν.1 (7 + (14 + (cl a1))) 0), .ref (b + 7), .int a1, .ref (b + 7)] h C ml_X11_335 (k_X2_year l D cA s0 z b ν hG (7 + (14 + (cl a1))) q8 hq9) ⟨rfl, rfl, nb rfl, nb rfl⟩ rfl (C_Cal (mk_Cal led7 hl6) hw) rfl hw (nb rfl) ⟨nb rfl, nb rfl⟩ dX11_worth_38) ?_
    obtain ⟨q10, hq11, hF⟩ := bnd_e hF
    refine x_goR (fun ls h => x_runV (As := [.int (ν.1 (7 + (14 + (cl a1))) 0), .int q8]) [.int a1, .ref (b + 7)] h C ml_X11_196 (k_X5_callsInYear l D cA s0 z b ν hG 7 (ν.1 (7 + (14 + (cl a1))) 0) q8 q10 hq11) ⟨rfl, rfl, nb rfl, nb rfl⟩ rfl (C_Led led7 hw) rfl hw (nb rfl) ⟨nb rfl, nb rfl⟩ dX11_worth_41) ?_
    obtain ⟨q12, hq13, hF⟩ := bnd_e hF
    refine x_goR (fun ls h => x_runV (As := [.int a1, .int q10]) [] h C ml_X11_254 (k_X5_totalAtRank l D cA s0 z b ν hG 7 a1 q10 q12 hq13) ⟨rfl, rfl, nb rfl, nb rfl⟩ rfl (C_Led led7 hw) rfl hw (nb rfl) ⟨nb rfl, nb rfl⟩ dX11_worth_44) ?_
    exact t_iret C rfl dX11_worth_47  (rt_o hF) rfl hw hS (nb rfl) (nb rfl)
  · have hF := ite_f hF c7
    refine x_iconst (0 : Int32) C dX11_worth_22 rfl ?_
    exact t_iret C rfl dX11_worth_23  (rt_o hF) rfl hw hS (nb rfl) (nb rfl)
noncomputable def g_X11_busiestYear_L9 (ν : Mm) (a1 : Int32) : Nat → Int32 → Int32 → Option (Thr Int32)
  | 0, _, _ => none
  | n + 1, x2, x3 => (if (10 : Int32) ≤ x3 then some (.ok x2) else bnd (g_X5_callsInYear ν 7 a1 x3) (fun q5 => bnd (g_X5_callsInYear ν 7 a1 x2) (fun q7 => (if q5 ≤ q7 then (g_X11_busiestYear_L9 ν a1 n x2 (x3 + (1 : Int32))) else (g_X11_busiestYear_L9 ν a1 n x3 (x3 + (1 : Int32)))))))
noncomputable def g_X11_busiestYear (ν : Mm) (a1 : Int32) : Option (Thr Int32) := bnd (g_X11_requireShip ν a1) (fun q1 => bnx q1 (fun q3 => (g_X11_busiestYear_L9 ν a1 10000 (0 : Int32) (1 : Int32))))
set_option maxRecDepth 20000 in
set_option maxHeartbeats 4000000 in
theorem k_X11_busiestYear (l : Launch) (D : va_G) (cA : Nat → ClassId) (s0 : State) (z : Nat) (b : Nat) (ν : Mm) (sz : Nat) (hG : xG l D cA s0) (a1 : Int32) (r : Thr Int32) (hF : g_X11_busiestYear ν a1 = some r) : vx_Met l yX11_busiestYear (wsG yX11_busiestYear cX11_busiestYear 4 (some (FieldType.int))) { frames := 9, cells := 1, slots := 6, locals := 175 } (xP D cA s0 [.ref (b + 0), .int a1] (fun H => H.size = sz ∧ WC D cA s0 z b ν H)) (xQt (fun q => (some (.int q))) (fun _ H => WC D cA s0 z b ν H) (xA b 2564 sz) r) (xXt (fun H => WC D cA s0 z b ν H) (xA b 2564 sz) r) 1 6 (xA b 2564 sz) := by
  refine t_start (z := z) (b := b) (ν := ν) (s0 := s0) (own := RX11) [(0, .ref (b + 0)), (1, .int a1)] rfl rfl (by decide) (nb rfl) ?_
  intro p e s m args below meth c C hX hw
  obtain ⟨hsz, hw⟩ := hw
  subst hsz
  have hS : va_S (xA b 2564 s.heap.size) s.heap s.heap [] := va_S.rf
  have h_L9 : ∀ (n : Nat) (x2 : Int32) (x3 : Int32) (H : Heap) (locs : List Loc) (hw : WC D cA s0 z b ν H) (hS : va_S (xA b 2564 s.heap.size) s.heap H locs), g_X11_busiestYear_L9 ν a1 n x2 x3 = some r → xW p l e { frames := 9, cells := 1, slots := 6, locals := 175 } s m args below meth c 4 (vx_MQ below (xQt (fun q => (some (.int q))) (fun _ H => WC D cA s0 z b ν H) (xA b 2564 s.heap.size) r) (xXt (fun H => WC D cA s0 z b ν H) (xA b 2564 s.heap.size) r) args s 1 6 (xA b 2564 s.heap.size)) H locs 1 6 9 [(0, .ref (b + 0)), (1, .int a1), (2, .int x2), (3, .int x3)] [] := by
    intro n
    induction n with
    | zero =>
      intro x2 x3 H locs hw hS hF
      exact no_some hF
    | succ n ih =>
      intro x2 x3 H locs hw hS hF
      have ih9 := ih
      refine x_iload_n C dX11_busiestYear_9 rfl ?_
      refine x_bipush (10 : Int32) C dX11_busiestYear_10 rfl ?_
      refine x_icmp_ge 44 C dX11_busiestYear_12 (by decide) (fun c4 => ?_) (fun c4 => ?_)
      · have hF := ite_t hF c4
        refine x_iload_n C dX11_busiestYear_44 rfl ?_
        exact t_iret C rfl dX11_busiestYear_45  (rt_o hF) rfl hw hS (nb rfl) (nb rfl)
      · have hF := ite_f hF c4
        refine x_aload_n C dX11_busiestYear_15 rfl ?_
        refine x_get (.ref (b + 7)) C fl_X11_24 (C_PD hw) rfl dX11_busiestYear_16 ?_
        refine x_iload_n C dX11_busiestYear_19 rfl ?_
        refine x_iload_n C dX11_busiestYear_20 rfl ?_
        obtain ⟨q5, hq6, hF⟩ := bnd_e hF
        refine x_goR (fun ls h => x_runV (As := [.int a1, .int x3]) [] h C ml_X11_196 (k_X5_callsInYear l D cA s0 z b ν hG 7 a1 x3 q5 hq6) ⟨rfl, rfl, nb rfl, nb rfl⟩ rfl (C_Led led7 hw) rfl hw (nb rfl) ⟨nb rfl, nb rfl⟩ dX11_busiestYear_21) ?_
        refine x_aload_n C dX11_busiestYear_24 rfl ?_
        refine x_get (.ref (b + 7)) C fl_X11_24 (C_PD hw) rfl dX11_busiestYear_25 ?_
        refine x_iload_n C dX11_busiestYear_28 rfl ?_
        refine x_iload_n C dX11_busiestYear_29 rfl ?_
        obtain ⟨q7, hq8, hF⟩ := bnd_e hF
        refine x_goR (fun ls h => x_runV (As := [.int a1, .int x2]) [.int q5] h C ml_X11_196 (k_X5_callsInYear l D cA s0 z b ν hG 7 a1 x2 q7 hq8) ⟨rfl, rfl, nb rfl, nb rfl⟩ rfl (C_Led led7 hw) rfl hw (nb rfl) ⟨nb rfl, nb rfl⟩ dX11_busiestYear_30) ?_
        refine x_icmp_le 38 C dX11_busiestYear_33 (by decide) (fun c9 => ?_) (fun c9 => ?_)
        · have hF := ite_t hF c9
          refine x_iinc (x3 + (1 : Int32)) [(3, .int (x3 + (1 : Int32))), (0, .ref (b + 0)), (1, .int a1), (2, .int x2)] C dX11_busiestYear_38 rfl rfl (by decide) rfl ?_
          refine x_goto 9 C dX11_busiestYear_41 (by decide) ?_
          refine x_sub [(0, .ref (b + 0)), (1, .int a1), (2, .int x2), (3, .int (x3 + (1 : Int32)))] [1, 2, 3, 0] rfl ?_
          exact ih9 x2 (x3 + (1 : Int32)) _ _ hw hS hF
        · have hF := ite_f hF c9
          refine x_iload_n C dX11_busiestYear_36 rfl ?_
          refine x_istore_n [(2, .int x3), (0, .ref (b + 0)), (1, .int a1), (3, .int x3)] C dX11_busiestYear_37 rfl (by decide) rfl ?_
          refine x_iinc (x3 + (1 : Int32)) [(3, .int (x3 + (1 : Int32))), (2, .int x3), (0, .ref (b + 0)), (1, .int a1)] C dX11_busiestYear_38 rfl rfl (by decide) rfl ?_
          refine x_goto 9 C dX11_busiestYear_41 (by decide) ?_
          refine x_sub [(0, .ref (b + 0)), (1, .int a1), (2, .int x3), (3, .int (x3 + (1 : Int32)))] [2, 3, 1, 0] rfl ?_
          exact ih9 x3 (x3 + (1 : Int32)) _ _ hw hS hF
  refine x_aload_n C dX11_busiestYear_0 rfl ?_
  refine x_iload_n C dX11_busiestYear_1 rfl ?_
  obtain ⟨q1, hq2, hF⟩ := bnd_e hF
  refine t_goT (fun ls h => t_runV (As := [.int a1]) [] h C ml_X11_184 (k_X11_requireShip l D cA s0 z b ν _ hG a1 q1 hq2) ⟨rfl, rfl, nb rfl, nb rfl⟩ rfl (C_PD hw) rfl ⟨rfl, hw⟩ (nb rfl) ⟨nb rfl, nb rfl⟩ dX11_busiestYear_2) hF hS (xA_le hS) C hX (fun _ h => h) (nb rfl) (nb rfl) (fun q3 hF H locs hw hS => ?_)
  refine x_widen (k := 1) (n := 6) (nb rfl) (nb rfl) ?_
  have hw : WC D cA s0 z b ν H := hw
  refine x_iconst (0 : Int32) C dX11_busiestYear_5 rfl ?_
  refine x_istore_n [(2, .int (0 : Int32)), (0, .ref (b + 0)), (1, .int a1)] C dX11_busiestYear_6 rfl (by decide) rfl ?_
  refine x_iconst (1 : Int32) C dX11_busiestYear_7 rfl ?_
  refine x_istore_n [(3, .int (1 : Int32)), (2, .int (0 : Int32)), (0, .ref (b + 0)), (1, .int a1)] C dX11_busiestYear_8 rfl (by decide) rfl ?_
  refine x_sub [(0, .ref (b + 0)), (1, .int a1), (2, .int (0 : Int32)), (3, .int (1 : Int32))] [2, 3, 1, 0] rfl ?_
  exact h_L9 10000 (0 : Int32) (1 : Int32) _ _ hw hS hF
noncomputable def g_X11_furtherRebate (ν : Mm) (a1 : Int32) (a2 : Int32) : Option (Int32) := bnd (g_X5_callsInYear ν 7 a1 (a2 / (360 : Int32))) (fun q1 => bnd (g_X5_present ν 7) (fun q3 => asr (isTar q3) (asr (vp_in a1 8) (bnd (g_X10_rebateFor ν q3 (ν.1 (7 + (6 + (cl a1))) 1) (q1 + (1 : Int32))) (fun q12 => some q12)))))
set_option maxRecDepth 20000 in
set_option maxHeartbeats 4000000 in
theorem k_X11_furtherRebate (l : Launch) (D : va_G) (cA : Nat → ClassId) (s0 : State) (z : Nat) (b : Nat) (ν : Mm) (hG : xG l D cA s0) (a1 : Int32) (a2 : Int32) (r : Int32) (hF : g_X11_furtherRebate ν a1 a2 = some r) : Met l yX11_furtherRebate (wsG yX11_furtherRebate cX11_furtherRebate 4 (some (FieldType.int))) { frames := 2, cells := 0, slots := 0, locals := 51 } (xP D cA s0 [.ref (b + 0), .int a1, .int a2] (WC D cA s0 z b ν)) (xQr (some (.int r))) 0 0 xN := by
  refine x_start (own := RX11) [(0, .ref (b + 0)), (1, .int a1), (2, .int a2)] rfl rfl (by decide) (nb rfl) ?_
  intro p e s m args below meth c C hw
  refine x_aload_n C dX11_furtherRebate_0 rfl ?_
  refine x_get (.ref (b + 7)) C fl_X11_24 (C_PD hw) rfl dX11_furtherRebate_1 ?_
  refine x_iload_n C dX11_furtherRebate_4 rfl ?_
  refine x_iload_n C dX11_furtherRebate_5 rfl ?_
  refine x_sipush (360 : Int32) C dX11_furtherRebate_6 rfl ?_
  refine x_idiv C dX11_furtherRebate_9 (by decide) ?_
  obtain ⟨q1, hq2, hF⟩ := bnd_e hF
  refine x_goR (fun ls h => x_runV (As := [.int a1, .int (a2 / (360 : Int32))]) [] h C ml_X11_196 (k_X5_callsInYear l D cA s0 z b ν hG 7 a1 (a2 / (360 : Int32)) q1 hq2) ⟨rfl, rfl, nb rfl, nb rfl⟩ rfl (C_Led led7 hw) rfl hw (nb rfl) ⟨Nat.zero_le _, Nat.zero_le _⟩ dX11_furtherRebate_10) ?_
  refine x_iconst (1 : Int32) C dX11_furtherRebate_13 rfl ?_
  refine x_iadd C dX11_furtherRebate_14 ?_
  refine x_istore_n [(3, .int (q1 + (1 : Int32))), (0, .ref (b + 0)), (1, .int a1), (2, .int a2)] C dX11_furtherRebate_15 rfl (by decide) rfl ?_
  refine x_aload_n C dX11_furtherRebate_16 rfl ?_
  refine x_get (.ref (b + 7)) C fl_X11_24 (C_PD hw) rfl dX11_furtherRebate_17 ?_
  obtain ⟨q3, hq4, hF⟩ := bnd_e hF
  refine x_goR (fun ls h => x_runV (As := []) [] h C ml_X11_118 (k_X5_present l D cA s0 z b ν hG 7 q3 hq4) ⟨rfl, rfl, nb rfl, nb rfl⟩ rfl (C_Led led7 hw) rfl hw (nb rfl) ⟨Nat.zero_le _, Nat.zero_le _⟩ dX11_furtherRebate_20) ?_
  obtain ⟨h5, hF⟩ := asr_e hF
  refine x_aload_n C dX11_furtherRebate_23 rfl ?_
  refine x_get (.ref (b + 7)) C fl_X11_24 (C_PD hw) rfl dX11_furtherRebate_24 ?_
  refine x_get (.ref (b + (7 + 1))) C fl_X11_187 (C_Led led7 hw) rfl dX11_furtherRebate_27 ?_
  refine x_iload_n C dX11_furtherRebate_30 rfl ?_
  obtain ⟨h6, hF⟩ := asr_e hF
  obtain ⟨hn7, hl8⟩ := vpn h6 (by decide)
  refine x_aald 3 C (C_ships led7 hw) rfl hn7 hl8 (by decide) rfl dX11_furtherRebate_31 ?_
  obtain ⟨nr9, hq10, hst11⟩ := C_Ship (mk_Ship led7 hl8) hw
  refine x_get (.int (ν.1 (7 + (6 + (cl a1))) 1)) C fl_X11_191 hq10 rfl dX11_furtherRebate_32 ?_
  refine x_iload_n C dX11_furtherRebate_35 rfl ?_
  obtain ⟨q12, hq13, hF⟩ := bnd_e hF
  refine x_goR (fun ls h => x_runV (As := [.int (ν.1 (7 + (6 + (cl a1))) 1), .int (q1 + (1 : Int32))]) [] h C ml_X11_348 (k_X10_rebateFor l D cA s0 z b ν hG q3 (ν.1 (7 + (6 + (cl a1))) 1) (q1 + (1 : Int32)) q12 hq13) ⟨rfl, rfl, nb rfl, nb rfl⟩ rfl (C_Tar h5 hw) rfl hw (nb rfl) ⟨Nat.zero_le _, Nat.zero_le _⟩ dX11_furtherRebate_36) ?_
  exact x_iretR C rfl dX11_furtherRebate_39  (r_i hF)
noncomputable def g_X11_bestDay_L61 (ν : Mm) (a1 : Int32) (a2 : Int32) (a3 : Int32) (a4 : Int32) (a5 : Int32) : Nat → Int32 → Int32 → Int32 → Option (Thr Int32)
  | 0, _, _, _ => none
  | n + 1, x6, x7, x8 => (if a3 < x8 then some (.ok x6) else bnd (g_X11_furtherRebate ν a1 x8) (fun q19 => (if x7 ≤ q19 then (g_X11_bestDay_L61 ν a1 a2 a3 a4 a5 n x6 x7 (x8 + (1 : Int32))) else (g_X11_bestDay_L61 ν a1 a2 a3 a4 a5 n x8 q19 (x8 + (1 : Int32))))))
noncomputable def g_X11_bestDay (ν : Mm) (a1 : Int32) (a2 : Int32) (a3 : Int32) (a4 : Int32) (a5 : Int32) : Option (Thr Int32) := bnd (g_X11_requireShip ν a1) (fun q1 => bnx q1 (fun q3 => bnd (g_X11_requireRange ν a2 (0 : Int32) (3599 : Int32)) (fun q4 => bnx q4 (fun q6 => bnd (g_X11_requireRange ν a3 a2 (imin (a2 + (99 : Int32)) (3599 : Int32))) (fun q7 => bnx q7 (fun q9 => bnd (g_X11_requireRange ν a4 (1 : Int32) (30 : Int32)) (fun q10 => bnx q10 (fun q12 => bnd (g_X11_requireRange ν a5 (0 : Int32) (999 : Int32)) (fun q13 => bnx q13 (fun q15 => bnd (g_X11_furtherRebate ν a1 a2) (fun q16 => (g_X11_bestDay_L61 ν a1 a2 a3 a4 a5 10000 a2 q16 (a2 + (1 : Int32))))))))))))))
set_option maxRecDepth 20000 in
set_option maxHeartbeats 4000000 in
theorem k_X11_bestDay (l : Launch) (D : va_G) (cA : Nat → ClassId) (s0 : State) (z : Nat) (b : Nat) (ν : Mm) (sz : Nat) (hG : xG l D cA s0) (a1 : Int32) (a2 : Int32) (a3 : Int32) (a4 : Int32) (a5 : Int32) (r : Thr Int32) (hF : g_X11_bestDay ν a1 a2 a3 a4 a5 = some r) : vx_Met l yX11_bestDay (wsG yX11_bestDay cX11_bestDay 10 (some (FieldType.int))) { frames := 9, cells := 5, slots := 30, locals := 175 } (xP D cA s0 [.ref (b + 0), .int a1, .int a2, .int a3, .int a4, .int a5] (fun H => H.size = sz ∧ WC D cA s0 z b ν H)) (xQt (fun q => (some (.int q))) (fun _ H => WC D cA s0 z b ν H) (xA b 2564 sz) r) (xXt (fun H => WC D cA s0 z b ν H) (xA b 2564 sz) r) 5 30 (xA b 2564 sz) := by
  refine t_start (z := z) (b := b) (ν := ν) (s0 := s0) (own := RX11) [(0, .ref (b + 0)), (1, .int a1), (2, .int a2), (3, .int a3), (4, .int a4), (5, .int a5)] rfl rfl (by decide) (nb rfl) ?_
  intro p e s m args below meth c C hX hw
  obtain ⟨hsz, hw⟩ := hw
  subst hsz
  have hS : va_S (xA b 2564 s.heap.size) s.heap s.heap [] := va_S.rf
  have h_L61 : ∀ (n : Nat) (x6 : Int32) (x7 : Int32) (x8 : Int32) (H : Heap) (locs : List Loc) (hw : WC D cA s0 z b ν H) (hS : va_S (xA b 2564 s.heap.size) s.heap H locs), g_X11_bestDay_L61 ν a1 a2 a3 a4 a5 n x6 x7 x8 = some r → xW p l e { frames := 9, cells := 5, slots := 30, locals := 175 } s m args below meth c 10 (vx_MQ below (xQt (fun q => (some (.int q))) (fun _ H => WC D cA s0 z b ν H) (xA b 2564 s.heap.size) r) (xXt (fun H => WC D cA s0 z b ν H) (xA b 2564 s.heap.size) r) args s 5 30 (xA b 2564 s.heap.size)) H locs 5 30 61 [(0, .ref (b + 0)), (1, .int a1), (3, .int a3), (6, .int x6), (7, .int x7), (8, .int x8)] [] := by
    intro n
    induction n with
    | zero =>
      intro x6 x7 x8 H locs hw hS hF
      exact no_some hF
    | succ n ih =>
      intro x6 x7 x8 H locs hw hS hF
      have ih61 := ih
      refine x_iload C dX11_bestDay_61 rfl ?_
      refine x_iload_n C dX11_bestDay_63 rfl ?_
      refine x_icmp_gt 97 C dX11_bestDay_64 (by decide) (fun c18 => ?_) (fun c18 => ?_)
      · have hF := ite_t hF c18
        refine x_iload C dX11_bestDay_97 rfl ?_
        exact t_iret C rfl dX11_bestDay_99  (rt_o hF) rfl hw hS (nb rfl) (nb rfl)
      · have hF := ite_f hF c18
        refine x_aload_n C dX11_bestDay_67 rfl ?_
        refine x_iload_n C dX11_bestDay_68 rfl ?_
        refine x_iload C dX11_bestDay_69 rfl ?_
        obtain ⟨q19, hq20, hF⟩ := bnd_e hF
        refine x_goR (fun ls h => x_runV (As := [.int a1, .int x8]) [] h C ml_X11_356 (k_X11_furtherRebate l D cA s0 z b ν hG a1 x8 q19 hq20) ⟨rfl, rfl, nb rfl, nb rfl⟩ rfl (C_PD hw) rfl hw (nb rfl) ⟨nb rfl, nb rfl⟩ dX11_bestDay_71) ?_
        refine x_istore [(9, .int q19), (0, .ref (b + 0)), (1, .int a1), (3, .int a3), (6, .int x6), (7, .int x7), (8, .int x8)] C dX11_bestDay_74 (by decide) rfl ?_
        refine x_iload C dX11_bestDay_76 rfl ?_
        refine x_iload C dX11_bestDay_78 rfl ?_
        refine x_icmp_ge 91 C dX11_bestDay_80 (by decide) (fun c21 => ?_) (fun c21 => ?_)
        · have hF := ite_t hF c21
          refine x_iinc (x8 + (1 : Int32)) [(8, .int (x8 + (1 : Int32))), (9, .int q19), (0, .ref (b + 0)), (1, .int a1), (3, .int a3), (6, .int x6), (7, .int x7)] C dX11_bestDay_91 rfl rfl (by decide) rfl ?_
          refine x_goto 61 C dX11_bestDay_94 (by decide) ?_
          refine x_sub [(0, .ref (b + 0)), (1, .int a1), (3, .int a3), (6, .int x6), (7, .int x7), (8, .int (x8 + (1 : Int32)))] [2, 3, 4, 5, 6, 0] rfl ?_
          exact ih61 x6 x7 (x8 + (1 : Int32)) _ _ hw hS hF
        · have hF := ite_f hF c21
          refine x_iload C dX11_bestDay_83 rfl ?_
          refine x_istore [(6, .int x8), (9, .int q19), (0, .ref (b + 0)), (1, .int a1), (3, .int a3), (7, .int x7), (8, .int x8)] C dX11_bestDay_85 (by decide) rfl ?_
          refine x_iload C dX11_bestDay_87 rfl ?_
          refine x_istore [(7, .int q19), (6, .int x8), (9, .int q19), (0, .ref (b + 0)), (1, .int a1), (3, .int a3), (8, .int x8)] C dX11_bestDay_89 (by decide) rfl ?_
          refine x_iinc (x8 + (1 : Int32)) [(8, .int (x8 + (1 : Int32))), (7, .int q19), (6, .int x8), (9, .int q19), (0, .ref (b + 0)), (1, .int a1), (3, .int a3)] C dX11_bestDay_91 rfl rfl (by decide) rfl ?_
          refine x_goto 61 C dX11_bestDay_94 (by decide) ?_
          refine x_sub [(0, .ref (b + 0)), (1, .int a1), (3, .int a3), (6, .int x8), (7, .int q19), (8, .int (x8 + (1 : Int32)))] [4, 5, 6, 2, 1, 0] rfl ?_
          exact ih61 x8 q19 (x8 + (1 : Int32)) _ _ hw hS hF
  refine x_aload_n C dX11_bestDay_0 rfl ?_
  refine x_iload_n C dX11_bestDay_1 rfl ?_
  obtain ⟨q1, hq2, hF⟩ := bnd_e hF
  refine t_goT (fun ls h => t_runV (As := [.int a1]) [] h C ml_X11_184 (k_X11_requireShip l D cA s0 z b ν _ hG a1 q1 hq2) ⟨rfl, rfl, nb rfl, nb rfl⟩ rfl (C_PD hw) rfl ⟨rfl, hw⟩ (nb rfl) ⟨nb rfl, nb rfl⟩ dX11_bestDay_2) hF hS (xA_le hS) C hX (fun _ h => h) (nb rfl) (nb rfl) (fun q3 hF H locs hw hS => ?_)
  refine x_widen (k := 1) (n := 6) (nb rfl) (nb rfl) ?_
  have hw : WC D cA s0 z b ν H := hw
  refine x_iload_n C dX11_bestDay_5 rfl ?_
  refine x_iconst (0 : Int32) C dX11_bestDay_6 rfl ?_
  refine x_sipush (3599 : Int32) C dX11_bestDay_7 rfl ?_
  obtain ⟨q4, hq5, hF⟩ := bnd_e hF
  refine t_goT (fun ls h => t_runS (As := [.int a2, .int (0 : Int32), .int (3599 : Int32)]) [] h C ml_X11_76 (k_X11_requireRange l D cA s0 z b ν _ hG a2 (0 : Int32) (3599 : Int32) q4 hq5) ⟨rfl, rfl, nb rfl, nb rfl⟩ rfl ⟨rfl, hw⟩ (nb rfl) ⟨nb rfl, nb rfl⟩ dX11_bestDay_10) hF hS (xA_le hS) C hX (fun _ h => h) (nb rfl) (nb rfl) (fun q6 hF H locs hw hS => ?_)
  refine x_widen (k := 2) (n := 12) (nb rfl) (nb rfl) ?_
  have hw : WC D cA s0 z b ν H := hw
  refine x_iload_n C dX11_bestDay_13 rfl ?_
  refine x_iload_n C dX11_bestDay_14 rfl ?_
  refine x_iload_n C dX11_bestDay_15 rfl ?_
  refine x_bipush (99 : Int32) C dX11_bestDay_16 rfl ?_
  refine x_iadd C dX11_bestDay_18 ?_
  refine x_sipush (3599 : Int32) C dX11_bestDay_19 rfl ?_
  refine x_mmin C ml_X11_351 (nb rfl) (nb rfl) ⟨nb rfl, nb rfl⟩ dX11_bestDay_22 ?_
  obtain ⟨q7, hq8, hF⟩ := bnd_e hF
  refine t_goT (fun ls h => t_runS (As := [.int a3, .int a2, .int (imin (a2 + (99 : Int32)) (3599 : Int32))]) [] h C ml_X11_76 (k_X11_requireRange l D cA s0 z b ν _ hG a3 a2 (imin (a2 + (99 : Int32)) (3599 : Int32)) q7 hq8) ⟨rfl, rfl, nb rfl, nb rfl⟩ rfl ⟨rfl, hw⟩ (nb rfl) ⟨nb rfl, nb rfl⟩ dX11_bestDay_25) hF hS (xA_le hS) C hX (fun _ h => h) (nb rfl) (nb rfl) (fun q9 hF H locs hw hS => ?_)
  refine x_widen (k := 3) (n := 18) (nb rfl) (nb rfl) ?_
  have hw : WC D cA s0 z b ν H := hw
  refine x_iload C dX11_bestDay_28 rfl ?_
  refine x_iconst (1 : Int32) C dX11_bestDay_30 rfl ?_
  refine x_bipush (30 : Int32) C dX11_bestDay_31 rfl ?_
  obtain ⟨q10, hq11, hF⟩ := bnd_e hF
  refine t_goT (fun ls h => t_runS (As := [.int a4, .int (1 : Int32), .int (30 : Int32)]) [] h C ml_X11_76 (k_X11_requireRange l D cA s0 z b ν _ hG a4 (1 : Int32) (30 : Int32) q10 hq11) ⟨rfl, rfl, nb rfl, nb rfl⟩ rfl ⟨rfl, hw⟩ (nb rfl) ⟨nb rfl, nb rfl⟩ dX11_bestDay_33) hF hS (xA_le hS) C hX (fun _ h => h) (nb rfl) (nb rfl) (fun q12 hF H locs hw hS => ?_)
  refine x_widen (k := 4) (n := 24) (nb rfl) (nb rfl) ?_
  have hw : WC D cA s0 z b ν H := hw
  refine x_iload C dX11_bestDay_36 rfl ?_
  refine x_iconst (0 : Int32) C dX11_bestDay_38 rfl ?_
  refine x_sipush (999 : Int32) C dX11_bestDay_39 rfl ?_
  obtain ⟨q13, hq14, hF⟩ := bnd_e hF
  refine t_goT (fun ls h => t_runS (As := [.int a5, .int (0 : Int32), .int (999 : Int32)]) [] h C ml_X11_76 (k_X11_requireRange l D cA s0 z b ν _ hG a5 (0 : Int32) (999 : Int32) q13 hq14) ⟨rfl, rfl, nb rfl, nb rfl⟩ rfl ⟨rfl, hw⟩ (nb rfl) ⟨nb rfl, nb rfl⟩ dX11_bestDay_42) hF hS (xA_le hS) C hX (fun _ h => h) (nb rfl) (nb rfl) (fun q15 hF H locs hw hS => ?_)
  refine x_widen (k := 5) (n := 30) (nb rfl) (nb rfl) ?_
  have hw : WC D cA s0 z b ν H := hw
  refine x_iload_n C dX11_bestDay_45 rfl ?_
  refine x_istore [(6, .int a2), (0, .ref (b + 0)), (1, .int a1), (2, .int a2), (3, .int a3), (4, .int a4), (5, .int a5)] C dX11_bestDay_46 (by decide) rfl ?_
  refine x_aload_n C dX11_bestDay_48 rfl ?_
  refine x_iload_n C dX11_bestDay_49 rfl ?_
  refine x_iload_n C dX11_bestDay_50 rfl ?_
  obtain ⟨q16, hq17, hF⟩ := bnd_e hF
  refine x_goR (fun ls h => x_runV (As := [.int a1, .int a2]) [] h C ml_X11_356 (k_X11_furtherRebate l D cA s0 z b ν hG a1 a2 q16 hq17) ⟨rfl, rfl, nb rfl, nb rfl⟩ rfl (C_PD hw) rfl hw (nb rfl) ⟨nb rfl, nb rfl⟩ dX11_bestDay_51) ?_
  refine x_istore [(7, .int q16), (6, .int a2), (0, .ref (b + 0)), (1, .int a1), (2, .int a2), (3, .int a3), (4, .int a4), (5, .int a5)] C dX11_bestDay_54 (by decide) rfl ?_
  refine x_iload_n C dX11_bestDay_56 rfl ?_
  refine x_iconst (1 : Int32) C dX11_bestDay_57 rfl ?_
  refine x_iadd C dX11_bestDay_58 ?_
  refine x_istore [(8, .int (a2 + (1 : Int32))), (7, .int q16), (6, .int a2), (0, .ref (b + 0)), (1, .int a1), (2, .int a2), (3, .int a3), (4, .int a4), (5, .int a5)] C dX11_bestDay_59 (by decide) rfl ?_
  refine x_sub [(0, .ref (b + 0)), (1, .int a1), (3, .int a3), (6, .int a2), (7, .int q16), (8, .int (a2 + (1 : Int32)))] [3, 4, 6, 2, 1, 0] rfl ?_
  exact h_L61 10000 a2 q16 (a2 + (1 : Int32)) _ _ hw hS hF
noncomputable def g_X11_addCall_J29 (ν : Mm) (a1 : Int32) (a2 : Int32) (a3 : Int32) (a4 : Int32) (y0 : Bool) : Option (Thr (Int32 × Mm)) := bnd (g_X11_requireState ν y0) (fun q8 => bnx q8 (fun q10 => bnd (g_X3_save ν 7) (fun q11 => bnd (g_X5_newCall q11 7 a1 a2 a3 a4) (fun q13 => some (.ok (q13.1, q13.2))))))
noncomputable def g_X11_addCall (ν : Mm) (a1 : Int32) (a2 : Int32) (a3 : Int32) (a4 : Int32) : Option (Thr (Int32 × Mm)) := bnd (g_X11_requireShip ν a1) (fun q1 => bnx q1 (fun q3 => bnd (g_X11_requireStay ν a2 a3 a4) (fun q4 => bnx q4 (fun q6 => (if (40 : Int32) ≤ (ν.1 7 6) then (g_X11_addCall_J29 ν a1 a2 a3 a4 false) else (g_X11_addCall_J29 ν a1 a2 a3 a4 true))))))
set_option maxRecDepth 20000 in
set_option maxHeartbeats 4000000 in
theorem k_X11_addCall (l : Launch) (D : va_G) (cA : Nat → ClassId) (s0 : State) (z : Nat) (b : Nat) (ν : Mm) (sz : Nat) (hG : xG l D cA s0) (a1 : Int32) (a2 : Int32) (a3 : Int32) (a4 : Int32) (r : Thr (Int32 × Mm)) (hF : g_X11_addCall ν a1 a2 a3 a4 = some r) : vx_Met l yX11_addCall (wsG yX11_addCall cX11_addCall 5 (some (FieldType.int))) { frames := 10, cells := 5, slots := 30, locals := 197 } (xP D cA s0 [.ref (b + 0), .int a1, .int a2, .int a3, .int a4] (fun H => H.size = sz ∧ WC D cA s0 z b ν H)) (xQt (fun q => (some (.int q.1))) (fun q H => WC D cA s0 z b q.2 H) (xA b 2564 sz) r) (xXt (fun H => WC D cA s0 z b ν H) (xA b 2564 sz) r) 5 30 (xA b 2564 sz) := by
  refine t_start (z := z) (b := b) (ν := ν) (s0 := s0) (own := RX11) [(0, .ref (b + 0)), (1, .int a1), (2, .int a2), (3, .int a3), (4, .int a4)] rfl rfl (by decide) (nb rfl) ?_
  intro p e s m args below meth c C hX hw
  obtain ⟨hsz, hw⟩ := hw
  subst hsz
  have hS : va_S (xA b 2564 s.heap.size) s.heap s.heap [] := va_S.rf
  have h_J29 : ∀ (y0 : Bool) (H : Heap) (locs : List Loc) (hw : WC D cA s0 z b ν H) (hS : va_S (xA b 2564 s.heap.size) s.heap H locs), g_X11_addCall_J29 ν a1 a2 a3 a4 y0 = some r → xW p l e { frames := 10, cells := 5, slots := 30, locals := 197 } s m args below meth c 5 (vx_MQ below (xQt (fun q => (some (.int q.1))) (fun q H => WC D cA s0 z b q.2 H) (xA b 2564 s.heap.size) r) (xXt (fun H => WC D cA s0 z b ν H) (xA b 2564 s.heap.size) r) args s 5 30 (xA b 2564 s.heap.size)) H locs 4 24 29 [(0, .ref (b + 0)), (1, .int a1), (2, .int a2), (3, .int a3), (4, .int a4)] [.int (bI y0)] := by
    intro y0 H locs hw hS hF
    obtain ⟨q8, hq9, hF⟩ := bnd_e hF
    refine t_goT (fun ls h => t_runS (As := [.int (bI y0)]) [] h C ml_X11_69 (k_X11_requireState l D cA s0 z b ν _ hG y0 q8 hq9) ⟨rfl, rfl, nb rfl, nb rfl⟩ rfl ⟨rfl, hw⟩ (nb rfl) ⟨nb rfl, nb rfl⟩ dX11_addCall_29) hF hS (xA_le hS) C hX (fun _ h => h) (nb rfl) (nb rfl) (fun q10 hF H locs hw hS => ?_)
    refine x_widen (k := 5) (n := 30) (nb rfl) (nb rfl) ?_
    have hw : WC D cA s0 z b ν H := hw
    refine x_aload_n C dX11_addCall_32 rfl ?_
    refine x_get (.ref (b + 646)) C fl_X11_43 (C_PD hw) rfl dX11_addCall_33 ?_
    refine x_aload_n C dX11_addCall_36 rfl ?_
    refine x_get (.ref (b + 7)) C fl_X11_24 (C_PD hw) rfl dX11_addCall_37 ?_
    obtain ⟨q11, hq12, hF⟩ := bnd_e hF
    refine x_goM (fun ls h => x_runV (As := [.ref (b + 7)]) [] h C ml_X11_84 (k_X3_save l D cA s0 z b ν _ hG 7 q11 hq12) ⟨rfl, rfl, nb rfl, nb rfl⟩ rfl (C_His hw) rfl ⟨rfl, hw⟩ (nb rfl) ⟨nb rfl, nb rfl⟩ dX11_addCall_40) hS (xA_le hS) (fun H locs hw hz hk hS => ?_)
    have hw : WC D cA s0 z b q11 H := hw
    refine x_aload_n C dX11_addCall_43 rfl ?_
    refine x_get (.ref (b + 7)) C fl_X11_24 (C_PD hw) rfl dX11_addCall_44 ?_
    refine x_iload_n C dX11_addCall_47 rfl ?_
    refine x_iload_n C dX11_addCall_48 rfl ?_
    refine x_iload_n C dX11_addCall_49 rfl ?_
    refine x_iload C dX11_addCall_50 rfl ?_
    obtain ⟨q13, hq14, hF⟩ := bnd_e hF
    refine x_goM (fun ls h => x_runV (As := [.int a1, .int a2, .int a3, .int a4]) [] h C ml_X11_359 (k_X5_newCall l D cA s0 z b q11 _ hG 7 a1 a2 a3 a4 q13 hq14) ⟨rfl, rfl, nb rfl, nb rfl⟩ rfl (C_Led led7 hw) rfl ⟨rfl, hw⟩ (nb rfl) ⟨nb rfl, nb rfl⟩ dX11_addCall_52) hS (xA_le hS) (fun H locs hw hz hk hS => ?_)
    have hw : WC D cA s0 z b q13.2 H := hw
    exact t_iret C rfl dX11_addCall_55  (rt_o hF) rfl hw hS (nb rfl) (nb rfl)
  refine x_aload_n C dX11_addCall_0 rfl ?_
  refine x_iload_n C dX11_addCall_1 rfl ?_
  obtain ⟨q1, hq2, hF⟩ := bnd_e hF
  refine t_goT (fun ls h => t_runV (As := [.int a1]) [] h C ml_X11_184 (k_X11_requireShip l D cA s0 z b ν _ hG a1 q1 hq2) ⟨rfl, rfl, nb rfl, nb rfl⟩ rfl (C_PD hw) rfl ⟨rfl, hw⟩ (nb rfl) ⟨nb rfl, nb rfl⟩ dX11_addCall_2) hF hS (xA_le hS) C hX (fun _ h => h) (nb rfl) (nb rfl) (fun q3 hF H locs hw hS => ?_)
  refine x_widen (k := 1) (n := 6) (nb rfl) (nb rfl) ?_
  have hw : WC D cA s0 z b ν H := hw
  refine x_iload_n C dX11_addCall_5 rfl ?_
  refine x_iload_n C dX11_addCall_6 rfl ?_
  refine x_iload C dX11_addCall_7 rfl ?_
  obtain ⟨q4, hq5, hF⟩ := bnd_e hF
  refine t_goT (fun ls h => t_runS (As := [.int a2, .int a3, .int a4]) [] h C ml_X11_338 (k_X11_requireStay l D cA s0 z b ν _ hG a2 a3 a4 q4 hq5) ⟨rfl, rfl, nb rfl, nb rfl⟩ rfl ⟨rfl, hw⟩ (nb rfl) ⟨nb rfl, nb rfl⟩ dX11_addCall_9) hF hS (xA_le hS) C hX (fun _ h => h) (nb rfl) (nb rfl) (fun q6 hF H locs hw hS => ?_)
  refine x_widen (k := 4) (n := 24) (nb rfl) (nb rfl) ?_
  have hw : WC D cA s0 z b ν H := hw
  refine x_aload_n C dX11_addCall_12 rfl ?_
  refine x_get (.ref (b + 7)) C fl_X11_24 (C_PD hw) rfl dX11_addCall_13 ?_
  refine x_get (.int (ν.1 7 6)) C fl_X11_103 (C_Led led7 hw) rfl dX11_addCall_16 ?_
  refine x_bipush (40 : Int32) C dX11_addCall_19 rfl ?_
  refine x_icmp_ge 28 C dX11_addCall_21 (by decide) (fun c7 => ?_) (fun c7 => ?_)
  · have hF := ite_t hF c7
    refine x_iconst (0 : Int32) C dX11_addCall_28 rfl ?_
    exact h_J29 false _ _ hw hS hF
  · have hF := ite_f hF c7
    refine x_iconst (1 : Int32) C dX11_addCall_24 rfl ?_
    refine x_goto 29 C dX11_addCall_25 (by decide) ?_
    exact h_J29 true _ _ hw hS hF
noncomputable def g_X11_cancel_J49 (ν : Mm) (a1 : Int32) (x2 : Nat) (y0 : Bool) : Option (Thr (Int32 × Mm)) := bnd (g_X11_requireState ν y0) (fun q8 => bnx q8 (fun q10 => bnd (g_X3_save ν 7) (fun q11 => bnd (some (uI q11 x2 4 (1 : Int32))) (fun μ13 => bnd (g_X5_callsLeft μ13 7 (μ13.1 x2 0)) (fun q15 => some (.ok (q15, μ13)))))))
noncomputable def g_X11_cancel_J48 (ν : Mm) (a1 : Int32) (x2 : Nat) : Option (Thr (Int32 × Mm)) := (g_X11_cancel_J49 ν a1 x2 false)
noncomputable def g_X11_cancel (ν : Mm) (a1 : Int32) : Option (Thr (Int32 × Mm)) := bnd (g_X11_requireCall ν a1) (fun q1 => bnx q1 (fun q3 => asr (vp_in a1 40) ((if (ν.1 (7 + (14 + (cl a1))) 4) = 0 then bnd (g_X0_billedLinesOf ν a1) (fun q17 => (if q17 = 0 then bnd (g_X0_billedDaysOf ν a1) (fun q20 => (if q20 = 0 then (g_X11_cancel_J49 ν a1 (7 + (14 + (cl a1))) true) else (g_X11_cancel_J48 ν a1 (7 + (14 + (cl a1)))))) else (g_X11_cancel_J48 ν a1 (7 + (14 + (cl a1)))))) else (g_X11_cancel_J48 ν a1 (7 + (14 + (cl a1))))))))
set_option maxRecDepth 20000 in
set_option maxHeartbeats 4000000 in
theorem k_X11_cancel (l : Launch) (D : va_G) (cA : Nat → ClassId) (s0 : State) (z : Nat) (b : Nat) (ν : Mm) (sz : Nat) (hG : xG l D cA s0) (a1 : Int32) (r : Thr (Int32 × Mm)) (hF : g_X11_cancel ν a1 = some r) : vx_Met l yX11_cancel (wsG yX11_cancel cX11_cancel 3 (some (FieldType.int))) { frames := 9, cells := 2, slots := 12, locals := 175 } (xP D cA s0 [.ref (b + 0), .int a1] (fun H => H.size = sz ∧ WC D cA s0 z b ν H)) (xQt (fun q => (some (.int q.1))) (fun q H => WC D cA s0 z b q.2 H) (xA b 2564 sz) r) (xXt (fun H => WC D cA s0 z b ν H) (xA b 2564 sz) r) 2 12 (xA b 2564 sz) := by
  refine t_start (z := z) (b := b) (ν := ν) (s0 := s0) (own := RX11) [(0, .ref (b + 0)), (1, .int a1)] rfl rfl (by decide) (nb rfl) ?_
  intro p e s m args below meth c C hX hw
  obtain ⟨hsz, hw⟩ := hw
  subst hsz
  have hS : va_S (xA b 2564 s.heap.size) s.heap s.heap [] := va_S.rf
  have h_J49 : ∀ (x2 : Nat) (y0 : Bool) (hpx2 : isCal x2) (H : Heap) (locs : List Loc) (hw : WC D cA s0 z b ν H) (hS : va_S (xA b 2564 s.heap.size) s.heap H locs), g_X11_cancel_J49 ν a1 x2 y0 = some r → xW p l e { frames := 9, cells := 2, slots := 12, locals := 175 } s m args below meth c 3 (vx_MQ below (xQt (fun q => (some (.int q.1))) (fun q H => WC D cA s0 z b q.2 H) (xA b 2564 s.heap.size) r) (xXt (fun H => WC D cA s0 z b ν H) (xA b 2564 s.heap.size) r) args s 2 12 (xA b 2564 s.heap.size)) H locs 1 6 49 [(0, .ref (b + 0)), (2, .ref (b + x2))] [.int (bI y0)] := by
    intro x2 y0 hpx2 H locs hw hS hF
    obtain ⟨q8, hq9, hF⟩ := bnd_e hF
    refine t_goT (fun ls h => t_runS (As := [.int (bI y0)]) [] h C ml_X11_69 (k_X11_requireState l D cA s0 z b ν _ hG y0 q8 hq9) ⟨rfl, rfl, nb rfl, nb rfl⟩ rfl ⟨rfl, hw⟩ (nb rfl) ⟨nb rfl, nb rfl⟩ dX11_cancel_49) hF hS (xA_le hS) C hX (fun _ h => h) (nb rfl) (nb rfl) (fun q10 hF H locs hw hS => ?_)
    refine x_widen (k := 2) (n := 12) (nb rfl) (nb rfl) ?_
    have hw : WC D cA s0 z b ν H := hw
    refine x_aload_n C dX11_cancel_52 rfl ?_
    refine x_get (.ref (b + 646)) C fl_X11_43 (C_PD hw) rfl dX11_cancel_53 ?_
    refine x_aload_n C dX11_cancel_56 rfl ?_
    refine x_get (.ref (b + 7)) C fl_X11_24 (C_PD hw) rfl dX11_cancel_57 ?_
    obtain ⟨q11, hq12, hF⟩ := bnd_e hF
    refine x_goM (fun ls h => x_runV (As := [.ref (b + 7)]) [] h C ml_X11_84 (k_X3_save l D cA s0 z b ν _ hG 7 q11 hq12) ⟨rfl, rfl, nb rfl, nb rfl⟩ rfl (C_His hw) rfl ⟨rfl, hw⟩ (nb rfl) ⟨nb rfl, nb rfl⟩ dX11_cancel_60) hS (xA_le hS) (fun H locs hw hz hk hS => ?_)
    have hw : WC D cA s0 z b q11 H := hw
    refine x_aload_n C dX11_cancel_63 rfl ?_
    refine x_iconst (1 : Int32) C dX11_cancel_64 rfl ?_
    refine y_putZ (kk0 := 4) x2 C fl_X11_220 hw (l2 (lt_Cal hpx2)) (fun nm => S_Cal hpx2) (fun nm => S_Cal hpx2) rfl rfl rfl (fun _ => nb rfl) dX11_cancel_65 hS (xA_in (l2 (lt_Cal hpx2))) (fun H locs hw hS => ?_)
    obtain ⟨μ13, hm14, hF⟩ := bnd_e hF
    have hw : WC D cA s0 z b μ13 H := rv_m (W := fun m => WC D cA s0 z b m _) hm14 hw
    refine x_aload_n C dX11_cancel_68 rfl ?_
    refine x_get (.ref (b + 7)) C fl_X11_24 (C_PD hw) rfl dX11_cancel_69 ?_
    refine x_aload_n C dX11_cancel_72 rfl ?_
    refine x_get (.int (μ13.1 x2 0)) C fl_X11_206 (C_Cal hpx2 hw) rfl dX11_cancel_73 ?_
    obtain ⟨q15, hq16, hF⟩ := bnd_e hF
    refine x_goR (fun ls h => x_runV (As := [.int (μ13.1 x2 0)]) [] h C ml_X11_363 (k_X5_callsLeft l D cA s0 z b μ13 hG 7 (μ13.1 x2 0) q15 hq16) ⟨rfl, rfl, nb rfl, nb rfl⟩ rfl (C_Led led7 hw) rfl hw (nb rfl) ⟨nb rfl, nb rfl⟩ dX11_cancel_76) ?_
    exact t_iret C rfl dX11_cancel_79  (rt_o hF) rfl hw hS (nb rfl) (nb rfl)
  have h_J48 : ∀ (x2 : Nat) (hpx2 : isCal x2) (H : Heap) (locs : List Loc) (hw : WC D cA s0 z b ν H) (hS : va_S (xA b 2564 s.heap.size) s.heap H locs), g_X11_cancel_J48 ν a1 x2 = some r → xW p l e { frames := 9, cells := 2, slots := 12, locals := 175 } s m args below meth c 3 (vx_MQ below (xQt (fun q => (some (.int q.1))) (fun q H => WC D cA s0 z b q.2 H) (xA b 2564 s.heap.size) r) (xXt (fun H => WC D cA s0 z b ν H) (xA b 2564 s.heap.size) r) args s 2 12 (xA b 2564 s.heap.size)) H locs 1 6 48 [(0, .ref (b + 0)), (2, .ref (b + x2))] [] := by
    intro x2 hpx2 H locs hw hS hF
    refine x_iconst (0 : Int32) C dX11_cancel_48 rfl ?_
    exact h_J49 x2 false hpx2 _ _ hw hS hF
  refine x_aload_n C dX11_cancel_0 rfl ?_
  refine x_iload_n C dX11_cancel_1 rfl ?_
  obtain ⟨q1, hq2, hF⟩ := bnd_e hF
  refine t_goT (fun ls h => t_runV (As := [.int a1]) [] h C ml_X11_199 (k_X11_requireCall l D cA s0 z b ν _ hG a1 q1 hq2) ⟨rfl, rfl, nb rfl, nb rfl⟩ rfl (C_PD hw) rfl ⟨rfl, hw⟩ (nb rfl) ⟨nb rfl, nb rfl⟩ dX11_cancel_2) hF hS (xA_le hS) C hX (fun _ h => h) (nb rfl) (nb rfl) (fun q3 hF H locs hw hS => ?_)
  refine x_widen (k := 1) (n := 6) (nb rfl) (nb rfl) ?_
  have hw : WC D cA s0 z b ν H := hw
  refine x_aload_n C dX11_cancel_5 rfl ?_
  refine x_get (.ref (b + 7)) C fl_X11_24 (C_PD hw) rfl dX11_cancel_6 ?_
  refine x_get (.ref (b + (7 + 2))) C fl_X11_202 (C_Led led7 hw) rfl dX11_cancel_9 ?_
  refine x_iload_n C dX11_cancel_12 rfl ?_
  obtain ⟨h4, hF⟩ := asr_e hF
  obtain ⟨hn5, hl6⟩ := vpn h4 (by decide)
  refine x_aald 4 C (C_calls led7 hw) rfl hn5 hl6 (by decide) rfl dX11_cancel_13 ?_
  refine x_astore_n [(2, .ref (b + (7 + (14 + (cl a1))))), (0, .ref (b + 0)), (1, .int a1)] C dX11_cancel_14 rfl (by decide) rfl ?_
  refine x_aload_n C dX11_cancel_15 rfl ?_
  refine x_get (.int (ν.1 (7 + (14 + (cl a1))) 4)) C fl_X11_220 (C_Cal (mk_Cal led7 hl6) hw) rfl dX11_cancel_16 ?_
  refine x_if_ne 48 C dX11_cancel_19 (by decide) (fun c7 => ?_) (fun c7 => ?_)
  · have hF := ite_f hF c7
    refine x_sub [(0, .ref (b + 0)), (2, .ref (b + (7 + (14 + (cl a1)))))] [1, 0] rfl ?_
    exact h_J48 (7 + (14 + (cl a1))) (mk_Cal led7 hl6) _ _ hw hS hF
  · have hF := ite_t hF c7
    refine x_aload_n C dX11_cancel_22 rfl ?_
    refine x_get (.ref (b + 2562)) C fl_X11_52 (C_PD hw) rfl dX11_cancel_23 ?_
    refine x_iload_n C dX11_cancel_26 rfl ?_
    obtain ⟨q17, hq18, hF⟩ := bnd_e hF
    refine x_goR (fun ls h => x_runV (As := [.int a1]) [] h C ml_X11_229 (k_X0_billedLinesOf l D cA s0 z b ν hG a1 q17 hq18) ⟨rfl, rfl, nb rfl, nb rfl⟩ rfl (C_Acc hw) rfl hw (nb rfl) ⟨nb rfl, nb rfl⟩ dX11_cancel_27) ?_
    refine x_if_ne 48 C dX11_cancel_30 (by decide) (fun c19 => ?_) (fun c19 => ?_)
    · have hF := ite_f hF c19
      refine x_sub [(0, .ref (b + 0)), (2, .ref (b + (7 + (14 + (cl a1)))))] [1, 0] rfl ?_
      exact h_J48 (7 + (14 + (cl a1))) (mk_Cal led7 hl6) _ _ hw hS hF
    · have hF := ite_t hF c19
      refine x_aload_n C dX11_cancel_33 rfl ?_
      refine x_get (.ref (b + 2562)) C fl_X11_52 (C_PD hw) rfl dX11_cancel_34 ?_
      refine x_iload_n C dX11_cancel_37 rfl ?_
      obtain ⟨q20, hq21, hF⟩ := bnd_e hF
      refine x_goR (fun ls h => x_runV (As := [.int a1]) [] h C ml_X11_241 (k_X0_billedDaysOf l D cA s0 z b ν hG a1 q20 hq21) ⟨rfl, rfl, nb rfl, nb rfl⟩ rfl (C_Acc hw) rfl hw (nb rfl) ⟨nb rfl, nb rfl⟩ dX11_cancel_38) ?_
      refine x_if_ne 48 C dX11_cancel_41 (by decide) (fun c22 => ?_) (fun c22 => ?_)
      · have hF := ite_f hF c22
        refine x_sub [(0, .ref (b + 0)), (2, .ref (b + (7 + (14 + (cl a1)))))] [1, 0] rfl ?_
        exact h_J48 (7 + (14 + (cl a1))) (mk_Cal led7 hl6) _ _ hw hS hF
      · have hF := ite_t hF c22
        refine x_iconst (1 : Int32) C dX11_cancel_44 rfl ?_
        refine x_goto 49 C dX11_cancel_45 (by decide) ?_
        refine x_sub [(0, .ref (b + 0)), (2, .ref (b + (7 + (14 + (cl a1)))))] [1, 0] rfl ?_
        exact h_J49 (7 + (14 + (cl a1))) true (mk_Cal led7 hl6) _ _ hw hS hF
noncomputable def g_X11_setWaste (ν : Mm) (a1 : Int32) (a2 : Int32) : Option (Thr (Int32 × Mm)) := bnd (g_X11_requireCall ν a1) (fun q1 => bnx q1 (fun q3 => bnd (g_X11_requireRange ν a2 (0 : Int32) (999 : Int32)) (fun q4 => bnx q4 (fun q6 => bnd (g_X3_save ν 7) (fun q7 => asr (vp_in a1 40) (bnd (some (uI q7 (7 + (14 + (cl a1))) 3 a2)) (fun μ12 => some (.ok (q7.1 (7 + (14 + (cl a1))) 3, μ12)))))))))
set_option maxRecDepth 20000 in
set_option maxHeartbeats 4000000 in
theorem k_X11_setWaste (l : Launch) (D : va_G) (cA : Nat → ClassId) (s0 : State) (z : Nat) (b : Nat) (ν : Mm) (sz : Nat) (hG : xG l D cA s0) (a1 : Int32) (a2 : Int32) (r : Thr (Int32 × Mm)) (hF : g_X11_setWaste ν a1 a2 = some r) : vx_Met l yX11_setWaste (wsG yX11_setWaste cX11_setWaste 5 (some (FieldType.int))) { frames := 9, cells := 2, slots := 12, locals := 175 } (xP D cA s0 [.ref (b + 0), .int a1, .int a2] (fun H => H.size = sz ∧ WC D cA s0 z b ν H)) (xQt (fun q => (some (.int q.1))) (fun q H => WC D cA s0 z b q.2 H) (xA b 2564 sz) r) (xXt (fun H => WC D cA s0 z b ν H) (xA b 2564 sz) r) 2 12 (xA b 2564 sz) := by
  refine t_start (z := z) (b := b) (ν := ν) (s0 := s0) (own := RX11) [(0, .ref (b + 0)), (1, .int a1), (2, .int a2)] rfl rfl (by decide) (nb rfl) ?_
  intro p e s m args below meth c C hX hw
  obtain ⟨hsz, hw⟩ := hw
  subst hsz
  have hS : va_S (xA b 2564 s.heap.size) s.heap s.heap [] := va_S.rf
  refine x_aload_n C dX11_setWaste_0 rfl ?_
  refine x_iload_n C dX11_setWaste_1 rfl ?_
  obtain ⟨q1, hq2, hF⟩ := bnd_e hF
  refine t_goT (fun ls h => t_runV (As := [.int a1]) [] h C ml_X11_199 (k_X11_requireCall l D cA s0 z b ν _ hG a1 q1 hq2) ⟨rfl, rfl, nb rfl, nb rfl⟩ rfl (C_PD hw) rfl ⟨rfl, hw⟩ (nb rfl) ⟨nb rfl, nb rfl⟩ dX11_setWaste_2) hF hS (xA_le hS) C hX (fun _ h => h) (nb rfl) (nb rfl) (fun q3 hF H locs hw hS => ?_)
  refine x_widen (k := 1) (n := 6) (nb rfl) (nb rfl) ?_
  have hw : WC D cA s0 z b ν H := hw
  refine x_iload_n C dX11_setWaste_5 rfl ?_
  refine x_iconst (0 : Int32) C dX11_setWaste_6 rfl ?_
  refine x_sipush (999 : Int32) C dX11_setWaste_7 rfl ?_
  obtain ⟨q4, hq5, hF⟩ := bnd_e hF
  refine t_goT (fun ls h => t_runS (As := [.int a2, .int (0 : Int32), .int (999 : Int32)]) [] h C ml_X11_76 (k_X11_requireRange l D cA s0 z b ν _ hG a2 (0 : Int32) (999 : Int32) q4 hq5) ⟨rfl, rfl, nb rfl, nb rfl⟩ rfl ⟨rfl, hw⟩ (nb rfl) ⟨nb rfl, nb rfl⟩ dX11_setWaste_10) hF hS (xA_le hS) C hX (fun _ h => h) (nb rfl) (nb rfl) (fun q6 hF H locs hw hS => ?_)
  refine x_widen (k := 2) (n := 12) (nb rfl) (nb rfl) ?_
  have hw : WC D cA s0 z b ν H := hw
  refine x_aload_n C dX11_setWaste_13 rfl ?_
  refine x_get (.ref (b + 646)) C fl_X11_43 (C_PD hw) rfl dX11_setWaste_14 ?_
  refine x_aload_n C dX11_setWaste_17 rfl ?_
  refine x_get (.ref (b + 7)) C fl_X11_24 (C_PD hw) rfl dX11_setWaste_18 ?_
  obtain ⟨q7, hq8, hF⟩ := bnd_e hF
  refine x_goM (fun ls h => x_runV (As := [.ref (b + 7)]) [] h C ml_X11_84 (k_X3_save l D cA s0 z b ν _ hG 7 q7 hq8) ⟨rfl, rfl, nb rfl, nb rfl⟩ rfl (C_His hw) rfl ⟨rfl, hw⟩ (nb rfl) ⟨nb rfl, nb rfl⟩ dX11_setWaste_21) hS (xA_le hS) (fun H locs hw hz hk hS => ?_)
  have hw : WC D cA s0 z b q7 H := hw
  refine x_aload_n C dX11_setWaste_24 rfl ?_
  refine x_get (.ref (b + 7)) C fl_X11_24 (C_PD hw) rfl dX11_setWaste_25 ?_
  refine x_get (.ref (b + (7 + 2))) C fl_X11_202 (C_Led led7 hw) rfl dX11_setWaste_28 ?_
  refine x_iload_n C dX11_setWaste_31 rfl ?_
  obtain ⟨h9, hF⟩ := asr_e hF
  obtain ⟨hn10, hl11⟩ := vpn h9 (by decide)
  refine x_aald 4 C (C_calls led7 hw) rfl hn10 hl11 (by decide) rfl dX11_setWaste_32 ?_
  refine x_astore_n [(3, .ref (b + (7 + (14 + (cl a1))))), (0, .ref (b + 0)), (1, .int a1), (2, .int a2)] C dX11_setWaste_33 rfl (by decide) rfl ?_
  refine x_aload_n C dX11_setWaste_34 rfl ?_
  refine x_get (.int (q7.1 (7 + (14 + (cl a1))) 3)) C fl_X11_217 (C_Cal (mk_Cal led7 hl11) hw) rfl dX11_setWaste_35 ?_
  refine x_istore [(4, .int (q7.1 (7 + (14 + (cl a1))) 3)), (3, .ref (b + (7 + (14 + (cl a1))))), (0, .ref (b + 0)), (1, .int a1), (2, .int a2)] C dX11_setWaste_38 (by decide) rfl ?_
  refine x_aload_n C dX11_setWaste_40 rfl ?_
  refine x_iload_n C dX11_setWaste_41 rfl ?_
  refine y_putI (kk0 := 3) (7 + (14 + (cl a1))) C fl_X11_217 hw (l2 (lt_Cal (mk_Cal led7 hl11))) (fun nm => S_Cal (mk_Cal led7 hl11)) (fun nm => S_Cal (mk_Cal led7 hl11)) rfl rfl (fun _ => nb rfl) dX11_setWaste_42 hS (xA_in (l2 (lt_Cal (mk_Cal led7 hl11)))) (fun H locs hw hS => ?_)
  obtain ⟨μ12, hm13, hF⟩ := bnd_e hF
  have hw : WC D cA s0 z b μ12 H := rv_m (W := fun m => WC D cA s0 z b m _) hm13 hw
  refine x_iload C dX11_setWaste_45 rfl ?_
  exact t_iret C rfl dX11_setWaste_47  (rt_o hF) rfl hw hS (nb rfl) (nb rfl)
noncomputable def g_X11_setTons (ν : Mm) (a1 : Int32) (a2 : Int32) : Option (Thr (Int32 × Mm)) := bnd (g_X11_requireShip ν a1) (fun q1 => bnx q1 (fun q3 => bnd (g_X11_requireRange ν a2 (1 : Int32) (9999 : Int32)) (fun q4 => bnx q4 (fun q6 => bnd (g_X3_save ν 7) (fun q7 => asr (vp_in a1 8) (bnd (some (uI q7 (7 + (6 + (cl a1))) 1 a2)) (fun μ15 => some (.ok (q7.1 (7 + (6 + (cl a1))) 1, μ15)))))))))
set_option maxRecDepth 20000 in
set_option maxHeartbeats 4000000 in
theorem k_X11_setTons (l : Launch) (D : va_G) (cA : Nat → ClassId) (s0 : State) (z : Nat) (b : Nat) (ν : Mm) (sz : Nat) (hG : xG l D cA s0) (a1 : Int32) (a2 : Int32) (r : Thr (Int32 × Mm)) (hF : g_X11_setTons ν a1 a2 = some r) : vx_Met l yX11_setTons (wsG yX11_setTons cX11_setTons 5 (some (FieldType.int))) { frames := 9, cells := 2, slots := 12, locals := 175 } (xP D cA s0 [.ref (b + 0), .int a1, .int a2] (fun H => H.size = sz ∧ WC D cA s0 z b ν H)) (xQt (fun q => (some (.int q.1))) (fun q H => WC D cA s0 z b q.2 H) (xA b 2564 sz) r) (xXt (fun H => WC D cA s0 z b ν H) (xA b 2564 sz) r) 2 12 (xA b 2564 sz) := by
  refine t_start (z := z) (b := b) (ν := ν) (s0 := s0) (own := RX11) [(0, .ref (b + 0)), (1, .int a1), (2, .int a2)] rfl rfl (by decide) (nb rfl) ?_
  intro p e s m args below meth c C hX hw
  obtain ⟨hsz, hw⟩ := hw
  subst hsz
  have hS : va_S (xA b 2564 s.heap.size) s.heap s.heap [] := va_S.rf
  refine x_aload_n C dX11_setTons_0 rfl ?_
  refine x_iload_n C dX11_setTons_1 rfl ?_
  obtain ⟨q1, hq2, hF⟩ := bnd_e hF
  refine t_goT (fun ls h => t_runV (As := [.int a1]) [] h C ml_X11_184 (k_X11_requireShip l D cA s0 z b ν _ hG a1 q1 hq2) ⟨rfl, rfl, nb rfl, nb rfl⟩ rfl (C_PD hw) rfl ⟨rfl, hw⟩ (nb rfl) ⟨nb rfl, nb rfl⟩ dX11_setTons_2) hF hS (xA_le hS) C hX (fun _ h => h) (nb rfl) (nb rfl) (fun q3 hF H locs hw hS => ?_)
  refine x_widen (k := 1) (n := 6) (nb rfl) (nb rfl) ?_
  have hw : WC D cA s0 z b ν H := hw
  refine x_iload_n C dX11_setTons_5 rfl ?_
  refine x_iconst (1 : Int32) C dX11_setTons_6 rfl ?_
  refine x_sipush (9999 : Int32) C dX11_setTons_7 rfl ?_
  obtain ⟨q4, hq5, hF⟩ := bnd_e hF
  refine t_goT (fun ls h => t_runS (As := [.int a2, .int (1 : Int32), .int (9999 : Int32)]) [] h C ml_X11_76 (k_X11_requireRange l D cA s0 z b ν _ hG a2 (1 : Int32) (9999 : Int32) q4 hq5) ⟨rfl, rfl, nb rfl, nb rfl⟩ rfl ⟨rfl, hw⟩ (nb rfl) ⟨nb rfl, nb rfl⟩ dX11_setTons_10) hF hS (xA_le hS) C hX (fun _ h => h) (nb rfl) (nb rfl) (fun q6 hF H locs hw hS => ?_)
  refine x_widen (k := 2) (n := 12) (nb rfl) (nb rfl) ?_
  have hw : WC D cA s0 z b ν H := hw
  refine x_aload_n C dX11_setTons_13 rfl ?_
  refine x_get (.ref (b + 646)) C fl_X11_43 (C_PD hw) rfl dX11_setTons_14 ?_
  refine x_aload_n C dX11_setTons_17 rfl ?_
  refine x_get (.ref (b + 7)) C fl_X11_24 (C_PD hw) rfl dX11_setTons_18 ?_
  obtain ⟨q7, hq8, hF⟩ := bnd_e hF
  refine x_goM (fun ls h => x_runV (As := [.ref (b + 7)]) [] h C ml_X11_84 (k_X3_save l D cA s0 z b ν _ hG 7 q7 hq8) ⟨rfl, rfl, nb rfl, nb rfl⟩ rfl (C_His hw) rfl ⟨rfl, hw⟩ (nb rfl) ⟨nb rfl, nb rfl⟩ dX11_setTons_21) hS (xA_le hS) (fun H locs hw hz hk hS => ?_)
  have hw : WC D cA s0 z b q7 H := hw
  refine x_aload_n C dX11_setTons_24 rfl ?_
  refine x_get (.ref (b + 7)) C fl_X11_24 (C_PD hw) rfl dX11_setTons_25 ?_
  refine x_get (.ref (b + (7 + 1))) C fl_X11_187 (C_Led led7 hw) rfl dX11_setTons_28 ?_
  refine x_iload_n C dX11_setTons_31 rfl ?_
  obtain ⟨h9, hF⟩ := asr_e hF
  obtain ⟨hn10, hl11⟩ := vpn h9 (by decide)
  refine x_aald 3 C (C_ships led7 hw) rfl hn10 hl11 (by decide) rfl dX11_setTons_32 ?_
  refine x_astore_n [(3, .ref (b + (7 + (6 + (cl a1))))), (0, .ref (b + 0)), (1, .int a1), (2, .int a2)] C dX11_setTons_33 rfl (by decide) rfl ?_
  refine x_aload_n C dX11_setTons_34 rfl ?_
  obtain ⟨nr12, hq13, hst14⟩ := C_Ship (mk_Ship led7 hl11) hw
  refine x_get (.int (q7.1 (7 + (6 + (cl a1))) 1)) C fl_X11_191 hq13 rfl dX11_setTons_35 ?_
  refine x_istore [(4, .int (q7.1 (7 + (6 + (cl a1))) 1)), (3, .ref (b + (7 + (6 + (cl a1))))), (0, .ref (b + 0)), (1, .int a1), (2, .int a2)] C dX11_setTons_38 (by decide) rfl ?_
  refine x_aload_n C dX11_setTons_40 rfl ?_
  refine x_iload_n C dX11_setTons_41 rfl ?_
  refine y_putI (kk0 := 1) (7 + (6 + (cl a1))) C fl_X11_191 hw (l2 (lt_Ship (mk_Ship led7 hl11))) (fun nm => S_Ship (mk_Ship led7 hl11)) (fun nm => S_Ship (mk_Ship led7 hl11)) rfl rfl (fun _ => nb rfl) dX11_setTons_42 hS (xA_in (l2 (lt_Ship (mk_Ship led7 hl11)))) (fun H locs hw hS => ?_)
  obtain ⟨μ15, hm16, hF⟩ := bnd_e hF
  have hw : WC D cA s0 z b μ15 H := rv_m (W := fun m => WC D cA s0 z b m _) hm16 hw
  refine x_iload C dX11_setTons_45 rfl ?_
  exact t_iret C rfl dX11_setTons_47  (rt_o hF) rfl hw hS (nb rfl) (nb rfl)
