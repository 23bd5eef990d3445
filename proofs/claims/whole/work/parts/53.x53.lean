noncomputable def g_X12_addCall_J43 (ν : Mm) (a1 : Int32) (a2 : Int32) (a3 : Int32) (a4 : Int32) (μ0 : Mm) (y0 : Bool) (y1 : Bool) (y2 : Bool) : Option (Int32 × Mm) := bnd (some (f_X12_passes3 μ0 y2 y1 y0)) (fun q9 => (if q9.1 = true then bnd (g_X12_remember q9.2) (fun q13 => bnd (g_X12_layCall q13 (q13.1 1 1) a1 a2 a3 a4) (fun q15 => bnd (some (uI q15 1 1 ((q15.1 1 1) + (1 : Int32)))) (fun μ17 => some (q13.1 1 1, μ17)))) else some ((0 : Int32), q9.2)))
noncomputable def g_X12_addCall_J27 (ν : Mm) (a1 : Int32) (a2 : Int32) (a3 : Int32) (a4 : Int32) (μ0 : Mm) (y0 : Bool) (y1 : Bool) : Option (Int32 × Mm) := (if (40 : Int32) ≤ (μ0.1 1 1) then (g_X12_addCall_J43 ν a1 a2 a3 a4 μ0 false y0 y1) else (g_X12_addCall_J43 ν a1 a2 a3 a4 μ0 true y0 y1))
noncomputable def g_X12_addCall_J26 (ν : Mm) (a1 : Int32) (a2 : Int32) (a3 : Int32) (a4 : Int32) (μ0 : Mm) (y0 : Bool) : Option (Int32 × Mm) := (g_X12_addCall_J27 ν a1 a2 a3 a4 μ0 false y0)
noncomputable def g_X12_addCall (ν : Mm) (a1 : Int32) (a2 : Int32) (a3 : Int32) (a4 : Int32) : Option (Int32 × Mm) := bnd (some (f_X12_isShip ν a1)) (fun q1 => bnd (some (f_X12_areDays a2 a3)) (fun q4 => (if q4 = true then bnd (some (f_X12_isWaste a4)) (fun q19 => (if q19 = true then (g_X12_addCall_J27 ν a1 a2 a3 a4 ν true q1) else (g_X12_addCall_J26 ν a1 a2 a3 a4 ν q1))) else (g_X12_addCall_J26 ν a1 a2 a3 a4 ν q1))))
set_option maxRecDepth 20000 in
set_option maxHeartbeats 4000000 in
theorem k_X12_addCall (l : Launch) (D : va_G) (cA : Nat → ClassId) (s0 : State) (z : Nat) (b : Nat) (ν : Mm) (sz : Nat) (hG : xG l D cA s0) (a1 : Int32) (a2 : Int32) (a3 : Int32) (a4 : Int32) (r : Int32 × Mm) (hF : g_X12_addCall ν a1 a2 a3 a4 = some r) : Met l yX12_addCall (wsG yX12_addCall cX12_addCall 6 (some (FieldType.int))) { frames := 2, cells := 0, slots := 0, locals := 46 } (xP D cA s0 [.ref b, .int a1, .int a2, .int a3, .int a4] (fun H => H.size = sz ∧ RX D cA s0 z b ν H)) (xQm (some (.int r.1)) (fun H => RX D cA s0 z b r.2 H) (xA b 8 sz)) 0 0 (xA b 8 sz) := by
  refine x_start (own := RX12) [(0, .ref b), (1, .int a1), (2, .int a2), (3, .int a3), (4, .int a4)] rfl rfl (by decide) (nb rfl) ?_
  intro p e s m args below meth c C hw
  obtain ⟨hsz, hw⟩ := hw
  subst hsz
  have hS : va_S (xA b 8 s.heap.size) s.heap s.heap [] := va_S.rf
  have h_J43 : ∀ (μ0 : Mm) (y0 : Bool) (y1 : Bool) (y2 : Bool) (H : Heap) (locs : List Loc) (hw : RX D cA s0 z b μ0 H) (hS : va_S (xA b 8 s.heap.size) s.heap H locs), g_X12_addCall_J43 ν a1 a2 a3 a4 μ0 y0 y1 y2 = some r → xW p l e { frames := 2, cells := 0, slots := 0, locals := 46 } s m args below meth c 6 (MQ below (xQm (some (.int r.1)) (fun H => RX D cA s0 z b r.2 H) (xA b 8 s.heap.size)) args s 0 0 (xA b 8 s.heap.size)) H locs 0 0 43 [(0, .ref b), (1, .int a1), (2, .int a2), (3, .int a3), (4, .int a4)] [.int (bI y0), .int (bI y1), .int (bI y2), .ref b] := by
    intro μ0 y0 y1 y2 H locs hw hS hF
    obtain ⟨q9, hq10, hF⟩ := bnd_e hF
    have hq10 := Option.some.inj hq10
    have K11 := c_X12_passes3 l D cA s0 b μ0 H.size y2 y1 y0 
    rw [hq10] at K11
    have hwo := hw
    refine x_goM (fun ls h => x_runV (As := [.int (bI y2), .int (bI y1), .int (bI y0)]) [] h C ml_X12_7 K11 ⟨rfl, rfl, nb rfl, nb rfl⟩ rfl (M_obj hw.2.2.2.2) rfl ⟨rfl, hw.2.2.2.2⟩ (nb rfl) ⟨Nat.zero_le _, Nat.zero_le _⟩ dX12_addCall_43) hS (xA_le hS) (fun H locs hw hz hk hS => ?_)
    have hw : RX D cA s0 z b q9.2 H := RX.of hwo hw hz hk
    refine x_ifB_ne 51 C dX12_addCall_46 (by decide) (fun c12 => ?_) (fun c12 => ?_)
    · have hF := ite_t hF c12
      refine x_aload_n C dX12_addCall_51 rfl ?_
      obtain ⟨q13, hq14, hF⟩ := bnd_e hF
      refine x_goM (fun ls h => x_runV (As := []) [] h C ml_X12_231 (k_X12_remember l D cA s0 z b q9.2 _ hG q13 hq14) ⟨rfl, rfl, nb rfl, nb rfl⟩ rfl (M_obj hw.2.2.2.2) rfl ⟨rfl, hw⟩ (nb rfl) ⟨Nat.zero_le _, Nat.zero_le _⟩ dX12_addCall_52) hS (xA_le hS) (fun H locs hw hz hk hS => ?_)
      have hw : RX D cA s0 z b q13 H := hw
      refine x_aload_n C dX12_addCall_55 rfl ?_
      refine x_get (.ref (b + 1)) C fl_X12_17 (M_obj hw.2.2.2.2) rfl dX12_addCall_56 ?_
      refine x_iconst (1 : Int32) C dX12_addCall_59 rfl ?_
      refine x_ialdN C (M_a1 hw.2.2.2.2) (ixl (x := (1 : Int32)) 1 rfl) (by decide) (by decide) dX12_addCall_60 ?_
      refine x_istore [(5, .int (q13.1 1 1)), (0, .ref b), (1, .int a1), (2, .int a2), (3, .int a3), (4, .int a4)] C dX12_addCall_61 (by decide) rfl ?_
      refine x_aload_n C dX12_addCall_63 rfl ?_
      refine x_iload C dX12_addCall_64 rfl ?_
      refine x_iload_n C dX12_addCall_66 rfl ?_
      refine x_iload_n C dX12_addCall_67 rfl ?_
      refine x_iload_n C dX12_addCall_68 rfl ?_
      refine x_iload C dX12_addCall_69 rfl ?_
      obtain ⟨q15, hq16, hF⟩ := bnd_e hF
      refine x_goM (fun ls h => x_runV (As := [.int (q13.1 1 1), .int a1, .int a2, .int a3, .int a4]) [] h C ml_X12_200 (k_X12_layCall l D cA s0 z b q13 _ hG (q13.1 1 1) a1 a2 a3 a4 q15 hq16) ⟨rfl, rfl, nb rfl, nb rfl⟩ rfl (M_obj hw.2.2.2.2) rfl ⟨rfl, hw⟩ (nb rfl) ⟨Nat.zero_le _, Nat.zero_le _⟩ dX12_addCall_71) hS (xA_le hS) (fun H locs hw hz hk hS => ?_)
      have hw : RX D cA s0 z b q15 H := hw
      refine x_aload_n C dX12_addCall_74 rfl ?_
      refine x_get (.ref (b + 1)) C fl_X12_17 (M_obj hw.2.2.2.2) rfl dX12_addCall_75 ?_
      refine x_iconst (1 : Int32) C dX12_addCall_78 rfl ?_
      refine x_dup2_11 C dX12_addCall_79 rfl rfl ?_
      refine x_ialdN C (M_a1 hw.2.2.2.2) (ixl (x := (1 : Int32)) 1 rfl) (by decide) (by decide) dX12_addCall_80 ?_
      refine x_iconst (1 : Int32) C dX12_addCall_81 rfl ?_
      refine x_iadd C dX12_addCall_82 ?_
      refine m_iast 1 C hw (by decide) (fun _ => rfl) (ixl (x := (1 : Int32)) 1 rfl) (by decide) (by decide) dX12_addCall_83 hS (fun H locs hw hS => ?_)
      obtain ⟨μ17, hm18, hF⟩ := bnd_e hF
      have hw : RX D cA s0 z b μ17 H := rv_m (W := fun m => RX D cA s0 z b m _) hm18 hw
      refine x_iload C dX12_addCall_84 rfl ?_
      exact x_iretM2 C rfl dX12_addCall_86  (rm_i hF) (rm_m (W := fun m => RX D cA s0 z b m _) hF hw) hS (nb rfl) (nb rfl)
    · have hF := ite_f hF (nbt c12)
      refine x_iconst (0 : Int32) C dX12_addCall_49 rfl ?_
      exact x_iretM2 C rfl dX12_addCall_50  (rm_i hF) (rm_m (W := fun m => RX D cA s0 z b m _) hF hw) hS (nb rfl) (nb rfl)
  have h_J27 : ∀ (μ0 : Mm) (y0 : Bool) (y1 : Bool) (H : Heap) (locs : List Loc) (hw : RX D cA s0 z b μ0 H) (hS : va_S (xA b 8 s.heap.size) s.heap H locs), g_X12_addCall_J27 ν a1 a2 a3 a4 μ0 y0 y1 = some r → xW p l e { frames := 2, cells := 0, slots := 0, locals := 46 } s m args below meth c 6 (MQ below (xQm (some (.int r.1)) (fun H => RX D cA s0 z b r.2 H) (xA b 8 s.heap.size)) args s 0 0 (xA b 8 s.heap.size)) H locs 0 0 27 [(0, .ref b), (1, .int a1), (2, .int a2), (3, .int a3), (4, .int a4)] [.int (bI y0), .int (bI y1), .ref b] := by
    intro μ0 y0 y1 H locs hw hS hF
    refine x_aload_n C dX12_addCall_27 rfl ?_
    refine x_get (.ref (b + 1)) C fl_X12_17 (M_obj hw.2.2.2.2) rfl dX12_addCall_28 ?_
    refine x_iconst (1 : Int32) C dX12_addCall_31 rfl ?_
    refine x_ialdN C (M_a1 hw.2.2.2.2) (ixl (x := (1 : Int32)) 1 rfl) (by decide) (by decide) dX12_addCall_32 ?_
    refine x_bipush (40 : Int32) C dX12_addCall_33 rfl ?_
    refine x_icmp_ge 42 C dX12_addCall_35 (by decide) (fun c8 => ?_) (fun c8 => ?_)
    · have hF := ite_t hF c8
      refine x_iconst (0 : Int32) C dX12_addCall_42 rfl ?_
      exact h_J43 μ0 false y0 y1 _ _ hw hS hF
    · have hF := ite_f hF c8
      refine x_iconst (1 : Int32) C dX12_addCall_38 rfl ?_
      refine x_goto 43 C dX12_addCall_39 (by decide) ?_
      exact h_J43 μ0 true y0 y1 _ _ hw hS hF
  have h_J26 : ∀ (μ0 : Mm) (y0 : Bool) (H : Heap) (locs : List Loc) (hw : RX D cA s0 z b μ0 H) (hS : va_S (xA b 8 s.heap.size) s.heap H locs), g_X12_addCall_J26 ν a1 a2 a3 a4 μ0 y0 = some r → xW p l e { frames := 2, cells := 0, slots := 0, locals := 46 } s m args below meth c 6 (MQ below (xQm (some (.int r.1)) (fun H => RX D cA s0 z b r.2 H) (xA b 8 s.heap.size)) args s 0 0 (xA b 8 s.heap.size)) H locs 0 0 26 [(0, .ref b), (1, .int a1), (2, .int a2), (3, .int a3), (4, .int a4)] [.int (bI y0), .ref b] := by
    intro μ0 y0 H locs hw hS hF
    refine x_iconst (0 : Int32) C dX12_addCall_26 rfl ?_
    exact h_J27 μ0 false y0 _ _ hw hS hF
  refine x_aload_n C dX12_addCall_0 rfl ?_
  refine x_aload_n C dX12_addCall_1 rfl ?_
  refine x_iload_n C dX12_addCall_2 rfl ?_
  obtain ⟨q1, hq2, hF⟩ := bnd_e hF
  have hq2 := Option.some.inj hq2
  have K3 := c_X12_isShip l D cA s0 b ν a1 
  rw [hq2] at K3
  refine x_goR (fun ls h => x_runV (As := [.int a1]) [.ref b] h C ml_X12_282 K3 ⟨rfl, rfl, nb rfl, nb rfl⟩ rfl (M_obj hw.2.2.2.2) rfl hw.2.2.2.2 (nb rfl) ⟨Nat.zero_le _, Nat.zero_le _⟩ dX12_addCall_3) ?_
  refine x_iload_n C dX12_addCall_6 rfl ?_
  refine x_iload_n C dX12_addCall_7 rfl ?_
  obtain ⟨q4, hq5, hF⟩ := bnd_e hF
  have hq5 := Option.some.inj hq5
  have K6 := c_X12_areDays l D cA s0 a2 a3 
  rw [hq5] at K6
  refine x_goR (fun ls h => x_runS (As := [.int a2, .int a3]) [.int (bI q1), .ref b] h C ml_X12_395 K6 ⟨rfl, rfl, nb rfl, nb rfl⟩ rfl trivial (nb rfl) ⟨Nat.zero_le _, Nat.zero_le _⟩ dX12_addCall_8) ?_
  refine x_ifB_eq 26 C dX12_addCall_11 (by decide) (fun c7 => ?_) (fun c7 => ?_)
  · have hF := ite_f hF (nbt c7)
    exact h_J26 ν q1 _ _ hw hS hF
  · have hF := ite_t hF c7
    refine x_iload C dX12_addCall_14 rfl ?_
    obtain ⟨q19, hq20, hF⟩ := bnd_e hF
    have hq20 := Option.some.inj hq20
    have K21 := c_X12_isWaste l D cA s0 a4 
    rw [hq20] at K21
    refine x_goR (fun ls h => x_runS (As := [.int a4]) [.int (bI q1), .ref b] h C ml_X12_276 K21 ⟨rfl, rfl, nb rfl, nb rfl⟩ rfl trivial (nb rfl) ⟨Nat.zero_le _, Nat.zero_le _⟩ dX12_addCall_16) ?_
    refine x_ifB_eq 26 C dX12_addCall_19 (by decide) (fun c22 => ?_) (fun c22 => ?_)
    · have hF := ite_f hF (nbt c22)
      exact h_J26 ν q1 _ _ hw hS hF
    · have hF := ite_t hF c22
      refine x_iconst (1 : Int32) C dX12_addCall_22 rfl ?_
      refine x_goto 27 C dX12_addCall_23 (by decide) ?_
      exact h_J27 ν true q1 _ _ hw hS hF
noncomputable def g_X12_cancel_L50 (ν : Mm) (a1 : Int32) : Nat → Mm → Int32 → Int32 → Option (Int32 × Mm)
  | 0, _, _, _ => none
  | n + 1, μ0, x2, x3 => (if (μ0.1 1 1) ≤ x3 then some (x2, μ0) else asr (vp_in a1 41) (bnd (some (f_X12_ofCall μ0 a1 (0 : Int32))) (fun q18 => asr (vp_in x3 41) (bnd (some (f_X12_isLive μ0 x3 q18)) (fun q22 => (if q22 = true then (g_X12_cancel_L50 ν a1 n μ0 (x2 + (1 : Int32)) (x3 + (1 : Int32))) else (g_X12_cancel_L50 ν a1 n μ0 (x2 + (0 : Int32)) (x3 + (1 : Int32)))))))))
noncomputable def g_X12_cancel_J27 (ν : Mm) (a1 : Int32) (μ0 : Mm) (y0 : Bool) (y1 : Bool) : Option (Int32 × Mm) := bnd (some (f_X12_passes2 μ0 y1 y0)) (fun q8 => (if q8.1 = true then bnd (g_X12_remember q8.2) (fun q12 => bnd (g_X12_setCall q12 a1 (4 : Int32) (1 : Int32)) (fun q14 => (g_X12_cancel_L50 ν a1 10000 q14 (0 : Int32) (0 : Int32)))) else some ((0 : Int32), q8.2)))
noncomputable def g_X12_cancel_J22 (ν : Mm) (a1 : Int32) (μ0 : Mm) (y0 : Bool) : Option (Int32 × Mm) := (g_X12_cancel_J27 ν a1 μ0 true y0)
noncomputable def g_X12_cancel (ν : Mm) (a1 : Int32) : Option (Int32 × Mm) := bnd (some (f_X12_isCall ν a1)) (fun q1 => bnd (some (f_X12_isCall ν a1)) (fun q4 => (if q4 = true then asr (OkR (ν.1 1)) (asr (vp_in a1 41) (bnd (some (f_X12_canCancel ν a1)) (fun q28 => (if q28 = true then (g_X12_cancel_J22 ν a1 ν q1) else (g_X12_cancel_J27 ν a1 ν false q1))))) else (g_X12_cancel_J22 ν a1 ν q1))))
set_option maxRecDepth 20000 in
set_option maxHeartbeats 4000000 in
theorem k_X12_cancel (l : Launch) (D : va_G) (cA : Nat → ClassId) (s0 : State) (z : Nat) (b : Nat) (ν : Mm) (sz : Nat) (hG : xG l D cA s0) (a1 : Int32) (r : Int32 × Mm) (hF : g_X12_cancel ν a1 = some r) : Met l yX12_cancel (wsG yX12_cancel cX12_cancel 4 (some (FieldType.int))) { frames := 3, cells := 0, slots := 0, locals := 66 } (xP D cA s0 [.ref b, .int a1] (fun H => H.size = sz ∧ RX D cA s0 z b ν H)) (xQm (some (.int r.1)) (fun H => RX D cA s0 z b r.2 H) (xA b 8 sz)) 0 0 (xA b 8 sz) := by
  refine x_start (own := RX12) [(0, .ref b), (1, .int a1)] rfl rfl (by decide) (nb rfl) ?_
  intro p e s m args below meth c C hw
  obtain ⟨hsz, hw⟩ := hw
  subst hsz
  have hS : va_S (xA b 8 s.heap.size) s.heap s.heap [] := va_S.rf
  have h_L50 : ∀ (n : Nat) (μ0 : Mm) (x2 : Int32) (x3 : Int32) (H : Heap) (locs : List Loc) (hw : RX D cA s0 z b μ0 H) (hS : va_S (xA b 8 s.heap.size) s.heap H locs), g_X12_cancel_L50 ν a1 n μ0 x2 x3 = some r → xW p l e { frames := 3, cells := 0, slots := 0, locals := 66 } s m args below meth c 4 (MQ below (xQm (some (.int r.1)) (fun H => RX D cA s0 z b r.2 H) (xA b 8 s.heap.size)) args s 0 0 (xA b 8 s.heap.size)) H locs 0 0 50 [(0, .ref b), (1, .int a1), (2, .int x2), (3, .int x3)] [] := by
    intro n
    induction n with
    | zero =>
      intro μ0 x2 x3 H locs hw hS hF
      exact no_some hF
    | succ n ih =>
      intro μ0 x2 x3 H locs hw hS hF
      have ih50 := ih
      refine x_iload_n C dX12_cancel_50 rfl ?_
      refine x_aload_n C dX12_cancel_51 rfl ?_
      refine x_get (.ref (b + 1)) C fl_X12_17 (M_obj hw.2.2.2.2) rfl dX12_cancel_52 ?_
      refine x_iconst (1 : Int32) C dX12_cancel_55 rfl ?_
      refine x_ialdN C (M_a1 hw.2.2.2.2) (ixl (x := (1 : Int32)) 1 rfl) (by decide) (by decide) dX12_cancel_56 ?_
      refine x_icmp_ge 88 C dX12_cancel_57 (by decide) (fun c16 => ?_) (fun c16 => ?_)
      · have hF := ite_t hF c16
        refine x_iload_n C dX12_cancel_88 rfl ?_
        exact x_iretM2 C rfl dX12_cancel_89  (rm_i hF) (rm_m (W := fun m => RX D cA s0 z b m _) hF hw) hS (nb rfl) (nb rfl)
      · have hF := ite_f hF c16
        refine x_iload_n C dX12_cancel_60 rfl ?_
        refine x_aload_n C dX12_cancel_61 rfl ?_
        refine x_iload_n C dX12_cancel_62 rfl ?_
        refine x_aload_n C dX12_cancel_63 rfl ?_
        refine x_iload_n C dX12_cancel_64 rfl ?_
        refine x_iconst (0 : Int32) C dX12_cancel_65 rfl ?_
        obtain ⟨h17, hF⟩ := asr_e hF
        obtain ⟨q18, hq19, hF⟩ := bnd_e hF
        have hq19 := Option.some.inj hq19
        have K20 := c_X12_ofCall l D cA s0 b μ0 a1 (0 : Int32) h17 (ixin (ixl (x := (0 : Int32)) 0 rfl) (by decide) (by decide))
        rw [hq19] at K20
        refine x_goR (fun ls h => x_runV (As := [.int a1, .int (0 : Int32)]) [.int x3, .ref b, .int x2] h C ml_X12_248 K20 ⟨rfl, rfl, nb rfl, nb rfl⟩ rfl (M_obj hw.2.2.2.2) rfl hw.2.2.2.2 (nb rfl) ⟨Nat.zero_le _, Nat.zero_le _⟩ dX12_cancel_66) ?_
        obtain ⟨h21, hF⟩ := asr_e hF
        obtain ⟨q22, hq23, hF⟩ := bnd_e hF
        have hq23 := Option.some.inj hq23
        have K24 := c_X12_isLive l D cA s0 b μ0 x3 q18 h21
        rw [hq23] at K24
        refine x_goR (fun ls h => x_runV (As := [.int x3, .int q18]) [.int x2] h C ml_X12_288 K24 ⟨rfl, rfl, nb rfl, nb rfl⟩ rfl (M_obj hw.2.2.2.2) rfl hw.2.2.2.2 (nb rfl) ⟨Nat.zero_le _, Nat.zero_le _⟩ dX12_cancel_69) ?_
        refine x_ifB_eq 79 C dX12_cancel_72 (by decide) (fun c25 => ?_) (fun c25 => ?_)
        · have hF := ite_f hF (nbt c25)
          refine x_iconst (0 : Int32) C dX12_cancel_79 rfl ?_
          refine x_iadd C dX12_cancel_80 ?_
          refine x_istore_n [(2, .int (x2 + (0 : Int32))), (0, .ref b), (1, .int a1), (3, .int x3)] C dX12_cancel_81 rfl (by decide) rfl ?_
          refine x_iinc (x3 + (1 : Int32)) [(3, .int (x3 + (1 : Int32))), (2, .int (x2 + (0 : Int32))), (0, .ref b), (1, .int a1)] C dX12_cancel_82 rfl rfl (by decide) rfl ?_
          refine x_goto 50 C dX12_cancel_85 (by decide) ?_
          refine x_sub [(0, .ref b), (1, .int a1), (2, .int (x2 + (0 : Int32))), (3, .int (x3 + (1 : Int32)))] [2, 3, 1, 0] rfl ?_
          exact ih50 μ0 (x2 + (0 : Int32)) (x3 + (1 : Int32)) _ _ hw hS hF
        · have hF := ite_t hF c25
          refine x_iconst (1 : Int32) C dX12_cancel_75 rfl ?_
          refine x_goto 80 C dX12_cancel_76 (by decide) ?_
          refine x_iadd C dX12_cancel_80 ?_
          refine x_istore_n [(2, .int (x2 + (1 : Int32))), (0, .ref b), (1, .int a1), (3, .int x3)] C dX12_cancel_81 rfl (by decide) rfl ?_
          refine x_iinc (x3 + (1 : Int32)) [(3, .int (x3 + (1 : Int32))), (2, .int (x2 + (1 : Int32))), (0, .ref b), (1, .int a1)] C dX12_cancel_82 rfl rfl (by decide) rfl ?_
          refine x_goto 50 C dX12_cancel_85 (by decide) ?_
          refine x_sub [(0, .ref b), (1, .int a1), (2, .int (x2 + (1 : Int32))), (3, .int (x3 + (1 : Int32)))] [2, 3, 1, 0] rfl ?_
          exact ih50 μ0 (x2 + (1 : Int32)) (x3 + (1 : Int32)) _ _ hw hS hF
  have h_J27 : ∀ (μ0 : Mm) (y0 : Bool) (y1 : Bool) (H : Heap) (locs : List Loc) (hw : RX D cA s0 z b μ0 H) (hS : va_S (xA b 8 s.heap.size) s.heap H locs), g_X12_cancel_J27 ν a1 μ0 y0 y1 = some r → xW p l e { frames := 3, cells := 0, slots := 0, locals := 66 } s m args below meth c 4 (MQ below (xQm (some (.int r.1)) (fun H => RX D cA s0 z b r.2 H) (xA b 8 s.heap.size)) args s 0 0 (xA b 8 s.heap.size)) H locs 0 0 27 [(0, .ref b), (1, .int a1)] [.int (bI y0), .int (bI y1), .ref b] := by
    intro μ0 y0 y1 H locs hw hS hF
    obtain ⟨q8, hq9, hF⟩ := bnd_e hF
    have hq9 := Option.some.inj hq9
    have K10 := c_X12_passes2 l D cA s0 b μ0 H.size y1 y0 
    rw [hq9] at K10
    have hwo := hw
    refine x_goM (fun ls h => x_runV (As := [.int (bI y1), .int (bI y0)]) [] h C ml_X12_263 K10 ⟨rfl, rfl, nb rfl, nb rfl⟩ rfl (M_obj hw.2.2.2.2) rfl ⟨rfl, hw.2.2.2.2⟩ (nb rfl) ⟨Nat.zero_le _, Nat.zero_le _⟩ dX12_cancel_27) hS (xA_le hS) (fun H locs hw hz hk hS => ?_)
    have hw : RX D cA s0 z b q8.2 H := RX.of hwo hw hz hk
    refine x_ifB_ne 35 C dX12_cancel_30 (by decide) (fun c11 => ?_) (fun c11 => ?_)
    · have hF := ite_t hF c11
      refine x_aload_n C dX12_cancel_35 rfl ?_
      obtain ⟨q12, hq13, hF⟩ := bnd_e hF
      refine x_goM (fun ls h => x_runV (As := []) [] h C ml_X12_231 (k_X12_remember l D cA s0 z b q8.2 _ hG q12 hq13) ⟨rfl, rfl, nb rfl, nb rfl⟩ rfl (M_obj hw.2.2.2.2) rfl ⟨rfl, hw⟩ (nb rfl) ⟨Nat.zero_le _, Nat.zero_le _⟩ dX12_cancel_36) hS (xA_le hS) (fun H locs hw hz hk hS => ?_)
      have hw : RX D cA s0 z b q12 H := hw
      refine x_aload_n C dX12_cancel_39 rfl ?_
      refine x_iload_n C dX12_cancel_40 rfl ?_
      refine x_iconst (4 : Int32) C dX12_cancel_41 rfl ?_
      refine x_iconst (1 : Int32) C dX12_cancel_42 rfl ?_
      obtain ⟨q14, hq15, hF⟩ := bnd_e hF
      refine x_goM (fun ls h => x_runV (As := [.int a1, .int (4 : Int32), .int (1 : Int32)]) [] h C ml_X12_401 (k_X12_setCall l D cA s0 z b q12 _ hG a1 (4 : Int32) (1 : Int32) q14 hq15) ⟨rfl, rfl, nb rfl, nb rfl⟩ rfl (M_obj hw.2.2.2.2) rfl ⟨rfl, hw⟩ (nb rfl) ⟨Nat.zero_le _, Nat.zero_le _⟩ dX12_cancel_43) hS (xA_le hS) (fun H locs hw hz hk hS => ?_)
      have hw : RX D cA s0 z b q14 H := hw
      refine x_iconst (0 : Int32) C dX12_cancel_46 rfl ?_
      refine x_istore_n [(2, .int (0 : Int32)), (0, .ref b), (1, .int a1)] C dX12_cancel_47 rfl (by decide) rfl ?_
      refine x_iconst (0 : Int32) C dX12_cancel_48 rfl ?_
      refine x_istore_n [(3, .int (0 : Int32)), (2, .int (0 : Int32)), (0, .ref b), (1, .int a1)] C dX12_cancel_49 rfl (by decide) rfl ?_
      refine x_sub [(0, .ref b), (1, .int a1), (2, .int (0 : Int32)), (3, .int (0 : Int32))] [2, 3, 1, 0] rfl ?_
      exact h_L50 10000 q14 (0 : Int32) (0 : Int32) _ _ hw hS hF
    · have hF := ite_f hF (nbt c11)
      refine x_iconst (0 : Int32) C dX12_cancel_33 rfl ?_
      exact x_iretM2 C rfl dX12_cancel_34  (rm_i hF) (rm_m (W := fun m => RX D cA s0 z b m _) hF hw) hS (nb rfl) (nb rfl)
  have h_J22 : ∀ (μ0 : Mm) (y0 : Bool) (H : Heap) (locs : List Loc) (hw : RX D cA s0 z b μ0 H) (hS : va_S (xA b 8 s.heap.size) s.heap H locs), g_X12_cancel_J22 ν a1 μ0 y0 = some r → xW p l e { frames := 3, cells := 0, slots := 0, locals := 66 } s m args below meth c 4 (MQ below (xQm (some (.int r.1)) (fun H => RX D cA s0 z b r.2 H) (xA b 8 s.heap.size)) args s 0 0 (xA b 8 s.heap.size)) H locs 0 0 22 [(0, .ref b), (1, .int a1)] [.int (bI y0), .ref b] := by
    intro μ0 y0 H locs hw hS hF
    refine x_iconst (1 : Int32) C dX12_cancel_22 rfl ?_
    refine x_goto 27 C dX12_cancel_23 (by decide) ?_
    exact h_J27 μ0 true y0 _ _ hw hS hF
  refine x_aload_n C dX12_cancel_0 rfl ?_
  refine x_aload_n C dX12_cancel_1 rfl ?_
  refine x_iload_n C dX12_cancel_2 rfl ?_
  obtain ⟨q1, hq2, hF⟩ := bnd_e hF
  have hq2 := Option.some.inj hq2
  have K3 := c_X12_isCall l D cA s0 b ν a1 
  rw [hq2] at K3
  refine x_goR (fun ls h => x_runV (As := [.int a1]) [.ref b] h C ml_X12_345 K3 ⟨rfl, rfl, nb rfl, nb rfl⟩ rfl (M_obj hw.2.2.2.2) rfl hw.2.2.2.2 (nb rfl) ⟨Nat.zero_le _, Nat.zero_le _⟩ dX12_cancel_3) ?_
  refine x_aload_n C dX12_cancel_6 rfl ?_
  refine x_iload_n C dX12_cancel_7 rfl ?_
  obtain ⟨q4, hq5, hF⟩ := bnd_e hF
  have hq5 := Option.some.inj hq5
  have K6 := c_X12_isCall l D cA s0 b ν a1 
  rw [hq5] at K6
  refine x_goR (fun ls h => x_runV (As := [.int a1]) [.int (bI q1), .ref b] h C ml_X12_345 K6 ⟨rfl, rfl, nb rfl, nb rfl⟩ rfl (M_obj hw.2.2.2.2) rfl hw.2.2.2.2 (nb rfl) ⟨Nat.zero_le _, Nat.zero_le _⟩ dX12_cancel_8) ?_
  refine x_ifB_eq 22 C dX12_cancel_11 (by decide) (fun c7 => ?_) (fun c7 => ?_)
  · have hF := ite_f hF (nbt c7)
    exact h_J22 ν q1 _ _ hw hS hF
  · have hF := ite_t hF c7
    refine x_aload_n C dX12_cancel_14 rfl ?_
    refine x_iload_n C dX12_cancel_15 rfl ?_
    obtain ⟨h26, hF⟩ := asr_e hF
    obtain ⟨h27, hF⟩ := asr_e hF
    obtain ⟨q28, hq29, hF⟩ := bnd_e hF
    have hq29 := Option.some.inj hq29
    have K30 := c_X12_canCancel l D cA s0 b ν h26 a1 h27
    rw [hq29] at K30
    refine x_goR (fun ls h => x_runV (As := [.int a1]) [.int (bI q1), .ref b] h C ml_X12_411 K30 ⟨rfl, rfl, nb rfl, nb rfl⟩ rfl (M_obj hw.2.2.2.2) rfl hw.2.2.2.2 (nb rfl) ⟨Nat.zero_le _, Nat.zero_le _⟩ dX12_cancel_16) ?_
    refine x_ifB_eq 26 C dX12_cancel_19 (by decide) (fun c31 => ?_) (fun c31 => ?_)
    · have hF := ite_f hF (nbt c31)
      refine x_iconst (0 : Int32) C dX12_cancel_26 rfl ?_
      exact h_J27 ν false q1 _ _ hw hS hF
    · have hF := ite_t hF c31
      exact h_J22 ν q1 _ _ hw hS hF
noncomputable def g_X12_change (ν : Mm) (a1 : Int32) (a2 : Int32) : Option (Int32 × Mm) := bnd (g_X12_remember ν) (fun q1 => asr (vp_in a1 1377) (bnd (some (uI q1 1 (cl a1) a2)) (fun μ6 => some (q1.1 1 (cl a1), μ6))))
set_option maxRecDepth 20000 in
set_option maxHeartbeats 4000000 in
theorem k_X12_change (l : Launch) (D : va_G) (cA : Nat → ClassId) (s0 : State) (z : Nat) (b : Nat) (ν : Mm) (sz : Nat) (hG : xG l D cA s0) (a1 : Int32) (a2 : Int32) (r : Int32 × Mm) (hF : g_X12_change ν a1 a2 = some r) : Met l yX12_change (wsG yX12_change cX12_change 4 (some (FieldType.int))) { frames := 1, cells := 0, slots := 0, locals := 21 } (xP D cA s0 [.ref b, .int a1, .int a2] (fun H => H.size = sz ∧ RX D cA s0 z b ν H)) (xQm (some (.int r.1)) (fun H => RX D cA s0 z b r.2 H) (xA b 8 sz)) 0 0 (xA b 8 sz) := by
  refine x_start (own := RX12) [(0, .ref b), (1, .int a1), (2, .int a2)] rfl rfl (by decide) (nb rfl) ?_
  intro p e s m args below meth c C hw
  obtain ⟨hsz, hw⟩ := hw
  subst hsz
  have hS : va_S (xA b 8 s.heap.size) s.heap s.heap [] := va_S.rf
  refine x_aload_n C dX12_change_0 rfl ?_
  obtain ⟨q1, hq2, hF⟩ := bnd_e hF
  refine x_goM (fun ls h => x_runV (As := []) [] h C ml_X12_231 (k_X12_remember l D cA s0 z b ν _ hG q1 hq2) ⟨rfl, rfl, nb rfl, nb rfl⟩ rfl (M_obj hw.2.2.2.2) rfl ⟨rfl, hw⟩ (nb rfl) ⟨Nat.zero_le _, Nat.zero_le _⟩ dX12_change_1) hS (xA_le hS) (fun H locs hw hz hk hS => ?_)
  have hw : RX D cA s0 z b q1 H := hw
  refine x_aload_n C dX12_change_4 rfl ?_
  refine x_get (.ref (b + 1)) C fl_X12_17 (M_obj hw.2.2.2.2) rfl dX12_change_5 ?_
  refine x_iload_n C dX12_change_8 rfl ?_
  obtain ⟨h3, hF⟩ := asr_e hF
  obtain ⟨hn4, hl5⟩ := vpn h3 (by decide)
  refine x_ialdN C (M_a1 hw.2.2.2.2) hn4 hl5 (by decide) dX12_change_9 ?_
  refine x_istore_n [(3, .int (q1.1 1 (cl a1))), (0, .ref b), (1, .int a1), (2, .int a2)] C dX12_change_10 rfl (by decide) rfl ?_
  refine x_aload_n C dX12_change_11 rfl ?_
  refine x_get (.ref (b + 1)) C fl_X12_17 (M_obj hw.2.2.2.2) rfl dX12_change_12 ?_
  refine x_iload_n C dX12_change_15 rfl ?_
  refine x_iload_n C dX12_change_16 rfl ?_
  refine m_iast 1 C hw (by decide) (fun _ => rfl) hn4 hl5 (by decide) dX12_change_17 hS (fun H locs hw hS => ?_)
  obtain ⟨μ6, hm7, hF⟩ := bnd_e hF
  have hw : RX D cA s0 z b μ6 H := rv_m (W := fun m => RX D cA s0 z b m _) hm7 hw
  refine x_iload_n C dX12_change_18 rfl ?_
  exact x_iretM2 C rfl dX12_change_19  (rm_i hF) (rm_m (W := fun m => RX D cA s0 z b m _) hF hw) hS (nb rfl) (nb rfl)
noncomputable def g_X12_setWaste (ν : Mm) (a1 : Int32) (a2 : Int32) : Option (Int32 × Mm) := bnd (some (f_X12_isCall ν a1)) (fun q1 => bnd (some (f_X12_isWaste a2)) (fun q4 => bnd (some (f_X12_passes2 ν q1 q4)) (fun q7 => (if q7.1 = true then bnd (g_X12_change q7.2 (((330 : Int32) + ((7 : Int32) * a1)) + (3 : Int32)) a2) (fun q11 => some (q11.1, q11.2)) else some ((0 : Int32), q7.2)))))
set_option maxRecDepth 20000 in
set_option maxHeartbeats 4000000 in
theorem k_X12_setWaste (l : Launch) (D : va_G) (cA : Nat → ClassId) (s0 : State) (z : Nat) (b : Nat) (ν : Mm) (sz : Nat) (hG : xG l D cA s0) (a1 : Int32) (a2 : Int32) (r : Int32 × Mm) (hF : g_X12_setWaste ν a1 a2 = some r) : Met l yX12_setWaste (wsG yX12_setWaste cX12_setWaste 3 (some (FieldType.int))) { frames := 2, cells := 0, slots := 0, locals := 46 } (xP D cA s0 [.ref b, .int a1, .int a2] (fun H => H.size = sz ∧ RX D cA s0 z b ν H)) (xQm (some (.int r.1)) (fun H => RX D cA s0 z b r.2 H) (xA b 8 sz)) 0 0 (xA b 8 sz) := by
  refine x_start (own := RX12) [(0, .ref b), (1, .int a1), (2, .int a2)] rfl rfl (by decide) (nb rfl) ?_
  intro p e s m args below meth c C hw
  obtain ⟨hsz, hw⟩ := hw
  subst hsz
  have hS : va_S (xA b 8 s.heap.size) s.heap s.heap [] := va_S.rf
  refine x_aload_n C dX12_setWaste_0 rfl ?_
  refine x_aload_n C dX12_setWaste_1 rfl ?_
  refine x_iload_n C dX12_setWaste_2 rfl ?_
  obtain ⟨q1, hq2, hF⟩ := bnd_e hF
  have hq2 := Option.some.inj hq2
  have K3 := c_X12_isCall l D cA s0 b ν a1 
  rw [hq2] at K3
  refine x_goR (fun ls h => x_runV (As := [.int a1]) [.ref b] h C ml_X12_345 K3 ⟨rfl, rfl, nb rfl, nb rfl⟩ rfl (M_obj hw.2.2.2.2) rfl hw.2.2.2.2 (nb rfl) ⟨Nat.zero_le _, Nat.zero_le _⟩ dX12_setWaste_3) ?_
  refine x_iload_n C dX12_setWaste_6 rfl ?_
  obtain ⟨q4, hq5, hF⟩ := bnd_e hF
  have hq5 := Option.some.inj hq5
  have K6 := c_X12_isWaste l D cA s0 a2 
  rw [hq5] at K6
  refine x_goR (fun ls h => x_runS (As := [.int a2]) [.int (bI q1), .ref b] h C ml_X12_276 K6 ⟨rfl, rfl, nb rfl, nb rfl⟩ rfl trivial (nb rfl) ⟨Nat.zero_le _, Nat.zero_le _⟩ dX12_setWaste_7) ?_
  obtain ⟨q7, hq8, hF⟩ := bnd_e hF
  have hq8 := Option.some.inj hq8
  have K9 := c_X12_passes2 l D cA s0 b ν s.heap.size q1 q4 
  rw [hq8] at K9
  have hwo := hw
  refine x_goM (fun ls h => x_runV (As := [.int (bI q1), .int (bI q4)]) [] h C ml_X12_263 K9 ⟨rfl, rfl, nb rfl, nb rfl⟩ rfl (M_obj hw.2.2.2.2) rfl ⟨rfl, hw.2.2.2.2⟩ (nb rfl) ⟨Nat.zero_le _, Nat.zero_le _⟩ dX12_setWaste_10) hS (xA_le hS) (fun H locs hw hz hk hS => ?_)
  have hw : RX D cA s0 z b q7.2 H := RX.of hwo hw hz hk
  refine x_ifB_eq 34 C dX12_setWaste_13 (by decide) (fun c10 => ?_) (fun c10 => ?_)
  · have hF := ite_f hF (nbt c10)
    refine x_iconst (0 : Int32) C dX12_setWaste_34 rfl ?_
    exact x_iretM2 C rfl dX12_setWaste_35  (rm_i hF) (rm_m (W := fun m => RX D cA s0 z b m _) hF hw) hS (nb rfl) (nb rfl)
  · have hF := ite_t hF c10
    refine x_aload_n C dX12_setWaste_16 rfl ?_
    refine x_sipush (330 : Int32) C dX12_setWaste_17 rfl ?_
    refine x_bipush (7 : Int32) C dX12_setWaste_20 rfl ?_
    refine x_iload_n C dX12_setWaste_22 rfl ?_
    refine x_imul C dX12_setWaste_23 ?_
    refine x_iadd C dX12_setWaste_24 ?_
    refine x_iconst (3 : Int32) C dX12_setWaste_25 rfl ?_
    refine x_iadd C dX12_setWaste_26 ?_
    refine x_iload_n C dX12_setWaste_27 rfl ?_
    obtain ⟨q11, hq12, hF⟩ := bnd_e hF
    refine x_goM (fun ls h => x_runV (As := [.int (((330 : Int32) + ((7 : Int32) * a1)) + (3 : Int32)), .int a2]) [] h C ml_X12_414 (k_X12_change l D cA s0 z b q7.2 _ hG (((330 : Int32) + ((7 : Int32) * a1)) + (3 : Int32)) a2 q11 hq12) ⟨rfl, rfl, nb rfl, nb rfl⟩ rfl (M_obj hw.2.2.2.2) rfl ⟨rfl, hw⟩ (nb rfl) ⟨Nat.zero_le _, Nat.zero_le _⟩ dX12_setWaste_28) hS (xA_le hS) (fun H locs hw hz hk hS => ?_)
    have hw : RX D cA s0 z b q11.2 H := hw
    refine x_goto 35 C dX12_setWaste_31 (by decide) ?_
    exact x_iretM2 C rfl dX12_setWaste_35  (rm_i hF) (rm_m (W := fun m => RX D cA s0 z b m _) hF hw) hS (nb rfl) (nb rfl)
noncomputable def g_X12_setTons (ν : Mm) (a1 : Int32) (a2 : Int32) : Option (Int32 × Mm) := bnd (some (f_X12_isShip ν a1)) (fun q1 => bnd (some (f_X12_in a2.toInt64 (1 : Int64) (9999 : Int64))) (fun q4 => bnd (some (f_X12_passes2 ν q1 q4)) (fun q7 => (if q7.1 = true then bnd (g_X12_change q7.2 (((274 : Int32) + ((7 : Int32) * a1)) + (0 : Int32)) a2) (fun q11 => some (q11.1, q11.2)) else some ((0 : Int32), q7.2)))))
set_option maxRecDepth 20000 in
set_option maxHeartbeats 4000000 in
theorem k_X12_setTons (l : Launch) (D : va_G) (cA : Nat → ClassId) (s0 : State) (z : Nat) (b : Nat) (ν : Mm) (sz : Nat) (hG : xG l D cA s0) (a1 : Int32) (a2 : Int32) (r : Int32 × Mm) (hF : g_X12_setTons ν a1 a2 = some r) : Met l yX12_setTons (wsG yX12_setTons cX12_setTons 3 (some (FieldType.int))) { frames := 2, cells := 0, slots := 0, locals := 46 } (xP D cA s0 [.ref b, .int a1, .int a2] (fun H => H.size = sz ∧ RX D cA s0 z b ν H)) (xQm (some (.int r.1)) (fun H => RX D cA s0 z b r.2 H) (xA b 8 sz)) 0 0 (xA b 8 sz) := by
  refine x_start (own := RX12) [(0, .ref b), (1, .int a1), (2, .int a2)] rfl rfl (by decide) (nb rfl) ?_
  intro p e s m args below meth c C hw
  obtain ⟨hsz, hw⟩ := hw
  subst hsz
  have hS : va_S (xA b 8 s.heap.size) s.heap s.heap [] := va_S.rf
  refine x_aload_n C dX12_setTons_0 rfl ?_
  refine x_aload_n C dX12_setTons_1 rfl ?_
  refine x_iload_n C dX12_setTons_2 rfl ?_
  obtain ⟨q1, hq2, hF⟩ := bnd_e hF
  have hq2 := Option.some.inj hq2
  have K3 := c_X12_isShip l D cA s0 b ν a1 
  rw [hq2] at K3
  refine x_goR (fun ls h => x_runV (As := [.int a1]) [.ref b] h C ml_X12_282 K3 ⟨rfl, rfl, nb rfl, nb rfl⟩ rfl (M_obj hw.2.2.2.2) rfl hw.2.2.2.2 (nb rfl) ⟨Nat.zero_le _, Nat.zero_le _⟩ dX12_setTons_3) ?_
  refine x_iload_n C dX12_setTons_6 rfl ?_
  refine x_i2l C dX12_setTons_7 ?_
  refine x_lconst (1 : Int64) C dX12_setTons_8 rfl ?_
  refine x_ldc2 (9999 : Int64) C cl_X12_51 dX12_setTons_9 ?_
  obtain ⟨q4, hq5, hF⟩ := bnd_e hF
  have hq5 := Option.some.inj hq5
  have K6 := c_X12_in l D cA s0 a2.toInt64 (1 : Int64) (9999 : Int64) 
  rw [hq5] at K6
  refine x_goR (fun ls h => x_runS (As := [.long a2.toInt64, .long (1 : Int64), .long (9999 : Int64)]) [.int (bI q1), .ref b] h C ml_X12_47 K6 ⟨rfl, rfl, nb rfl, nb rfl⟩ rfl trivial (nb rfl) ⟨Nat.zero_le _, Nat.zero_le _⟩ dX12_setTons_12) ?_
  obtain ⟨q7, hq8, hF⟩ := bnd_e hF
  have hq8 := Option.some.inj hq8
  have K9 := c_X12_passes2 l D cA s0 b ν s.heap.size q1 q4 
  rw [hq8] at K9
  have hwo := hw
  refine x_goM (fun ls h => x_runV (As := [.int (bI q1), .int (bI q4)]) [] h C ml_X12_263 K9 ⟨rfl, rfl, nb rfl, nb rfl⟩ rfl (M_obj hw.2.2.2.2) rfl ⟨rfl, hw.2.2.2.2⟩ (nb rfl) ⟨Nat.zero_le _, Nat.zero_le _⟩ dX12_setTons_15) hS (xA_le hS) (fun H locs hw hz hk hS => ?_)
  have hw : RX D cA s0 z b q7.2 H := RX.of hwo hw hz hk
  refine x_ifB_eq 39 C dX12_setTons_18 (by decide) (fun c10 => ?_) (fun c10 => ?_)
  · have hF := ite_f hF (nbt c10)
    refine x_iconst (0 : Int32) C dX12_setTons_39 rfl ?_
    exact x_iretM2 C rfl dX12_setTons_40  (rm_i hF) (rm_m (W := fun m => RX D cA s0 z b m _) hF hw) hS (nb rfl) (nb rfl)
  · have hF := ite_t hF c10
    refine x_aload_n C dX12_setTons_21 rfl ?_
    refine x_sipush (274 : Int32) C dX12_setTons_22 rfl ?_
    refine x_bipush (7 : Int32) C dX12_setTons_25 rfl ?_
    refine x_iload_n C dX12_setTons_27 rfl ?_
    refine x_imul C dX12_setTons_28 ?_
    refine x_iadd C dX12_setTons_29 ?_
    refine x_iconst (0 : Int32) C dX12_setTons_30 rfl ?_
    refine x_iadd C dX12_setTons_31 ?_
    refine x_iload_n C dX12_setTons_32 rfl ?_
    obtain ⟨q11, hq12, hF⟩ := bnd_e hF
    refine x_goM (fun ls h => x_runV (As := [.int (((274 : Int32) + ((7 : Int32) * a1)) + (0 : Int32)), .int a2]) [] h C ml_X12_414 (k_X12_change l D cA s0 z b q7.2 _ hG (((274 : Int32) + ((7 : Int32) * a1)) + (0 : Int32)) a2 q11 hq12) ⟨rfl, rfl, nb rfl, nb rfl⟩ rfl (M_obj hw.2.2.2.2) rfl ⟨rfl, hw⟩ (nb rfl) ⟨Nat.zero_le _, Nat.zero_le _⟩ dX12_setTons_33) hS (xA_le hS) (fun H locs hw hz hk hS => ?_)
    have hw : RX D cA s0 z b q11.2 H := hw
    refine x_goto 40 C dX12_setTons_36 (by decide) ?_
    exact x_iretM2 C rfl dX12_setTons_40  (rm_i hF) (rm_m (W := fun m => RX D cA s0 z b m _) hF hw) hS (nb rfl) (nb rfl)
noncomputable def g_X12_billNow_L50 (ν : Mm) (a1 : Int32) : Nat → Mm → Int32 → Int32 → Int32 → Option (Int32 × Mm)
  | 0, _, _, _, _ => none
  | n + 1, μ0, x4, x5, x6 => (if (3 : Int32) ≤ x6 then bnd (some (f_X12_version μ0)) (fun q11 => asr (vp_in q11 21) (bnd (some (f_X12_layOf μ0 x4 q11)) (fun q15 => asr (vp_in ((((617 : Int32) + ((10 : Int32) * (ν.1 1 2))) + (6 : Int32)) + (3 : Int32)) 1377) (bnd (some (uI μ0 1 (cl ((((617 : Int32) + ((10 : Int32) * (ν.1 1 2))) + (6 : Int32)) + (3 : Int32))) q15)) (fun μ21 => asr (vp_in (((617 : Int32) + ((10 : Int32) * (ν.1 1 2))) + (0 : Int32)) 1377) (bnd (some (uI μ21 1 (cl (((617 : Int32) + ((10 : Int32) * (ν.1 1 2))) + (0 : Int32))) a1)) (fun μ26 => asr (vp_in (((617 : Int32) + ((10 : Int32) * (ν.1 1 2))) + (1 : Int32)) 1377) (bnd (some (uI μ26 1 (cl (((617 : Int32) + ((10 : Int32) * (ν.1 1 2))) + (1 : Int32))) (μ26.1 1 5))) (fun μ31 => bnd (some (f_X12_version μ31)) (fun q33 => asr (vp_in (((617 : Int32) + ((10 : Int32) * (ν.1 1 2))) + (2 : Int32)) 1377) (bnd (some (uI μ31 1 (cl (((617 : Int32) + ((10 : Int32) * (ν.1 1 2))) + (2 : Int32))) q33)) (fun μ39 => asr (vp_in (((617 : Int32) + ((10 : Int32) * (ν.1 1 2))) + (3 : Int32)) 1377) (bnd (some (uI μ39 1 (cl (((617 : Int32) + ((10 : Int32) * (ν.1 1 2))) + (3 : Int32))) x5)) (fun μ44 => asr (vp_in (((617 : Int32) + ((10 : Int32) * (ν.1 1 2))) + (4 : Int32)) 1377) (bnd (some (uI μ44 1 (cl (((617 : Int32) + ((10 : Int32) * (ν.1 1 2))) + (4 : Int32))) (0 : Int32))) (fun μ49 => asr (vp_in (((617 : Int32) + ((10 : Int32) * (ν.1 1 2))) + (5 : Int32)) 1377) (bnd (some (uI μ49 1 (cl (((617 : Int32) + ((10 : Int32) * (ν.1 1 2))) + (5 : Int32))) x4)) (fun μ54 => bnd (some (uI μ54 1 2 ((μ54.1 1 2) + (1 : Int32)))) (fun μ56 => some (ν.1 1 2, μ56)))))))))))))))))))) else bnd (some (f_X12_has x5 x6)) (fun q58 => (if q58 = true then bnd (some (f_X12_version μ0)) (fun q67 => asr (OkR (μ0.1 1)) (asr (vp_in a1 41) (asr (vp_in q67 21) (bnd (some (f_X12_callLine μ0 a1 x6 q67)) (fun q73 => asr (vp_in ((((617 : Int32) + ((10 : Int32) * (ν.1 1 2))) + (6 : Int32)) + x6) 1377) (bnd (some (uI μ0 1 (cl ((((617 : Int32) + ((10 : Int32) * (ν.1 1 2))) + (6 : Int32)) + x6)) q73)) (fun μ79 => (g_X12_billNow_L50 ν a1 n μ79 x4 x5 (x6 + (1 : Int32)))))))))) else asr (vp_in ((((617 : Int32) + ((10 : Int32) * (ν.1 1 2))) + (6 : Int32)) + x6) 1377) (bnd (some (uI μ0 1 (cl ((((617 : Int32) + ((10 : Int32) * (ν.1 1 2))) + (6 : Int32)) + x6)) (0 : Int32))) (fun μ65 => (g_X12_billNow_L50 ν a1 n μ65 x4 x5 (x6 + (1 : Int32))))))))
noncomputable def g_X12_billNow (ν : Mm) (a1 : Int32) : Option (Int32 × Mm) := asr (OkR (ν.1 1)) (asr (vp_in a1 41) (bnd (some (f_X12_billableSet ν a1)) (fun q3 => bnd (some (f_X12_billedSet ν a1)) (fun q6 => (if q3 = 0 then (g_X12_billNow_L50 ν a1 10000 ν q3 (((7 : Int32) &&& (q6 ^^^ (-1 : Int32))) ||| (0 : Int32)) (0 : Int32)) else (g_X12_billNow_L50 ν a1 10000 ν q3 (((7 : Int32) &&& (q6 ^^^ (-1 : Int32))) ||| (8 : Int32)) (0 : Int32)))))))
set_option maxRecDepth 20000 in
set_option maxHeartbeats 4000000 in
theorem k_X12_billNow (l : Launch) (D : va_G) (cA : Nat → ClassId) (s0 : State) (z : Nat) (b : Nat) (ν : Mm) (sz : Nat) (hG : xG l D cA s0) (a1 : Int32) (r : Int32 × Mm) (hF : g_X12_billNow ν a1 = some r) : Met l yX12_billNow (wsG yX12_billNow cX12_billNow 7 (some (FieldType.int))) { frames := 5, cells := 0, slots := 0, locals := 117 } (xP D cA s0 [.ref b, .int a1] (fun H => H.size = sz ∧ RX D cA s0 z b ν H)) (xQm (some (.int r.1)) (fun H => RX D cA s0 z b r.2 H) (xA b 8 sz)) 0 0 (xA b 8 sz) := by
  refine x_start (own := RX12) [(0, .ref b), (1, .int a1)] rfl rfl (by decide) (nb rfl) ?_
  intro p e s m args below meth c C hw
  obtain ⟨hsz, hw⟩ := hw
  subst hsz
  have hS : va_S (xA b 8 s.heap.size) s.heap s.heap [] := va_S.rf
  have h_L50 : ∀ (n : Nat) (μ0 : Mm) (x4 : Int32) (x5 : Int32) (x6 : Int32) (H : Heap) (locs : List Loc) (hw : RX D cA s0 z b μ0 H) (hS : va_S (xA b 8 s.heap.size) s.heap H locs), g_X12_billNow_L50 ν a1 n μ0 x4 x5 x6 = some r → xW p l e { frames := 5, cells := 0, slots := 0, locals := 117 } s m args below meth c 7 (MQ below (xQm (some (.int r.1)) (fun H => RX D cA s0 z b r.2 H) (xA b 8 s.heap.size)) args s 0 0 (xA b 8 s.heap.size)) H locs 0 0 50 [(0, .ref b), (1, .int a1), (2, .int (ν.1 1 2)), (3, .int ((617 : Int32) + ((10 : Int32) * (ν.1 1 2)))), (4, .int x4), (5, .int x5), (6, .int x6)] [] := by
    intro n
    induction n with
    | zero =>
      intro μ0 x4 x5 x6 H locs hw hS hF
      exact no_some hF
    | succ n ih =>
      intro μ0 x4 x5 x6 H locs hw hS hF
      have ih50 := ih
      refine x_iload C dX12_billNow_50 rfl ?_
      refine x_iconst (3 : Int32) C dX12_billNow_52 rfl ?_
      refine x_icmp_ge 99 C dX12_billNow_53 (by decide) (fun c10 => ?_) (fun c10 => ?_)
      · have hF := ite_t hF c10
        refine x_aload_n C dX12_billNow_99 rfl ?_
        refine x_get (.ref (b + 1)) C fl_X12_17 (M_obj hw.2.2.2.2) rfl dX12_billNow_100 ?_
        refine x_iload_n C dX12_billNow_103 rfl ?_
        refine x_bipush (6 : Int32) C dX12_billNow_104 rfl ?_
        refine x_iadd C dX12_billNow_106 ?_
        refine x_iconst (3 : Int32) C dX12_billNow_107 rfl ?_
        refine x_iadd C dX12_billNow_108 ?_
        refine x_aload_n C dX12_billNow_109 rfl ?_
        refine x_iload C dX12_billNow_110 rfl ?_
        refine x_aload_n C dX12_billNow_112 rfl ?_
        obtain ⟨q11, hq12, hF⟩ := bnd_e hF
        have hq12 := Option.some.inj hq12
        have K13 := c_X12_version l D cA s0 b μ0 
        rw [hq12] at K13
        refine x_goR (fun ls h => x_runV (As := []) [.int x4, .ref b, .int ((((617 : Int32) + ((10 : Int32) * (ν.1 1 2))) + (6 : Int32)) + (3 : Int32)), .ref (b + 1)] h C ml_X12_256 K13 ⟨rfl, rfl, nb rfl, nb rfl⟩ rfl (M_obj hw.2.2.2.2) rfl hw.2.2.2.2 (nb rfl) ⟨Nat.zero_le _, Nat.zero_le _⟩ dX12_billNow_113) ?_
        obtain ⟨h14, hF⟩ := asr_e hF
        obtain ⟨q15, hq16, hF⟩ := bnd_e hF
        have hq16 := Option.some.inj hq16
        have K17 := c_X12_layOf l D cA s0 b μ0 x4 q11 h14
        rw [hq16] at K17
        refine x_goR (fun ls h => x_runV (As := [.int x4, .int q11]) [.int ((((617 : Int32) + ((10 : Int32) * (ν.1 1 2))) + (6 : Int32)) + (3 : Int32)), .ref (b + 1)] h C ml_X12_330 K17 ⟨rfl, rfl, nb rfl, nb rfl⟩ rfl (M_obj hw.2.2.2.2) rfl hw.2.2.2.2 (nb rfl) ⟨Nat.zero_le _, Nat.zero_le _⟩ dX12_billNow_116) ?_
        obtain ⟨h18, hF⟩ := asr_e hF
        obtain ⟨hn19, hl20⟩ := vpn h18 (by decide)
        refine m_iast 1 C hw (by decide) (fun _ => rfl) hn19 hl20 (by decide) dX12_billNow_119 hS (fun H locs hw hS => ?_)
        obtain ⟨μ21, hm22, hF⟩ := bnd_e hF
        have hw : RX D cA s0 z b μ21 H := rv_m (W := fun m => RX D cA s0 z b m _) hm22 hw
        refine x_aload_n C dX12_billNow_120 rfl ?_
        refine x_get (.ref (b + 1)) C fl_X12_17 (M_obj hw.2.2.2.2) rfl dX12_billNow_121 ?_
        refine x_iload_n C dX12_billNow_124 rfl ?_
        refine x_iconst (0 : Int32) C dX12_billNow_125 rfl ?_
        refine x_iadd C dX12_billNow_126 ?_
        refine x_iload_n C dX12_billNow_127 rfl ?_
        obtain ⟨h23, hF⟩ := asr_e hF
        obtain ⟨hn24, hl25⟩ := vpn h23 (by decide)
        refine m_iast 1 C hw (by decide) (fun _ => rfl) hn24 hl25 (by decide) dX12_billNow_128 hS (fun H locs hw hS => ?_)
        obtain ⟨μ26, hm27, hF⟩ := bnd_e hF
        have hw : RX D cA s0 z b μ26 H := rv_m (W := fun m => RX D cA s0 z b m _) hm27 hw
        refine x_aload_n C dX12_billNow_129 rfl ?_
        refine x_get (.ref (b + 1)) C fl_X12_17 (M_obj hw.2.2.2.2) rfl dX12_billNow_130 ?_
        refine x_iload_n C dX12_billNow_133 rfl ?_
        refine x_iconst (1 : Int32) C dX12_billNow_134 rfl ?_
        refine x_iadd C dX12_billNow_135 ?_
        refine x_aload_n C dX12_billNow_136 rfl ?_
        refine x_get (.ref (b + 1)) C fl_X12_17 (M_obj hw.2.2.2.2) rfl dX12_billNow_137 ?_
        refine x_iconst (5 : Int32) C dX12_billNow_140 rfl ?_
        refine x_ialdN C (M_a1 hw.2.2.2.2) (ixl (x := (5 : Int32)) 5 rfl) (by decide) (by decide) dX12_billNow_141 ?_
        obtain ⟨h28, hF⟩ := asr_e hF
        obtain ⟨hn29, hl30⟩ := vpn h28 (by decide)
        refine m_iast 1 C hw (by decide) (fun _ => rfl) hn29 hl30 (by decide) dX12_billNow_142 hS (fun H locs hw hS => ?_)
        obtain ⟨μ31, hm32, hF⟩ := bnd_e hF
        have hw : RX D cA s0 z b μ31 H := rv_m (W := fun m => RX D cA s0 z b m _) hm32 hw
        refine x_aload_n C dX12_billNow_143 rfl ?_
        refine x_get (.ref (b + 1)) C fl_X12_17 (M_obj hw.2.2.2.2) rfl dX12_billNow_144 ?_
        refine x_iload_n C dX12_billNow_147 rfl ?_
        refine x_iconst (2 : Int32) C dX12_billNow_148 rfl ?_
        refine x_iadd C dX12_billNow_149 ?_
        refine x_aload_n C dX12_billNow_150 rfl ?_
        obtain ⟨q33, hq34, hF⟩ := bnd_e hF
        have hq34 := Option.some.inj hq34
        have K35 := c_X12_version l D cA s0 b μ31 
        rw [hq34] at K35
        refine x_goR (fun ls h => x_runV (As := []) [.int (((617 : Int32) + ((10 : Int32) * (ν.1 1 2))) + (2 : Int32)), .ref (b + 1)] h C ml_X12_256 K35 ⟨rfl, rfl, nb rfl, nb rfl⟩ rfl (M_obj hw.2.2.2.2) rfl hw.2.2.2.2 (nb rfl) ⟨Nat.zero_le _, Nat.zero_le _⟩ dX12_billNow_151) ?_
        obtain ⟨h36, hF⟩ := asr_e hF
        obtain ⟨hn37, hl38⟩ := vpn h36 (by decide)
        refine m_iast 1 C hw (by decide) (fun _ => rfl) hn37 hl38 (by decide) dX12_billNow_154 hS (fun H locs hw hS => ?_)
        obtain ⟨μ39, hm40, hF⟩ := bnd_e hF
        have hw : RX D cA s0 z b μ39 H := rv_m (W := fun m => RX D cA s0 z b m _) hm40 hw
        refine x_aload_n C dX12_billNow_155 rfl ?_
        refine x_get (.ref (b + 1)) C fl_X12_17 (M_obj hw.2.2.2.2) rfl dX12_billNow_156 ?_
        refine x_iload_n C dX12_billNow_159 rfl ?_
        refine x_iconst (3 : Int32) C dX12_billNow_160 rfl ?_
        refine x_iadd C dX12_billNow_161 ?_
        refine x_iload C dX12_billNow_162 rfl ?_
        obtain ⟨h41, hF⟩ := asr_e hF
        obtain ⟨hn42, hl43⟩ := vpn h41 (by decide)
        refine m_iast 1 C hw (by decide) (fun _ => rfl) hn42 hl43 (by decide) dX12_billNow_164 hS (fun H locs hw hS => ?_)
        obtain ⟨μ44, hm45, hF⟩ := bnd_e hF
        have hw : RX D cA s0 z b μ44 H := rv_m (W := fun m => RX D cA s0 z b m _) hm45 hw
        refine x_aload_n C dX12_billNow_165 rfl ?_
        refine x_get (.ref (b + 1)) C fl_X12_17 (M_obj hw.2.2.2.2) rfl dX12_billNow_166 ?_
        refine x_iload_n C dX12_billNow_169 rfl ?_
        refine x_iconst (4 : Int32) C dX12_billNow_170 rfl ?_
        refine x_iadd C dX12_billNow_171 ?_
        refine x_iconst (0 : Int32) C dX12_billNow_172 rfl ?_
        obtain ⟨h46, hF⟩ := asr_e hF
        obtain ⟨hn47, hl48⟩ := vpn h46 (by decide)
        refine m_iast 1 C hw (by decide) (fun _ => rfl) hn47 hl48 (by decide) dX12_billNow_173 hS (fun H locs hw hS => ?_)
        obtain ⟨μ49, hm50, hF⟩ := bnd_e hF
        have hw : RX D cA s0 z b μ49 H := rv_m (W := fun m => RX D cA s0 z b m _) hm50 hw
        refine x_aload_n C dX12_billNow_174 rfl ?_
        refine x_get (.ref (b + 1)) C fl_X12_17 (M_obj hw.2.2.2.2) rfl dX12_billNow_175 ?_
        refine x_iload_n C dX12_billNow_178 rfl ?_
        refine x_iconst (5 : Int32) C dX12_billNow_179 rfl ?_
        refine x_iadd C dX12_billNow_180 ?_
        refine x_iload C dX12_billNow_181 rfl ?_
        obtain ⟨h51, hF⟩ := asr_e hF
        obtain ⟨hn52, hl53⟩ := vpn h51 (by decide)
        refine m_iast 1 C hw (by decide) (fun _ => rfl) hn52 hl53 (by decide) dX12_billNow_183 hS (fun H locs hw hS => ?_)
        obtain ⟨μ54, hm55, hF⟩ := bnd_e hF
        have hw : RX D cA s0 z b μ54 H := rv_m (W := fun m => RX D cA s0 z b m _) hm55 hw
        refine x_aload_n C dX12_billNow_184 rfl ?_
        refine x_get (.ref (b + 1)) C fl_X12_17 (M_obj hw.2.2.2.2) rfl dX12_billNow_185 ?_
        refine x_iconst (2 : Int32) C dX12_billNow_188 rfl ?_
        refine x_dup2_11 C dX12_billNow_189 rfl rfl ?_
        refine x_ialdN C (M_a1 hw.2.2.2.2) (ixl (x := (2 : Int32)) 2 rfl) (by decide) (by decide) dX12_billNow_190 ?_
        refine x_iconst (1 : Int32) C dX12_billNow_191 rfl ?_
        refine x_iadd C dX12_billNow_192 ?_
        refine m_iast 1 C hw (by decide) (fun _ => rfl) (ixl (x := (2 : Int32)) 2 rfl) (by decide) (by decide) dX12_billNow_193 hS (fun H locs hw hS => ?_)
        obtain ⟨μ56, hm57, hF⟩ := bnd_e hF
        have hw : RX D cA s0 z b μ56 H := rv_m (W := fun m => RX D cA s0 z b m _) hm57 hw
        refine x_iload_n C dX12_billNow_194 rfl ?_
        exact x_iretM2 C rfl dX12_billNow_195  (rm_i hF) (rm_m (W := fun m => RX D cA s0 z b m _) hF hw) hS (nb rfl) (nb rfl)
      · have hF := ite_f hF c10
        refine x_aload_n C dX12_billNow_56 rfl ?_
        refine x_get (.ref (b + 1)) C fl_X12_17 (M_obj hw.2.2.2.2) rfl dX12_billNow_57 ?_
        refine x_iload_n C dX12_billNow_60 rfl ?_
        refine x_bipush (6 : Int32) C dX12_billNow_61 rfl ?_
        refine x_iadd C dX12_billNow_63 ?_
        refine x_iload C dX12_billNow_64 rfl ?_
        refine x_iadd C dX12_billNow_66 ?_
        refine x_iload C dX12_billNow_67 rfl ?_
        refine x_iload C dX12_billNow_69 rfl ?_
        obtain ⟨q58, hq59, hF⟩ := bnd_e hF
        have hq59 := Option.some.inj hq59
        have K60 := c_X12_has l D cA s0 x5 x6 
        rw [hq59] at K60
        refine x_goR (fun ls h => x_runS (As := [.int x5, .int x6]) [.int ((((617 : Int32) + ((10 : Int32) * (ν.1 1 2))) + (6 : Int32)) + x6), .ref (b + 1)] h C ml_X12_308 K60 ⟨rfl, rfl, nb rfl, nb rfl⟩ rfl trivial (nb rfl) ⟨Nat.zero_le _, Nat.zero_le _⟩ dX12_billNow_71) ?_
        refine x_ifB_eq 91 C dX12_billNow_74 (by decide) (fun c61 => ?_) (fun c61 => ?_)
        · have hF := ite_f hF (nbt c61)
          refine x_iconst (0 : Int32) C dX12_billNow_91 rfl ?_
          obtain ⟨h62, hF⟩ := asr_e hF
          obtain ⟨hn63, hl64⟩ := vpn h62 (by decide)
          refine m_iast 1 C hw (by decide) (fun _ => rfl) hn63 hl64 (by decide) dX12_billNow_92 hS (fun H locs hw hS => ?_)
          obtain ⟨μ65, hm66, hF⟩ := bnd_e hF
          have hw : RX D cA s0 z b μ65 H := rv_m (W := fun m => RX D cA s0 z b m _) hm66 hw
          refine x_iinc (x6 + (1 : Int32)) [(6, .int (x6 + (1 : Int32))), (0, .ref b), (1, .int a1), (2, .int (ν.1 1 2)), (3, .int ((617 : Int32) + ((10 : Int32) * (ν.1 1 2)))), (4, .int x4), (5, .int x5)] C dX12_billNow_93 rfl rfl (by decide) rfl ?_
          refine x_goto 50 C dX12_billNow_96 (by decide) ?_
          refine x_sub [(0, .ref b), (1, .int a1), (2, .int (ν.1 1 2)), (3, .int ((617 : Int32) + ((10 : Int32) * (ν.1 1 2)))), (4, .int x4), (5, .int x5), (6, .int (x6 + (1 : Int32)))] [1, 2, 3, 4, 5, 6, 0] rfl ?_
          exact ih50 μ65 x4 x5 (x6 + (1 : Int32)) _ _ hw hS hF
        · have hF := ite_t hF c61
          refine x_aload_n C dX12_billNow_77 rfl ?_
          refine x_iload_n C dX12_billNow_78 rfl ?_
          refine x_iload C dX12_billNow_79 rfl ?_
          refine x_aload_n C dX12_billNow_81 rfl ?_
          obtain ⟨q67, hq68, hF⟩ := bnd_e hF
          have hq68 := Option.some.inj hq68
          have K69 := c_X12_version l D cA s0 b μ0 
          rw [hq68] at K69
          refine x_goR (fun ls h => x_runV (As := []) [.int x6, .int a1, .ref b, .int ((((617 : Int32) + ((10 : Int32) * (ν.1 1 2))) + (6 : Int32)) + x6), .ref (b + 1)] h C ml_X12_256 K69 ⟨rfl, rfl, nb rfl, nb rfl⟩ rfl (M_obj hw.2.2.2.2) rfl hw.2.2.2.2 (nb rfl) ⟨Nat.zero_le _, Nat.zero_le _⟩ dX12_billNow_82) ?_
          obtain ⟨h70, hF⟩ := asr_e hF
          obtain ⟨h71, hF⟩ := asr_e hF
          obtain ⟨h72, hF⟩ := asr_e hF
          obtain ⟨q73, hq74, hF⟩ := bnd_e hF
          have hq74 := Option.some.inj hq74
          have K75 := c_X12_callLine l D cA s0 b μ0 h70 a1 x6 q67 h71 h72
          rw [hq74] at K75
          refine x_goR (fun ls h => x_runV (As := [.int a1, .int x6, .int q67]) [.int ((((617 : Int32) + ((10 : Int32) * (ν.1 1 2))) + (6 : Int32)) + x6), .ref (b + 1)] h C ml_X12_333 K75 ⟨rfl, rfl, nb rfl, nb rfl⟩ rfl (M_obj hw.2.2.2.2) rfl hw.2.2.2.2 (nb rfl) ⟨Nat.zero_le _, Nat.zero_le _⟩ dX12_billNow_85) ?_
          refine x_goto 92 C dX12_billNow_88 (by decide) ?_
          obtain ⟨h76, hF⟩ := asr_e hF
          obtain ⟨hn77, hl78⟩ := vpn h76 (by decide)
          refine m_iast 1 C hw (by decide) (fun _ => rfl) hn77 hl78 (by decide) dX12_billNow_92 hS (fun H locs hw hS => ?_)
          obtain ⟨μ79, hm80, hF⟩ := bnd_e hF
          have hw : RX D cA s0 z b μ79 H := rv_m (W := fun m => RX D cA s0 z b m _) hm80 hw
          refine x_iinc (x6 + (1 : Int32)) [(6, .int (x6 + (1 : Int32))), (0, .ref b), (1, .int a1), (2, .int (ν.1 1 2)), (3, .int ((617 : Int32) + ((10 : Int32) * (ν.1 1 2)))), (4, .int x4), (5, .int x5)] C dX12_billNow_93 rfl rfl (by decide) rfl ?_
          refine x_goto 50 C dX12_billNow_96 (by decide) ?_
          refine x_sub [(0, .ref b), (1, .int a1), (2, .int (ν.1 1 2)), (3, .int ((617 : Int32) + ((10 : Int32) * (ν.1 1 2)))), (4, .int x4), (5, .int x5), (6, .int (x6 + (1 : Int32)))] [1, 2, 3, 4, 5, 6, 0] rfl ?_
          exact ih50 μ79 x4 x5 (x6 + (1 : Int32)) _ _ hw hS hF
  refine x_aload_n C dX12_billNow_0 rfl ?_
  refine x_get (.ref (b + 1)) C fl_X12_17 (M_obj hw.2.2.2.2) rfl dX12_billNow_1 ?_
  refine x_iconst (2 : Int32) C dX12_billNow_4 rfl ?_
  refine x_ialdN C (M_a1 hw.2.2.2.2) (ixl (x := (2 : Int32)) 2 rfl) (by decide) (by decide) dX12_billNow_5 ?_
  refine x_istore_n [(2, .int (ν.1 1 2)), (0, .ref b), (1, .int a1)] C dX12_billNow_6 rfl (by decide) rfl ?_
  refine x_sipush (617 : Int32) C dX12_billNow_7 rfl ?_
  refine x_bipush (10 : Int32) C dX12_billNow_10 rfl ?_
  refine x_iload_n C dX12_billNow_12 rfl ?_
  refine x_imul C dX12_billNow_13 ?_
  refine x_iadd C dX12_billNow_14 ?_
  refine x_istore_n [(3, .int ((617 : Int32) + ((10 : Int32) * (ν.1 1 2)))), (2, .int (ν.1 1 2)), (0, .ref b), (1, .int a1)] C dX12_billNow_15 rfl (by decide) rfl ?_
  refine x_aload_n C dX12_billNow_16 rfl ?_
  refine x_iload_n C dX12_billNow_17 rfl ?_
  obtain ⟨h1, hF⟩ := asr_e hF
  obtain ⟨h2, hF⟩ := asr_e hF
  obtain ⟨q3, hq4, hF⟩ := bnd_e hF
  have hq4 := Option.some.inj hq4
  have K5 := c_X12_billableSet l D cA s0 b ν h1 a1 h2
  rw [hq4] at K5
  refine x_goR (fun ls h => x_runV (As := [.int a1]) [] h C ml_X12_353 K5 ⟨rfl, rfl, nb rfl, nb rfl⟩ rfl (M_obj hw.2.2.2.2) rfl hw.2.2.2.2 (nb rfl) ⟨Nat.zero_le _, Nat.zero_le _⟩ dX12_billNow_18) ?_
  refine x_istore [(4, .int q3), (3, .int ((617 : Int32) + ((10 : Int32) * (ν.1 1 2)))), (2, .int (ν.1 1 2)), (0, .ref b), (1, .int a1)] C dX12_billNow_21 (by decide) rfl ?_
  refine x_bipush (7 : Int32) C dX12_billNow_23 rfl ?_
  refine x_aload_n C dX12_billNow_25 rfl ?_
  refine x_iload_n C dX12_billNow_26 rfl ?_
  obtain ⟨q6, hq7, hF⟩ := bnd_e hF
  have hq7 := Option.some.inj hq7
  have K8 := c_X12_billedSet l D cA s0 b ν h1 a1 
  rw [hq7] at K8
  refine x_goR (fun ls h => x_runV (As := [.int a1]) [.int (7 : Int32)] h C ml_X12_350 K8 ⟨rfl, rfl, nb rfl, nb rfl⟩ rfl (M_obj hw.2.2.2.2) rfl hw.2.2.2.2 (nb rfl) ⟨Nat.zero_le _, Nat.zero_le _⟩ dX12_billNow_27) ?_
  refine x_iconst (-1 : Int32) C dX12_billNow_30 rfl ?_
  refine x_ixor C dX12_billNow_31 ?_
  refine x_iand C dX12_billNow_32 ?_
  refine x_iload C dX12_billNow_33 rfl ?_
  refine x_if_eq 43 C dX12_billNow_35 (by decide) (fun c9 => ?_) (fun c9 => ?_)
  · have hF := ite_t hF c9
    refine x_iconst (0 : Int32) C dX12_billNow_43 rfl ?_
    refine x_ior C dX12_billNow_44 ?_
    refine x_istore [(5, .int (((7 : Int32) &&& (q6 ^^^ (-1 : Int32))) ||| (0 : Int32))), (4, .int q3), (3, .int ((617 : Int32) + ((10 : Int32) * (ν.1 1 2)))), (2, .int (ν.1 1 2)), (0, .ref b), (1, .int a1)] C dX12_billNow_45 (by decide) rfl ?_
    refine x_iconst (0 : Int32) C dX12_billNow_47 rfl ?_
    refine x_istore [(6, .int (0 : Int32)), (5, .int (((7 : Int32) &&& (q6 ^^^ (-1 : Int32))) ||| (0 : Int32))), (4, .int q3), (3, .int ((617 : Int32) + ((10 : Int32) * (ν.1 1 2)))), (2, .int (ν.1 1 2)), (0, .ref b), (1, .int a1)] C dX12_billNow_48 (by decide) rfl ?_
    refine x_sub [(0, .ref b), (1, .int a1), (2, .int (ν.1 1 2)), (3, .int ((617 : Int32) + ((10 : Int32) * (ν.1 1 2)))), (4, .int q3), (5, .int (((7 : Int32) &&& (q6 ^^^ (-1 : Int32))) ||| (0 : Int32))), (6, .int (0 : Int32))] [5, 6, 4, 3, 2, 1, 0] rfl ?_
    exact h_L50 10000 ν q3 (((7 : Int32) &&& (q6 ^^^ (-1 : Int32))) ||| (0 : Int32)) (0 : Int32) _ _ hw hS hF
  · have hF := ite_f hF c9
    refine x_bipush (8 : Int32) C dX12_billNow_38 rfl ?_
    refine x_goto 44 C dX12_billNow_40 (by decide) ?_
    refine x_ior C dX12_billNow_44 ?_
    refine x_istore [(5, .int (((7 : Int32) &&& (q6 ^^^ (-1 : Int32))) ||| (8 : Int32))), (4, .int q3), (3, .int ((617 : Int32) + ((10 : Int32) * (ν.1 1 2)))), (2, .int (ν.1 1 2)), (0, .ref b), (1, .int a1)] C dX12_billNow_45 (by decide) rfl ?_
    refine x_iconst (0 : Int32) C dX12_billNow_47 rfl ?_
    refine x_istore [(6, .int (0 : Int32)), (5, .int (((7 : Int32) &&& (q6 ^^^ (-1 : Int32))) ||| (8 : Int32))), (4, .int q3), (3, .int ((617 : Int32) + ((10 : Int32) * (ν.1 1 2)))), (2, .int (ν.1 1 2)), (0, .ref b), (1, .int a1)] C dX12_billNow_48 (by decide) rfl ?_
    refine x_sub [(0, .ref b), (1, .int a1), (2, .int (ν.1 1 2)), (3, .int ((617 : Int32) + ((10 : Int32) * (ν.1 1 2)))), (4, .int q3), (5, .int (((7 : Int32) &&& (q6 ^^^ (-1 : Int32))) ||| (8 : Int32))), (6, .int (0 : Int32))] [5, 6, 4, 3, 2, 1, 0] rfl ?_
    exact h_L50 10000 ν q3 (((7 : Int32) &&& (q6 ^^^ (-1 : Int32))) ||| (8 : Int32)) (0 : Int32) _ _ hw hS hF
noncomputable def g_X12_bill_J27 (ν : Mm) (a1 : Int32) (μ0 : Mm) (y0 : Bool) (y1 : Bool) : Option (Int32 × Mm) := bnd (some (f_X12_passes2 μ0 y1 y0)) (fun q8 => (if q8.1 = true then bnd (g_X12_remember q8.2) (fun q12 => bnd (g_X12_billNow q12 a1) (fun q14 => some (q14.1, q14.2))) else some ((0 : Int32), q8.2)))
noncomputable def g_X12_bill_J22 (ν : Mm) (a1 : Int32) (μ0 : Mm) (y0 : Bool) : Option (Int32 × Mm) := (g_X12_bill_J27 ν a1 μ0 true y0)
noncomputable def g_X12_bill (ν : Mm) (a1 : Int32) : Option (Int32 × Mm) := bnd (some (f_X12_isCall ν a1)) (fun q1 => bnd (some (f_X12_isCall ν a1)) (fun q4 => (if q4 = true then asr (OkR (ν.1 1)) (asr (vp_in a1 41) (bnd (some (f_X12_canBill ν a1)) (fun q18 => (if q18 = true then (g_X12_bill_J22 ν a1 ν q1) else (g_X12_bill_J27 ν a1 ν false q1))))) else (g_X12_bill_J22 ν a1 ν q1))))
set_option maxRecDepth 20000 in
set_option maxHeartbeats 4000000 in
theorem k_X12_bill (l : Launch) (D : va_G) (cA : Nat → ClassId) (s0 : State) (z : Nat) (b : Nat) (ν : Mm) (sz : Nat) (hG : xG l D cA s0) (a1 : Int32) (r : Int32 × Mm) (hF : g_X12_bill ν a1 = some r) : Met l yX12_bill (wsG yX12_bill cX12_bill 2 (some (FieldType.int))) { frames := 6, cells := 0, slots := 0, locals := 143 } (xP D cA s0 [.ref b, .int a1] (fun H => H.size = sz ∧ RX D cA s0 z b ν H)) (xQm (some (.int r.1)) (fun H => RX D cA s0 z b r.2 H) (xA b 8 sz)) 0 0 (xA b 8 sz) := by
  refine x_start (own := RX12) [(0, .ref b), (1, .int a1)] rfl rfl (by decide) (nb rfl) ?_
  intro p e s m args below meth c C hw
  obtain ⟨hsz, hw⟩ := hw
  subst hsz
  have hS : va_S (xA b 8 s.heap.size) s.heap s.heap [] := va_S.rf
  have h_J27 : ∀ (μ0 : Mm) (y0 : Bool) (y1 : Bool) (H : Heap) (locs : List Loc) (hw : RX D cA s0 z b μ0 H) (hS : va_S (xA b 8 s.heap.size) s.heap H locs), g_X12_bill_J27 ν a1 μ0 y0 y1 = some r → xW p l e { frames := 6, cells := 0, slots := 0, locals := 143 } s m args below meth c 2 (MQ below (xQm (some (.int r.1)) (fun H => RX D cA s0 z b r.2 H) (xA b 8 s.heap.size)) args s 0 0 (xA b 8 s.heap.size)) H locs 0 0 27 [(0, .ref b), (1, .int a1)] [.int (bI y0), .int (bI y1), .ref b] := by
    intro μ0 y0 y1 H locs hw hS hF
    obtain ⟨q8, hq9, hF⟩ := bnd_e hF
    have hq9 := Option.some.inj hq9
    have K10 := c_X12_passes2 l D cA s0 b μ0 H.size y1 y0 
    rw [hq9] at K10
    have hwo := hw
    refine x_goM (fun ls h => x_runV (As := [.int (bI y1), .int (bI y0)]) [] h C ml_X12_263 K10 ⟨rfl, rfl, nb rfl, nb rfl⟩ rfl (M_obj hw.2.2.2.2) rfl ⟨rfl, hw.2.2.2.2⟩ (nb rfl) ⟨Nat.zero_le _, Nat.zero_le _⟩ dX12_bill_27) hS (xA_le hS) (fun H locs hw hz hk hS => ?_)
    have hw : RX D cA s0 z b q8.2 H := RX.of hwo hw hz hk
    refine x_ifB_ne 35 C dX12_bill_30 (by decide) (fun c11 => ?_) (fun c11 => ?_)
    · have hF := ite_t hF c11
      refine x_aload_n C dX12_bill_35 rfl ?_
      obtain ⟨q12, hq13, hF⟩ := bnd_e hF
      refine x_goM (fun ls h => x_runV (As := []) [] h C ml_X12_231 (k_X12_remember l D cA s0 z b q8.2 _ hG q12 hq13) ⟨rfl, rfl, nb rfl, nb rfl⟩ rfl (M_obj hw.2.2.2.2) rfl ⟨rfl, hw⟩ (nb rfl) ⟨Nat.zero_le _, Nat.zero_le _⟩ dX12_bill_36) hS (xA_le hS) (fun H locs hw hz hk hS => ?_)
      have hw : RX D cA s0 z b q12 H := hw
      refine x_aload_n C dX12_bill_39 rfl ?_
      refine x_iload_n C dX12_bill_40 rfl ?_
      obtain ⟨q14, hq15, hF⟩ := bnd_e hF
      refine x_goM (fun ls h => x_runV (As := [.int a1]) [] h C ml_X12_420 (k_X12_billNow l D cA s0 z b q12 _ hG a1 q14 hq15) ⟨rfl, rfl, nb rfl, nb rfl⟩ rfl (M_obj hw.2.2.2.2) rfl ⟨rfl, hw⟩ (nb rfl) ⟨Nat.zero_le _, Nat.zero_le _⟩ dX12_bill_41) hS (xA_le hS) (fun H locs hw hz hk hS => ?_)
      have hw : RX D cA s0 z b q14.2 H := hw
      exact x_iretM2 C rfl dX12_bill_44  (rm_i hF) (rm_m (W := fun m => RX D cA s0 z b m _) hF hw) hS (nb rfl) (nb rfl)
    · have hF := ite_f hF (nbt c11)
      refine x_iconst (0 : Int32) C dX12_bill_33 rfl ?_
      exact x_iretM2 C rfl dX12_bill_34  (rm_i hF) (rm_m (W := fun m => RX D cA s0 z b m _) hF hw) hS (nb rfl) (nb rfl)
  have h_J22 : ∀ (μ0 : Mm) (y0 : Bool) (H : Heap) (locs : List Loc) (hw : RX D cA s0 z b μ0 H) (hS : va_S (xA b 8 s.heap.size) s.heap H locs), g_X12_bill_J22 ν a1 μ0 y0 = some r → xW p l e { frames := 6, cells := 0, slots := 0, locals := 143 } s m args below meth c 2 (MQ below (xQm (some (.int r.1)) (fun H => RX D cA s0 z b r.2 H) (xA b 8 s.heap.size)) args s 0 0 (xA b 8 s.heap.size)) H locs 0 0 22 [(0, .ref b), (1, .int a1)] [.int (bI y0), .ref b] := by
    intro μ0 y0 H locs hw hS hF
    refine x_iconst (1 : Int32) C dX12_bill_22 rfl ?_
    refine x_goto 27 C dX12_bill_23 (by decide) ?_
    exact h_J27 μ0 true y0 _ _ hw hS hF
  refine x_aload_n C dX12_bill_0 rfl ?_
  refine x_aload_n C dX12_bill_1 rfl ?_
  refine x_iload_n C dX12_bill_2 rfl ?_
  obtain ⟨q1, hq2, hF⟩ := bnd_e hF
  have hq2 := Option.some.inj hq2
  have K3 := c_X12_isCall l D cA s0 b ν a1 
  rw [hq2] at K3
  refine x_goR (fun ls h => x_runV (As := [.int a1]) [.ref b] h C ml_X12_345 K3 ⟨rfl, rfl, nb rfl, nb rfl⟩ rfl (M_obj hw.2.2.2.2) rfl hw.2.2.2.2 (nb rfl) ⟨Nat.zero_le _, Nat.zero_le _⟩ dX12_bill_3) ?_
  refine x_aload_n C dX12_bill_6 rfl ?_
  refine x_iload_n C dX12_bill_7 rfl ?_
  obtain ⟨q4, hq5, hF⟩ := bnd_e hF
  have hq5 := Option.some.inj hq5
  have K6 := c_X12_isCall l D cA s0 b ν a1 
  rw [hq5] at K6
  refine x_goR (fun ls h => x_runV (As := [.int a1]) [.int (bI q1), .ref b] h C ml_X12_345 K6 ⟨rfl, rfl, nb rfl, nb rfl⟩ rfl (M_obj hw.2.2.2.2) rfl hw.2.2.2.2 (nb rfl) ⟨Nat.zero_le _, Nat.zero_le _⟩ dX12_bill_8) ?_
  refine x_ifB_eq 22 C dX12_bill_11 (by decide) (fun c7 => ?_) (fun c7 => ?_)
  · have hF := ite_f hF (nbt c7)
    exact h_J22 ν q1 _ _ hw hS hF
  · have hF := ite_t hF c7
    refine x_aload_n C dX12_bill_14 rfl ?_
    refine x_iload_n C dX12_bill_15 rfl ?_
    obtain ⟨h16, hF⟩ := asr_e hF
    obtain ⟨h17, hF⟩ := asr_e hF
    obtain ⟨q18, hq19, hF⟩ := bnd_e hF
    have hq19 := Option.some.inj hq19
    have K20 := c_X12_canBill l D cA s0 b ν h16 a1 h17
    rw [hq19] at K20
    refine x_goR (fun ls h => x_runV (As := [.int a1]) [.int (bI q1), .ref b] h C ml_X12_417 K20 ⟨rfl, rfl, nb rfl, nb rfl⟩ rfl (M_obj hw.2.2.2.2) rfl hw.2.2.2.2 (nb rfl) ⟨Nat.zero_le _, Nat.zero_le _⟩ dX12_bill_16) ?_
    refine x_ifB_eq 26 C dX12_bill_19 (by decide) (fun c21 => ?_) (fun c21 => ?_)
    · have hF := ite_f hF (nbt c21)
      refine x_iconst (0 : Int32) C dX12_bill_26 rfl ?_
      exact h_J27 ν false q1 _ _ hw hS hF
    · have hF := ite_t hF c21
      exact h_J22 ν q1 _ _ hw hS hF
noncomputable def g_X12_billAll_L27 (ν : Mm) (a1 : Int32) : Nat → Mm → Int32 → Int32 → Option (Int32 × Mm)
  | 0, _, _, _ => none
  | n + 1, μ0, x2, x3 => (if (μ0.1 1 1) ≤ x3 then some ((μ0.1 1 2) - x2, μ0) else asr (vp_in x3 41) (bnd (some (f_X12_ofCall μ0 x3 (0 : Int32))) (fun q12 => (if q12 = a1 then asr (OkR (μ0.1 1)) (bnd (some (f_X12_canBill μ0 x3)) (fun q17 => (if q17 = true then bnd (g_X12_billNow μ0 x3) (fun q21 => (g_X12_billAll_L27 ν a1 n q21.2 x2 (x3 + (1 : Int32)))) else (g_X12_billAll_L27 ν a1 n μ0 x2 (x3 + (1 : Int32)))))) else (g_X12_billAll_L27 ν a1 n μ0 x2 (x3 + (1 : Int32)))))))
noncomputable def g_X12_billAll (ν : Mm) (a1 : Int32) : Option (Int32 × Mm) := bnd (some (f_X12_isShip ν a1)) (fun q1 => bnd (some (f_X12_passes ν q1)) (fun q4 => (if q4.1 = true then bnd (g_X12_remember q4.2) (fun q8 => (g_X12_billAll_L27 ν a1 10000 q8 (q8.1 1 2) (0 : Int32))) else some ((0 : Int32), q4.2))))
set_option maxRecDepth 20000 in
set_option maxHeartbeats 4000000 in
theorem k_X12_billAll (l : Launch) (D : va_G) (cA : Nat → ClassId) (s0 : State) (z : Nat) (b : Nat) (ν : Mm) (sz : Nat) (hG : xG l D cA s0) (a1 : Int32) (r : Int32 × Mm) (hF : g_X12_billAll ν a1 = some r) : Met l yX12_billAll (wsG yX12_billAll cX12_billAll 5 (some (FieldType.int))) { frames := 6, cells := 0, slots := 0, locals := 143 } (xP D cA s0 [.ref b, .int a1] (fun H => H.size = sz ∧ RX D cA s0 z b ν H)) (xQm (some (.int r.1)) (fun H => RX D cA s0 z b r.2 H) (xA b 8 sz)) 0 0 (xA b 8 sz) := by
  refine x_start (own := RX12) [(0, .ref b), (1, .int a1)] rfl rfl (by decide) (nb rfl) ?_
  intro p e s m args below meth c C hw
  obtain ⟨hsz, hw⟩ := hw
  subst hsz
  have hS : va_S (xA b 8 s.heap.size) s.heap s.heap [] := va_S.rf
  have h_L27 : ∀ (n : Nat) (μ0 : Mm) (x2 : Int32) (x3 : Int32) (H : Heap) (locs : List Loc) (hw : RX D cA s0 z b μ0 H) (hS : va_S (xA b 8 s.heap.size) s.heap H locs), g_X12_billAll_L27 ν a1 n μ0 x2 x3 = some r → xW p l e { frames := 6, cells := 0, slots := 0, locals := 143 } s m args below meth c 5 (MQ below (xQm (some (.int r.1)) (fun H => RX D cA s0 z b r.2 H) (xA b 8 s.heap.size)) args s 0 0 (xA b 8 s.heap.size)) H locs 0 0 27 [(0, .ref b), (1, .int a1), (2, .int x2), (3, .int x3)] [] := by
    intro n
    induction n with
    | zero =>
      intro μ0 x2 x3 H locs hw hS hF
      exact no_some hF
    | succ n ih =>
      intro μ0 x2 x3 H locs hw hS hF
      have ih27 := ih
      refine x_iload_n C dX12_billAll_27 rfl ?_
      refine x_aload_n C dX12_billAll_28 rfl ?_
      refine x_get (.ref (b + 1)) C fl_X12_17 (M_obj hw.2.2.2.2) rfl dX12_billAll_29 ?_
      refine x_iconst (1 : Int32) C dX12_billAll_32 rfl ?_
      refine x_ialdN C (M_a1 hw.2.2.2.2) (ixl (x := (1 : Int32)) 1 rfl) (by decide) (by decide) dX12_billAll_33 ?_
      refine x_icmp_ge 71 C dX12_billAll_34 (by decide) (fun c10 => ?_) (fun c10 => ?_)
      · have hF := ite_t hF c10
        refine x_aload_n C dX12_billAll_71 rfl ?_
        refine x_get (.ref (b + 1)) C fl_X12_17 (M_obj hw.2.2.2.2) rfl dX12_billAll_72 ?_
        refine x_iconst (2 : Int32) C dX12_billAll_75 rfl ?_
        refine x_ialdN C (M_a1 hw.2.2.2.2) (ixl (x := (2 : Int32)) 2 rfl) (by decide) (by decide) dX12_billAll_76 ?_
        refine x_iload_n C dX12_billAll_77 rfl ?_
        refine x_isub C dX12_billAll_78 ?_
        exact x_iretM2 C rfl dX12_billAll_79  (rm_i hF) (rm_m (W := fun m => RX D cA s0 z b m _) hF hw) hS (nb rfl) (nb rfl)
      · have hF := ite_f hF c10
        refine x_aload_n C dX12_billAll_37 rfl ?_
        refine x_iload_n C dX12_billAll_38 rfl ?_
        refine x_iconst (0 : Int32) C dX12_billAll_39 rfl ?_
        obtain ⟨h11, hF⟩ := asr_e hF
        obtain ⟨q12, hq13, hF⟩ := bnd_e hF
        have hq13 := Option.some.inj hq13
        have K14 := c_X12_ofCall l D cA s0 b μ0 x3 (0 : Int32) h11 (ixin (ixl (x := (0 : Int32)) 0 rfl) (by decide) (by decide))
        rw [hq13] at K14
        refine x_goR (fun ls h => x_runV (As := [.int x3, .int (0 : Int32)]) [] h C ml_X12_248 K14 ⟨rfl, rfl, nb rfl, nb rfl⟩ rfl (M_obj hw.2.2.2.2) rfl hw.2.2.2.2 (nb rfl) ⟨Nat.zero_le _, Nat.zero_le _⟩ dX12_billAll_40) ?_
        refine x_iload_n C dX12_billAll_43 rfl ?_
        refine x_icmp_ne 65 C dX12_billAll_44 (by decide) (fun c15 => ?_) (fun c15 => ?_)
        · have hF := ite_f hF c15
          refine x_iinc (x3 + (1 : Int32)) [(3, .int (x3 + (1 : Int32))), (0, .ref b), (1, .int a1), (2, .int x2)] C dX12_billAll_65 rfl rfl (by decide) rfl ?_
          refine x_goto 27 C dX12_billAll_68 (by decide) ?_
          refine x_sub [(0, .ref b), (1, .int a1), (2, .int x2), (3, .int (x3 + (1 : Int32)))] [1, 2, 3, 0] rfl ?_
          exact ih27 μ0 x2 (x3 + (1 : Int32)) _ _ hw hS hF
        · have hF := ite_t hF c15
          refine x_aload_n C dX12_billAll_47 rfl ?_
          refine x_iload_n C dX12_billAll_48 rfl ?_
          obtain ⟨h16, hF⟩ := asr_e hF
          obtain ⟨q17, hq18, hF⟩ := bnd_e hF
          have hq18 := Option.some.inj hq18
          have K19 := c_X12_canBill l D cA s0 b μ0 h16 x3 h11
          rw [hq18] at K19
          refine x_goR (fun ls h => x_runV (As := [.int x3]) [] h C ml_X12_417 K19 ⟨rfl, rfl, nb rfl, nb rfl⟩ rfl (M_obj hw.2.2.2.2) rfl hw.2.2.2.2 (nb rfl) ⟨Nat.zero_le _, Nat.zero_le _⟩ dX12_billAll_49) ?_
          refine x_ifB_ne 58 C dX12_billAll_52 (by decide) (fun c20 => ?_) (fun c20 => ?_)
          · have hF := ite_t hF c20
            refine x_aload_n C dX12_billAll_58 rfl ?_
            refine x_iload_n C dX12_billAll_59 rfl ?_
            obtain ⟨q21, hq22, hF⟩ := bnd_e hF
            refine x_goM (fun ls h => x_runV (As := [.int x3]) [] h C ml_X12_420 (k_X12_billNow l D cA s0 z b μ0 _ hG x3 q21 hq22) ⟨rfl, rfl, nb rfl, nb rfl⟩ rfl (M_obj hw.2.2.2.2) rfl ⟨rfl, hw⟩ (nb rfl) ⟨Nat.zero_le _, Nat.zero_le _⟩ dX12_billAll_60) hS (xA_le hS) (fun H locs hw hz hk hS => ?_)
            have hw : RX D cA s0 z b q21.2 H := hw
            refine x_istore [(4, .int q21.1), (0, .ref b), (1, .int a1), (2, .int x2), (3, .int x3)] C dX12_billAll_63 (by decide) rfl ?_
            refine x_iinc (x3 + (1 : Int32)) [(3, .int (x3 + (1 : Int32))), (4, .int q21.1), (0, .ref b), (1, .int a1), (2, .int x2)] C dX12_billAll_65 rfl rfl (by decide) rfl ?_
            refine x_goto 27 C dX12_billAll_68 (by decide) ?_
            refine x_sub [(0, .ref b), (1, .int a1), (2, .int x2), (3, .int (x3 + (1 : Int32)))] [2, 3, 4, 0] rfl ?_
            exact ih27 q21.2 x2 (x3 + (1 : Int32)) _ _ hw hS hF
          · have hF := ite_f hF (nbt c20)
            refine x_goto 65 C dX12_billAll_55 (by decide) ?_
            refine x_iinc (x3 + (1 : Int32)) [(3, .int (x3 + (1 : Int32))), (0, .ref b), (1, .int a1), (2, .int x2)] C dX12_billAll_65 rfl rfl (by decide) rfl ?_
            refine x_goto 27 C dX12_billAll_68 (by decide) ?_
            refine x_sub [(0, .ref b), (1, .int a1), (2, .int x2), (3, .int (x3 + (1 : Int32)))] [1, 2, 3, 0] rfl ?_
            exact ih27 μ0 x2 (x3 + (1 : Int32)) _ _ hw hS hF
  refine x_aload_n C dX12_billAll_0 rfl ?_
  refine x_aload_n C dX12_billAll_1 rfl ?_
  refine x_iload_n C dX12_billAll_2 rfl ?_
  obtain ⟨q1, hq2, hF⟩ := bnd_e hF
  have hq2 := Option.some.inj hq2
  have K3 := c_X12_isShip l D cA s0 b ν a1 
  rw [hq2] at K3
  refine x_goR (fun ls h => x_runV (As := [.int a1]) [.ref b] h C ml_X12_282 K3 ⟨rfl, rfl, nb rfl, nb rfl⟩ rfl (M_obj hw.2.2.2.2) rfl hw.2.2.2.2 (nb rfl) ⟨Nat.zero_le _, Nat.zero_le _⟩ dX12_billAll_3) ?_
  obtain ⟨q4, hq5, hF⟩ := bnd_e hF
  have hq5 := Option.some.inj hq5
  have K6 := c_X12_passes l D cA s0 b ν s.heap.size q1 
  rw [hq5] at K6
  have hwo := hw
  refine x_goM (fun ls h => x_runV (As := [.int (bI q1)]) [] h C ml_X12_62 K6 ⟨rfl, rfl, nb rfl, nb rfl⟩ rfl (M_obj hw.2.2.2.2) rfl ⟨rfl, hw.2.2.2.2⟩ (nb rfl) ⟨Nat.zero_le _, Nat.zero_le _⟩ dX12_billAll_6) hS (xA_le hS) (fun H locs hw hz hk hS => ?_)
  have hw : RX D cA s0 z b q4.2 H := RX.of hwo hw hz hk
  refine x_ifB_ne 14 C dX12_billAll_9 (by decide) (fun c7 => ?_) (fun c7 => ?_)
  · have hF := ite_t hF c7
    refine x_aload_n C dX12_billAll_14 rfl ?_
    obtain ⟨q8, hq9, hF⟩ := bnd_e hF
    refine x_goM (fun ls h => x_runV (As := []) [] h C ml_X12_231 (k_X12_remember l D cA s0 z b q4.2 _ hG q8 hq9) ⟨rfl, rfl, nb rfl, nb rfl⟩ rfl (M_obj hw.2.2.2.2) rfl ⟨rfl, hw⟩ (nb rfl) ⟨Nat.zero_le _, Nat.zero_le _⟩ dX12_billAll_15) hS (xA_le hS) (fun H locs hw hz hk hS => ?_)
    have hw : RX D cA s0 z b q8 H := hw
    refine x_aload_n C dX12_billAll_18 rfl ?_
    refine x_get (.ref (b + 1)) C fl_X12_17 (M_obj hw.2.2.2.2) rfl dX12_billAll_19 ?_
    refine x_iconst (2 : Int32) C dX12_billAll_22 rfl ?_
    refine x_ialdN C (M_a1 hw.2.2.2.2) (ixl (x := (2 : Int32)) 2 rfl) (by decide) (by decide) dX12_billAll_23 ?_
    refine x_istore_n [(2, .int (q8.1 1 2)), (0, .ref b), (1, .int a1)] C dX12_billAll_24 rfl (by decide) rfl ?_
    refine x_iconst (0 : Int32) C dX12_billAll_25 rfl ?_
    refine x_istore_n [(3, .int (0 : Int32)), (2, .int (q8.1 1 2)), (0, .ref b), (1, .int a1)] C dX12_billAll_26 rfl (by decide) rfl ?_
    refine x_sub [(0, .ref b), (1, .int a1), (2, .int (q8.1 1 2)), (3, .int (0 : Int32))] [2, 3, 1, 0] rfl ?_
    exact h_L27 10000 q8 (q8.1 1 2) (0 : Int32) _ _ hw hS hF
  · have hF := ite_f hF (nbt c7)
    refine x_iconst (0 : Int32) C dX12_billAll_12 rfl ?_
    exact x_iretM2 C rfl dX12_billAll_13  (rm_i hF) (rm_m (W := fun m => RX D cA s0 z b m _) hF hw) hS (nb rfl) (nb rfl)
noncomputable def g_X12_credit_L67 (ν : Mm) (a1 : Int32) (a2 : Int32) : Nat → Mm → Int32 → Int32 → Option (Int32 × Mm)
  | 0, _, _, _ => none
  | n + 1, μ0, x4, x5 => (if (4 : Int32) ≤ x5 then asr (vp_in (((1217 : Int32) + ((4 : Int32) * (μ0.1 1 3))) + (0 : Int32)) 1377) (bnd (some (uI μ0 1 (cl (((1217 : Int32) + ((4 : Int32) * (μ0.1 1 3))) + (0 : Int32))) a1)) (fun μ18 => asr (vp_in (((1217 : Int32) + ((4 : Int32) * (μ0.1 1 3))) + (1 : Int32)) 1377) (bnd (some (uI μ18 1 (cl (((1217 : Int32) + ((4 : Int32) * (μ0.1 1 3))) + (1 : Int32))) a2)) (fun μ23 => asr (vp_in (((1217 : Int32) + ((4 : Int32) * (μ0.1 1 3))) + (2 : Int32)) 1377) (bnd (some (uI μ23 1 (cl (((1217 : Int32) + ((4 : Int32) * (μ0.1 1 3))) + (2 : Int32))) (μ23.1 1 5))) (fun μ28 => asr (vp_in (((1217 : Int32) + ((4 : Int32) * (μ0.1 1 3))) + (3 : Int32)) 1377) (bnd (some (uI μ28 1 (cl (((1217 : Int32) + ((4 : Int32) * (μ0.1 1 3))) + (3 : Int32))) (-x4))) (fun μ33 => asr (vp_in (((617 : Int32) + ((10 : Int32) * a1)) + (4 : Int32)) 1377) (bnd (some (uI μ33 1 (cl (((617 : Int32) + ((10 : Int32) * a1)) + (4 : Int32))) ((μ33.1 1 (cl (((617 : Int32) + ((10 : Int32) * a1)) + (4 : Int32)))) ||| a2))) (fun μ38 => bnd (some (uI μ38 1 3 ((μ38.1 1 3) + (1 : Int32)))) (fun μ40 => some (μ0.1 1 3, μ40)))))))))))) else bnd (some (f_X12_has a2 x5)) (fun q42 => (if q42 = true then asr (vp_in a1 60) (asr (vp_in x5 4) (bnd (some (f_X12_lineIn μ0 a1 x5)) (fun q48 => (g_X12_credit_L67 ν a1 a2 n μ0 (x4 + q48) (x5 + (1 : Int32)))))) else (g_X12_credit_L67 ν a1 a2 n μ0 (x4 + (0 : Int32)) (x5 + (1 : Int32))))))
noncomputable def g_X12_credit_J49 (ν : Mm) (a1 : Int32) (a2 : Int32) (μ0 : Mm) (y0 : Bool) (y1 : Bool) (y2 : Bool) : Option (Int32 × Mm) := bnd (some (f_X12_passes3 μ0 y2 y1 y0)) (fun q8 => (if q8.1 = true then bnd (g_X12_remember q8.2) (fun q12 => (g_X12_credit_L67 ν a1 a2 10000 q12 (0 : Int32) (0 : Int32))) else some ((0 : Int32), q8.2)))
noncomputable def g_X12_credit_J48 (ν : Mm) (a1 : Int32) (a2 : Int32) (μ0 : Mm) (y0 : Bool) (y1 : Bool) : Option (Int32 × Mm) := (g_X12_credit_J49 ν a1 a2 μ0 false y0 y1)
noncomputable def g_X12_credit (ν : Mm) (a1 : Int32) (a2 : Int32) : Option (Int32 × Mm) := bnd (some (f_X12_isInvoice ν a1)) (fun q1 => bnd (some (f_X12_in a2.toInt64 (1 : Int64) (15 : Int64))) (fun q4 => (if q1 = true then asr (vp_in a1 60) (bnd (some (f_X12_livingLines ν a1)) (fun q52 => (if (a2 &&& (q52 ^^^ (-1 : Int32))) = 0 then (if (40 : Int32) ≤ (ν.1 1 3) then (g_X12_credit_J48 ν a1 a2 ν q4 q1) else (g_X12_credit_J49 ν a1 a2 ν true q4 q1)) else (g_X12_credit_J48 ν a1 a2 ν q4 q1)))) else (g_X12_credit_J48 ν a1 a2 ν q4 q1))))
set_option maxRecDepth 20000 in
set_option maxHeartbeats 4000000 in
theorem k_X12_credit (l : Launch) (D : va_G) (cA : Nat → ClassId) (s0 : State) (z : Nat) (b : Nat) (ν : Mm) (sz : Nat) (hG : xG l D cA s0) (a1 : Int32) (a2 : Int32) (r : Int32 × Mm) (hF : g_X12_credit ν a1 a2 = some r) : Met l yX12_credit (wsG yX12_credit cX12_credit 7 (some (FieldType.int))) { frames := 2, cells := 0, slots := 0, locals := 46 } (xP D cA s0 [.ref b, .int a1, .int a2] (fun H => H.size = sz ∧ RX D cA s0 z b ν H)) (xQm (some (.int r.1)) (fun H => RX D cA s0 z b r.2 H) (xA b 8 sz)) 0 0 (xA b 8 sz) := by
  refine x_start (own := RX12) [(0, .ref b), (1, .int a1), (2, .int a2)] rfl rfl (by decide) (nb rfl) ?_
  intro p e s m args below meth c C hw
  obtain ⟨hsz, hw⟩ := hw
  subst hsz
  have hS : va_S (xA b 8 s.heap.size) s.heap s.heap [] := va_S.rf
  have h_L67 : ∀ (n : Nat) (μ0 : Mm) (x4 : Int32) (x5 : Int32) (H : Heap) (locs : List Loc) (hw : RX D cA s0 z b μ0 H) (hS : va_S (xA b 8 s.heap.size) s.heap H locs), g_X12_credit_L67 ν a1 a2 n μ0 x4 x5 = some r → xW p l e { frames := 2, cells := 0, slots := 0, locals := 46 } s m args below meth c 7 (MQ below (xQm (some (.int r.1)) (fun H => RX D cA s0 z b r.2 H) (xA b 8 s.heap.size)) args s 0 0 (xA b 8 s.heap.size)) H locs 0 0 67 [(0, .ref b), (1, .int a1), (2, .int a2), (4, .int x4), (5, .int x5)] [] := by
    intro n
    induction n with
    | zero =>
      intro μ0 x4 x5 H locs hw hS hF
      exact no_some hF
    | succ n ih =>
      intro μ0 x4 x5 H locs hw hS hF
      have ih67 := ih
      refine x_iload C dX12_credit_67 rfl ?_
      refine x_iconst (4 : Int32) C dX12_credit_69 rfl ?_
      refine x_icmp_ge 104 C dX12_credit_70 (by decide) (fun c14 => ?_) (fun c14 => ?_)
      · have hF := ite_t hF c14
        refine x_aload_n C dX12_credit_104 rfl ?_
        refine x_get (.ref (b + 1)) C fl_X12_17 (M_obj hw.2.2.2.2) rfl dX12_credit_105 ?_
        refine x_iconst (3 : Int32) C dX12_credit_108 rfl ?_
        refine x_ialdN C (M_a1 hw.2.2.2.2) (ixl (x := (3 : Int32)) 3 rfl) (by decide) (by decide) dX12_credit_109 ?_
        refine x_istore [(5, .int (μ0.1 1 3)), (0, .ref b), (1, .int a1), (2, .int a2), (4, .int x4)] C dX12_credit_110 (by decide) rfl ?_
        refine x_sipush (1217 : Int32) C dX12_credit_112 rfl ?_
        refine x_iconst (4 : Int32) C dX12_credit_115 rfl ?_
        refine x_iload C dX12_credit_116 rfl ?_
        refine x_imul C dX12_credit_118 ?_
        refine x_iadd C dX12_credit_119 ?_
        refine x_istore [(6, .int ((1217 : Int32) + ((4 : Int32) * (μ0.1 1 3)))), (5, .int (μ0.1 1 3)), (0, .ref b), (1, .int a1), (2, .int a2), (4, .int x4)] C dX12_credit_120 (by decide) rfl ?_
        refine x_aload_n C dX12_credit_122 rfl ?_
        refine x_get (.ref (b + 1)) C fl_X12_17 (M_obj hw.2.2.2.2) rfl dX12_credit_123 ?_
        refine x_iload C dX12_credit_126 rfl ?_
        refine x_iconst (0 : Int32) C dX12_credit_128 rfl ?_
        refine x_iadd C dX12_credit_129 ?_
        refine x_iload_n C dX12_credit_130 rfl ?_
        obtain ⟨h15, hF⟩ := asr_e hF
        obtain ⟨hn16, hl17⟩ := vpn h15 (by decide)
        refine m_iast 1 C hw (by decide) (fun _ => rfl) hn16 hl17 (by decide) dX12_credit_131 hS (fun H locs hw hS => ?_)
        obtain ⟨μ18, hm19, hF⟩ := bnd_e hF
        have hw : RX D cA s0 z b μ18 H := rv_m (W := fun m => RX D cA s0 z b m _) hm19 hw
        refine x_aload_n C dX12_credit_132 rfl ?_
        refine x_get (.ref (b + 1)) C fl_X12_17 (M_obj hw.2.2.2.2) rfl dX12_credit_133 ?_
        refine x_iload C dX12_credit_136 rfl ?_
        refine x_iconst (1 : Int32) C dX12_credit_138 rfl ?_
        refine x_iadd C dX12_credit_139 ?_
        refine x_iload_n C dX12_credit_140 rfl ?_
        obtain ⟨h20, hF⟩ := asr_e hF
        obtain ⟨hn21, hl22⟩ := vpn h20 (by decide)
        refine m_iast 1 C hw (by decide) (fun _ => rfl) hn21 hl22 (by decide) dX12_credit_141 hS (fun H locs hw hS => ?_)
        obtain ⟨μ23, hm24, hF⟩ := bnd_e hF
        have hw : RX D cA s0 z b μ23 H := rv_m (W := fun m => RX D cA s0 z b m _) hm24 hw
        refine x_aload_n C dX12_credit_142 rfl ?_
        refine x_get (.ref (b + 1)) C fl_X12_17 (M_obj hw.2.2.2.2) rfl dX12_credit_143 ?_
        refine x_iload C dX12_credit_146 rfl ?_
        refine x_iconst (2 : Int32) C dX12_credit_148 rfl ?_
        refine x_iadd C dX12_credit_149 ?_
        refine x_aload_n C dX12_credit_150 rfl ?_
        refine x_get (.ref (b + 1)) C fl_X12_17 (M_obj hw.2.2.2.2) rfl dX12_credit_151 ?_
        refine x_iconst (5 : Int32) C dX12_credit_154 rfl ?_
        refine x_ialdN C (M_a1 hw.2.2.2.2) (ixl (x := (5 : Int32)) 5 rfl) (by decide) (by decide) dX12_credit_155 ?_
        obtain ⟨h25, hF⟩ := asr_e hF
        obtain ⟨hn26, hl27⟩ := vpn h25 (by decide)
        refine m_iast 1 C hw (by decide) (fun _ => rfl) hn26 hl27 (by decide) dX12_credit_156 hS (fun H locs hw hS => ?_)
        obtain ⟨μ28, hm29, hF⟩ := bnd_e hF
        have hw : RX D cA s0 z b μ28 H := rv_m (W := fun m => RX D cA s0 z b m _) hm29 hw
        refine x_aload_n C dX12_credit_157 rfl ?_
        refine x_get (.ref (b + 1)) C fl_X12_17 (M_obj hw.2.2.2.2) rfl dX12_credit_158 ?_
        refine x_iload C dX12_credit_161 rfl ?_
        refine x_iconst (3 : Int32) C dX12_credit_163 rfl ?_
        refine x_iadd C dX12_credit_164 ?_
        refine x_iload C dX12_credit_165 rfl ?_
        refine x_ineg C dX12_credit_167 ?_
        obtain ⟨h30, hF⟩ := asr_e hF
        obtain ⟨hn31, hl32⟩ := vpn h30 (by decide)
        refine m_iast 1 C hw (by decide) (fun _ => rfl) hn31 hl32 (by decide) dX12_credit_168 hS (fun H locs hw hS => ?_)
        obtain ⟨μ33, hm34, hF⟩ := bnd_e hF
        have hw : RX D cA s0 z b μ33 H := rv_m (W := fun m => RX D cA s0 z b m _) hm34 hw
        refine x_aload_n C dX12_credit_169 rfl ?_
        refine x_get (.ref (b + 1)) C fl_X12_17 (M_obj hw.2.2.2.2) rfl dX12_credit_170 ?_
        refine x_sipush (617 : Int32) C dX12_credit_173 rfl ?_
        refine x_bipush (10 : Int32) C dX12_credit_176 rfl ?_
        refine x_iload_n C dX12_credit_178 rfl ?_
        refine x_imul C dX12_credit_179 ?_
        refine x_iadd C dX12_credit_180 ?_
        refine x_iconst (4 : Int32) C dX12_credit_181 rfl ?_
        refine x_iadd C dX12_credit_182 ?_
        refine x_dup2_11 C dX12_credit_183 rfl rfl ?_
        obtain ⟨h35, hF⟩ := asr_e hF
        obtain ⟨hn36, hl37⟩ := vpn h35 (by decide)
        refine x_ialdN C (M_a1 hw.2.2.2.2) hn36 hl37 (by decide) dX12_credit_184 ?_
        refine x_iload_n C dX12_credit_185 rfl ?_
        refine x_ior C dX12_credit_186 ?_
        refine m_iast 1 C hw (by decide) (fun _ => rfl) hn36 hl37 (by decide) dX12_credit_187 hS (fun H locs hw hS => ?_)
        obtain ⟨μ38, hm39, hF⟩ := bnd_e hF
        have hw : RX D cA s0 z b μ38 H := rv_m (W := fun m => RX D cA s0 z b m _) hm39 hw
        refine x_aload_n C dX12_credit_188 rfl ?_
        refine x_get (.ref (b + 1)) C fl_X12_17 (M_obj hw.2.2.2.2) rfl dX12_credit_189 ?_
        refine x_iconst (3 : Int32) C dX12_credit_192 rfl ?_
        refine x_dup2_11 C dX12_credit_193 rfl rfl ?_
        refine x_ialdN C (M_a1 hw.2.2.2.2) (ixl (x := (3 : Int32)) 3 rfl) (by decide) (by decide) dX12_credit_194 ?_
        refine x_iconst (1 : Int32) C dX12_credit_195 rfl ?_
        refine x_iadd C dX12_credit_196 ?_
        refine m_iast 1 C hw (by decide) (fun _ => rfl) (ixl (x := (3 : Int32)) 3 rfl) (by decide) (by decide) dX12_credit_197 hS (fun H locs hw hS => ?_)
        obtain ⟨μ40, hm41, hF⟩ := bnd_e hF
        have hw : RX D cA s0 z b μ40 H := rv_m (W := fun m => RX D cA s0 z b m _) hm41 hw
        refine x_iload C dX12_credit_198 rfl ?_
        exact x_iretM2 C rfl dX12_credit_200  (rm_i hF) (rm_m (W := fun m => RX D cA s0 z b m _) hF hw) hS (nb rfl) (nb rfl)
      · have hF := ite_f hF c14
        refine x_iload C dX12_credit_73 rfl ?_
        refine x_iload_n C dX12_credit_75 rfl ?_
        refine x_iload C dX12_credit_76 rfl ?_
        obtain ⟨q42, hq43, hF⟩ := bnd_e hF
        have hq43 := Option.some.inj hq43
        have K44 := c_X12_has l D cA s0 a2 x5 
        rw [hq43] at K44
        refine x_goR (fun ls h => x_runS (As := [.int a2, .int x5]) [.int x4] h C ml_X12_308 K44 ⟨rfl, rfl, nb rfl, nb rfl⟩ rfl trivial (nb rfl) ⟨Nat.zero_le _, Nat.zero_le _⟩ dX12_credit_78) ?_
        refine x_ifB_eq 94 C dX12_credit_81 (by decide) (fun c45 => ?_) (fun c45 => ?_)
        · have hF := ite_f hF (nbt c45)
          refine x_iconst (0 : Int32) C dX12_credit_94 rfl ?_
          refine x_iadd C dX12_credit_95 ?_
          refine x_istore [(4, .int (x4 + (0 : Int32))), (0, .ref b), (1, .int a1), (2, .int a2), (5, .int x5)] C dX12_credit_96 (by decide) rfl ?_
          refine x_iinc (x5 + (1 : Int32)) [(5, .int (x5 + (1 : Int32))), (4, .int (x4 + (0 : Int32))), (0, .ref b), (1, .int a1), (2, .int a2)] C dX12_credit_98 rfl rfl (by decide) rfl ?_
          refine x_goto 67 C dX12_credit_101 (by decide) ?_
          refine x_sub [(0, .ref b), (1, .int a1), (2, .int a2), (4, .int (x4 + (0 : Int32))), (5, .int (x5 + (1 : Int32)))] [2, 3, 4, 1, 0] rfl ?_
          exact ih67 μ0 (x4 + (0 : Int32)) (x5 + (1 : Int32)) _ _ hw hS hF
        · have hF := ite_t hF c45
          refine x_aload_n C dX12_credit_84 rfl ?_
          refine x_iload_n C dX12_credit_85 rfl ?_
          refine x_iload C dX12_credit_86 rfl ?_
          obtain ⟨h46, hF⟩ := asr_e hF
          obtain ⟨h47, hF⟩ := asr_e hF
          obtain ⟨q48, hq49, hF⟩ := bnd_e hF
          have hq49 := Option.some.inj hq49
          have K50 := c_X12_lineIn l D cA s0 b μ0 a1 x5 h46 h47
          rw [hq49] at K50
          refine x_goR (fun ls h => x_runV (As := [.int a1, .int x5]) [.int x4] h C ml_X12_365 K50 ⟨rfl, rfl, nb rfl, nb rfl⟩ rfl (M_obj hw.2.2.2.2) rfl hw.2.2.2.2 (nb rfl) ⟨Nat.zero_le _, Nat.zero_le _⟩ dX12_credit_88) ?_
          refine x_goto 95 C dX12_credit_91 (by decide) ?_
          refine x_iadd C dX12_credit_95 ?_
          refine x_istore [(4, .int (x4 + q48)), (0, .ref b), (1, .int a1), (2, .int a2), (5, .int x5)] C dX12_credit_96 (by decide) rfl ?_
          refine x_iinc (x5 + (1 : Int32)) [(5, .int (x5 + (1 : Int32))), (4, .int (x4 + q48)), (0, .ref b), (1, .int a1), (2, .int a2)] C dX12_credit_98 rfl rfl (by decide) rfl ?_
          refine x_goto 67 C dX12_credit_101 (by decide) ?_
          refine x_sub [(0, .ref b), (1, .int a1), (2, .int a2), (4, .int (x4 + q48)), (5, .int (x5 + (1 : Int32)))] [2, 3, 4, 1, 0] rfl ?_
          exact ih67 μ0 (x4 + q48) (x5 + (1 : Int32)) _ _ hw hS hF
  have h_J49 : ∀ (μ0 : Mm) (y0 : Bool) (y1 : Bool) (y2 : Bool) (H : Heap) (locs : List Loc) (hw : RX D cA s0 z b μ0 H) (hS : va_S (xA b 8 s.heap.size) s.heap H locs), g_X12_credit_J49 ν a1 a2 μ0 y0 y1 y2 = some r → xW p l e { frames := 2, cells := 0, slots := 0, locals := 46 } s m args below meth c 7 (MQ below (xQm (some (.int r.1)) (fun H => RX D cA s0 z b r.2 H) (xA b 8 s.heap.size)) args s 0 0 (xA b 8 s.heap.size)) H locs 0 0 49 [(0, .ref b), (1, .int a1), (2, .int a2)] [.int (bI y0), .int (bI y1), .int (bI y2), .ref b] := by
    intro μ0 y0 y1 y2 H locs hw hS hF
    obtain ⟨q8, hq9, hF⟩ := bnd_e hF
    have hq9 := Option.some.inj hq9
    have K10 := c_X12_passes3 l D cA s0 b μ0 H.size y2 y1 y0 
    rw [hq9] at K10
    have hwo := hw
    refine x_goM (fun ls h => x_runV (As := [.int (bI y2), .int (bI y1), .int (bI y0)]) [] h C ml_X12_7 K10 ⟨rfl, rfl, nb rfl, nb rfl⟩ rfl (M_obj hw.2.2.2.2) rfl ⟨rfl, hw.2.2.2.2⟩ (nb rfl) ⟨Nat.zero_le _, Nat.zero_le _⟩ dX12_credit_49) hS (xA_le hS) (fun H locs hw hz hk hS => ?_)
    have hw : RX D cA s0 z b q8.2 H := RX.of hwo hw hz hk
    refine x_ifB_ne 57 C dX12_credit_52 (by decide) (fun c11 => ?_) (fun c11 => ?_)
    · have hF := ite_t hF c11
      refine x_aload_n C dX12_credit_57 rfl ?_
      obtain ⟨q12, hq13, hF⟩ := bnd_e hF
      refine x_goM (fun ls h => x_runV (As := []) [] h C ml_X12_231 (k_X12_remember l D cA s0 z b q8.2 _ hG q12 hq13) ⟨rfl, rfl, nb rfl, nb rfl⟩ rfl (M_obj hw.2.2.2.2) rfl ⟨rfl, hw⟩ (nb rfl) ⟨Nat.zero_le _, Nat.zero_le _⟩ dX12_credit_58) hS (xA_le hS) (fun H locs hw hz hk hS => ?_)
      have hw : RX D cA s0 z b q12 H := hw
      refine x_iconst (0 : Int32) C dX12_credit_61 rfl ?_
      refine x_istore [(4, .int (0 : Int32)), (0, .ref b), (1, .int a1), (2, .int a2)] C dX12_credit_62 (by decide) rfl ?_
      refine x_iconst (0 : Int32) C dX12_credit_64 rfl ?_
      refine x_istore [(5, .int (0 : Int32)), (4, .int (0 : Int32)), (0, .ref b), (1, .int a1), (2, .int a2)] C dX12_credit_65 (by decide) rfl ?_
      refine x_sub [(0, .ref b), (1, .int a1), (2, .int a2), (4, .int (0 : Int32)), (5, .int (0 : Int32))] [2, 3, 4, 1, 0] rfl ?_
      exact h_L67 10000 q12 (0 : Int32) (0 : Int32) _ _ hw hS hF
    · have hF := ite_f hF (nbt c11)
      refine x_iconst (0 : Int32) C dX12_credit_55 rfl ?_
      exact x_iretM2 C rfl dX12_credit_56  (rm_i hF) (rm_m (W := fun m => RX D cA s0 z b m _) hF hw) hS (nb rfl) (nb rfl)
  have h_J48 : ∀ (μ0 : Mm) (y0 : Bool) (y1 : Bool) (H : Heap) (locs : List Loc) (hw : RX D cA s0 z b μ0 H) (hS : va_S (xA b 8 s.heap.size) s.heap H locs), g_X12_credit_J48 ν a1 a2 μ0 y0 y1 = some r → xW p l e { frames := 2, cells := 0, slots := 0, locals := 46 } s m args below meth c 7 (MQ below (xQm (some (.int r.1)) (fun H => RX D cA s0 z b r.2 H) (xA b 8 s.heap.size)) args s 0 0 (xA b 8 s.heap.size)) H locs 0 0 48 [(0, .ref b), (1, .int a1), (2, .int a2)] [.int (bI y0), .int (bI y1), .ref b] := by
    intro μ0 y0 y1 H locs hw hS hF
    refine x_iconst (0 : Int32) C dX12_credit_48 rfl ?_
    exact h_J49 μ0 false y0 y1 _ _ hw hS hF
  refine x_aload_n C dX12_credit_0 rfl ?_
  refine x_iload_n C dX12_credit_1 rfl ?_
  obtain ⟨q1, hq2, hF⟩ := bnd_e hF
  have hq2 := Option.some.inj hq2
  have K3 := c_X12_isInvoice l D cA s0 b ν a1 
  rw [hq2] at K3
  refine x_goR (fun ls h => x_runV (As := [.int a1]) [] h C ml_X12_380 K3 ⟨rfl, rfl, nb rfl, nb rfl⟩ rfl (M_obj hw.2.2.2.2) rfl hw.2.2.2.2 (nb rfl) ⟨Nat.zero_le _, Nat.zero_le _⟩ dX12_credit_2) ?_
  refine x_istore_n [(3, .int (bI q1)), (0, .ref b), (1, .int a1), (2, .int a2)] C dX12_credit_5 rfl (by decide) rfl ?_
  refine x_aload_n C dX12_credit_6 rfl ?_
  refine x_iload_n C dX12_credit_7 rfl ?_
  refine x_iload_n C dX12_credit_8 rfl ?_
  refine x_i2l C dX12_credit_9 ?_
  refine x_lconst (1 : Int64) C dX12_credit_10 rfl ?_
  refine x_ldc2 (15 : Int64) C cl_X12_423 dX12_credit_11 ?_
  obtain ⟨q4, hq5, hF⟩ := bnd_e hF
  have hq5 := Option.some.inj hq5
  have K6 := c_X12_in l D cA s0 a2.toInt64 (1 : Int64) (15 : Int64) 
  rw [hq5] at K6
  refine x_goR (fun ls h => x_runS (As := [.long a2.toInt64, .long (1 : Int64), .long (15 : Int64)]) [.int (bI q1), .ref b] h C ml_X12_47 K6 ⟨rfl, rfl, nb rfl, nb rfl⟩ rfl trivial (nb rfl) ⟨Nat.zero_le _, Nat.zero_le _⟩ dX12_credit_14) ?_
  refine x_iload_n C dX12_credit_17 rfl ?_
  refine x_ifB_eq 48 C dX12_credit_18 (by decide) (fun c7 => ?_) (fun c7 => ?_)
  · have hF := ite_f hF (nbt c7)
    refine x_sub [(0, .ref b), (1, .int a1), (2, .int a2)] [1, 2, 3] rfl ?_
    exact h_J48 ν q4 q1 _ _ hw hS hF
  · have hF := ite_t hF c7
    refine x_iload_n C dX12_credit_21 rfl ?_
    refine x_aload_n C dX12_credit_22 rfl ?_
    refine x_iload_n C dX12_credit_23 rfl ?_
    obtain ⟨h51, hF⟩ := asr_e hF
    obtain ⟨q52, hq53, hF⟩ := bnd_e hF
    have hq53 := Option.some.inj hq53
    have K54 := c_X12_livingLines l D cA s0 b ν a1 h51
    rw [hq53] at K54
    refine x_goR (fun ls h => x_runV (As := [.int a1]) [.int a2, .int (bI q4), .int (bI q1), .ref b] h C ml_X12_362 K54 ⟨rfl, rfl, nb rfl, nb rfl⟩ rfl (M_obj hw.2.2.2.2) rfl hw.2.2.2.2 (nb rfl) ⟨Nat.zero_le _, Nat.zero_le _⟩ dX12_credit_24) ?_
    refine x_iconst (-1 : Int32) C dX12_credit_27 rfl ?_
    refine x_ixor C dX12_credit_28 ?_
    refine x_iand C dX12_credit_29 ?_
    refine x_if_ne 48 C dX12_credit_30 (by decide) (fun c55 => ?_) (fun c55 => ?_)
    · have hF := ite_f hF c55
      refine x_sub [(0, .ref b), (1, .int a1), (2, .int a2)] [1, 2, 3] rfl ?_
      exact h_J48 ν q4 q1 _ _ hw hS hF
    · have hF := ite_t hF c55
      refine x_aload_n C dX12_credit_33 rfl ?_
      refine x_get (.ref (b + 1)) C fl_X12_17 (M_obj hw.2.2.2.2) rfl dX12_credit_34 ?_
      refine x_iconst (3 : Int32) C dX12_credit_37 rfl ?_
      refine x_ialdN C (M_a1 hw.2.2.2.2) (ixl (x := (3 : Int32)) 3 rfl) (by decide) (by decide) dX12_credit_38 ?_
      refine x_bipush (40 : Int32) C dX12_credit_39 rfl ?_
      refine x_icmp_ge 48 C dX12_credit_41 (by decide) (fun c56 => ?_) (fun c56 => ?_)
      · have hF := ite_t hF c56
        refine x_sub [(0, .ref b), (1, .int a1), (2, .int a2)] [1, 2, 3] rfl ?_
        exact h_J48 ν q4 q1 _ _ hw hS hF
      · have hF := ite_f hF c56
        refine x_iconst (1 : Int32) C dX12_credit_44 rfl ?_
        refine x_goto 49 C dX12_credit_45 (by decide) ?_
        refine x_sub [(0, .ref b), (1, .int a1), (2, .int a2)] [1, 2, 3] rfl ?_
        exact h_J49 ν true q4 q1 _ _ hw hS hF
noncomputable def g_X12_dispute_J65 (ν : Mm) (a1 : Int32) (a2 : Int32) (μ0 : Mm) (y0 : Bool) (y1 : Bool) (y2 : Bool) : Option (Int32 × Mm) := bnd (some (f_X12_passes3 μ0 y2 y1 y0)) (fun q6 => (if q6.1 = true then bnd (g_X12_remember q6.2) (fun q10 => asr (vp_in a1 41) (bnd (some (f_X12_ofCall q10 a1 (5 : Int32))) (fun q13 => bnd (g_X12_setCall q10 a1 (5 : Int32) (q13 ||| ((1 : Int32) <<< (a2 &&& 31)))) (fun q16 => bnd (some (f_X12_ofCall q16 a1 (5 : Int32))) (fun q18 => bnd (some (f_X12_bits q18)) (fun q21 => some (q21, q16))))))) else some ((0 : Int32), q6.2)))
noncomputable def g_X12_dispute_J64 (ν : Mm) (a1 : Int32) (a2 : Int32) (μ0 : Mm) (y0 : Bool) (y1 : Bool) : Option (Int32 × Mm) := (g_X12_dispute_J65 ν a1 a2 μ0 false y0 y1)
noncomputable def g_X12_dispute_J28 (ν : Mm) (a1 : Int32) (a2 : Int32) (μ0 : Mm) (x3 : Bool) (y0 : Bool) : Option (Int32 × Mm) := (if y0 = true then asr (vp_in a1 41) (bnd (some (f_X12_contestedSet μ0 a1)) (fun q25 => bnd (some (f_X12_has q25 a2)) (fun q28 => (if q28 = true then (g_X12_dispute_J64 ν a1 a2 μ0 y0 x3) else bnd (some (f_X12_ofCall μ0 a1 (4 : Int32))) (fun q32 => (if q32 = 0 then (g_X12_dispute_J65 ν a1 a2 μ0 true y0 x3) else (g_X12_dispute_J64 ν a1 a2 μ0 y0 x3))))))) else (g_X12_dispute_J64 ν a1 a2 μ0 y0 x3))
noncomputable def g_X12_dispute_J27 (ν : Mm) (a1 : Int32) (a2 : Int32) (μ0 : Mm) (x3 : Bool) : Option (Int32 × Mm) := (g_X12_dispute_J28 ν a1 a2 μ0 x3 false)
noncomputable def g_X12_dispute (ν : Mm) (a1 : Int32) (a2 : Int32) : Option (Int32 × Mm) := bnd (some (f_X12_isCall ν a1)) (fun q1 => (if q1 = true then asr (OkR (ν.1 1)) (asr (vp_in a1 41) (bnd (some (f_X12_laySet ν a1)) (fun q38 => bnd (some (f_X12_isDayIn ν q38 a2)) (fun q41 => (if q41 = true then (g_X12_dispute_J28 ν a1 a2 ν q1 true) else (g_X12_dispute_J27 ν a1 a2 ν q1)))))) else (g_X12_dispute_J27 ν a1 a2 ν q1)))
set_option maxRecDepth 20000 in
set_option maxHeartbeats 4000000 in
theorem k_X12_dispute (l : Launch) (D : va_G) (cA : Nat → ClassId) (s0 : State) (z : Nat) (b : Nat) (ν : Mm) (sz : Nat) (hG : xG l D cA s0) (a1 : Int32) (a2 : Int32) (r : Int32 × Mm) (hF : g_X12_dispute ν a1 a2 = some r) : Met l yX12_dispute (wsG yX12_dispute cX12_dispute 5 (some (FieldType.int))) { frames := 3, cells := 0, slots := 0, locals := 64 } (xP D cA s0 [.ref b, .int a1, .int a2] (fun H => H.size = sz ∧ RX D cA s0 z b ν H)) (xQm (some (.int r.1)) (fun H => RX D cA s0 z b r.2 H) (xA b 8 sz)) 0 0 (xA b 8 sz) := by
  refine x_start (own := RX12) [(0, .ref b), (1, .int a1), (2, .int a2)] rfl rfl (by decide) (nb rfl) ?_
  intro p e s m args below meth c C hw
  obtain ⟨hsz, hw⟩ := hw
  subst hsz
  have hS : va_S (xA b 8 s.heap.size) s.heap s.heap [] := va_S.rf
  have h_J65 : ∀ (μ0 : Mm) (y0 : Bool) (y1 : Bool) (y2 : Bool) (H : Heap) (locs : List Loc) (hw : RX D cA s0 z b μ0 H) (hS : va_S (xA b 8 s.heap.size) s.heap H locs), g_X12_dispute_J65 ν a1 a2 μ0 y0 y1 y2 = some r → xW p l e { frames := 3, cells := 0, slots := 0, locals := 64 } s m args below meth c 5 (MQ below (xQm (some (.int r.1)) (fun H => RX D cA s0 z b r.2 H) (xA b 8 s.heap.size)) args s 0 0 (xA b 8 s.heap.size)) H locs 0 0 65 [(0, .ref b), (1, .int a1), (2, .int a2)] [.int (bI y0), .int (bI y1), .int (bI y2), .ref b] := by
    intro μ0 y0 y1 y2 H locs hw hS hF
    obtain ⟨q6, hq7, hF⟩ := bnd_e hF
    have hq7 := Option.some.inj hq7
    have K8 := c_X12_passes3 l D cA s0 b μ0 H.size y2 y1 y0 
    rw [hq7] at K8
    have hwo := hw
    refine x_goM (fun ls h => x_runV (As := [.int (bI y2), .int (bI y1), .int (bI y0)]) [] h C ml_X12_7 K8 ⟨rfl, rfl, nb rfl, nb rfl⟩ rfl (M_obj hw.2.2.2.2) rfl ⟨rfl, hw.2.2.2.2⟩ (nb rfl) ⟨Nat.zero_le _, Nat.zero_le _⟩ dX12_dispute_65) hS (xA_le hS) (fun H locs hw hz hk hS => ?_)
    have hw : RX D cA s0 z b q6.2 H := RX.of hwo hw hz hk
    refine x_ifB_ne 73 C dX12_dispute_68 (by decide) (fun c9 => ?_) (fun c9 => ?_)
    · have hF := ite_t hF c9
      refine x_aload_n C dX12_dispute_73 rfl ?_
      obtain ⟨q10, hq11, hF⟩ := bnd_e hF
      refine x_goM (fun ls h => x_runV (As := []) [] h C ml_X12_231 (k_X12_remember l D cA s0 z b q6.2 _ hG q10 hq11) ⟨rfl, rfl, nb rfl, nb rfl⟩ rfl (M_obj hw.2.2.2.2) rfl ⟨rfl, hw⟩ (nb rfl) ⟨Nat.zero_le _, Nat.zero_le _⟩ dX12_dispute_74) hS (xA_le hS) (fun H locs hw hz hk hS => ?_)
      have hw : RX D cA s0 z b q10 H := hw
      refine x_aload_n C dX12_dispute_77 rfl ?_
      refine x_iload_n C dX12_dispute_78 rfl ?_
      refine x_iconst (5 : Int32) C dX12_dispute_79 rfl ?_
      refine x_aload_n C dX12_dispute_80 rfl ?_
      refine x_iload_n C dX12_dispute_81 rfl ?_
      refine x_iconst (5 : Int32) C dX12_dispute_82 rfl ?_
      obtain ⟨h12, hF⟩ := asr_e hF
      obtain ⟨q13, hq14, hF⟩ := bnd_e hF
      have hq14 := Option.some.inj hq14
      have K15 := c_X12_ofCall l D cA s0 b q10 a1 (5 : Int32) h12 (ixin (ixl (x := (5 : Int32)) 5 rfl) (by decide) (by decide))
      rw [hq14] at K15
      refine x_goR (fun ls h => x_runV (As := [.int a1, .int (5 : Int32)]) [.int (5 : Int32), .int a1, .ref b] h C ml_X12_248 K15 ⟨rfl, rfl, nb rfl, nb rfl⟩ rfl (M_obj hw.2.2.2.2) rfl hw.2.2.2.2 (nb rfl) ⟨Nat.zero_le _, Nat.zero_le _⟩ dX12_dispute_83) ?_
      refine x_iconst (1 : Int32) C dX12_dispute_86 rfl ?_
      refine x_iload_n C dX12_dispute_87 rfl ?_
      refine x_ishl C dX12_dispute_88 ?_
      refine x_ior C dX12_dispute_89 ?_
      obtain ⟨q16, hq17, hF⟩ := bnd_e hF
      refine x_goM (fun ls h => x_runV (As := [.int a1, .int (5 : Int32), .int (q13 ||| ((1 : Int32) <<< (a2 &&& 31)))]) [] h C ml_X12_401 (k_X12_setCall l D cA s0 z b q10 _ hG a1 (5 : Int32) (q13 ||| ((1 : Int32) <<< (a2 &&& 31))) q16 hq17) ⟨rfl, rfl, nb rfl, nb rfl⟩ rfl (M_obj hw.2.2.2.2) rfl ⟨rfl, hw⟩ (nb rfl) ⟨Nat.zero_le _, Nat.zero_le _⟩ dX12_dispute_90) hS (xA_le hS) (fun H locs hw hz hk hS => ?_)
      have hw : RX D cA s0 z b q16 H := hw
      refine x_aload_n C dX12_dispute_93 rfl ?_
      refine x_iload_n C dX12_dispute_94 rfl ?_
      refine x_iconst (5 : Int32) C dX12_dispute_95 rfl ?_
      obtain ⟨q18, hq19, hF⟩ := bnd_e hF
      have hq19 := Option.some.inj hq19
      have K20 := c_X12_ofCall l D cA s0 b q16 a1 (5 : Int32) h12 (ixin (ixl (x := (5 : Int32)) 5 rfl) (by decide) (by decide))
      rw [hq19] at K20
      refine x_goR (fun ls h => x_runV (As := [.int a1, .int (5 : Int32)]) [] h C ml_X12_248 K20 ⟨rfl, rfl, nb rfl, nb rfl⟩ rfl (M_obj hw.2.2.2.2) rfl hw.2.2.2.2 (nb rfl) ⟨Nat.zero_le _, Nat.zero_le _⟩ dX12_dispute_96) ?_
      obtain ⟨q21, hq22, hF⟩ := bnd_e hF
      have hq22 := Option.some.inj hq22
      have K23 := c_X12_bits l D cA s0 q18 
      rw [hq22] at K23
      refine x_goR (fun ls h => x_runS (As := [.int q18]) [] h C ml_X12_251 K23 ⟨rfl, rfl, nb rfl, nb rfl⟩ rfl trivial (nb rfl) ⟨Nat.zero_le _, Nat.zero_le _⟩ dX12_dispute_99) ?_
      exact x_iretM2 C rfl dX12_dispute_102  (rm_i hF) (rm_m (W := fun m => RX D cA s0 z b m _) hF hw) hS (nb rfl) (nb rfl)
    · have hF := ite_f hF (nbt c9)
      refine x_iconst (0 : Int32) C dX12_dispute_71 rfl ?_
      exact x_iretM2 C rfl dX12_dispute_72  (rm_i hF) (rm_m (W := fun m => RX D cA s0 z b m _) hF hw) hS (nb rfl) (nb rfl)
  have h_J64 : ∀ (μ0 : Mm) (y0 : Bool) (y1 : Bool) (H : Heap) (locs : List Loc) (hw : RX D cA s0 z b μ0 H) (hS : va_S (xA b 8 s.heap.size) s.heap H locs), g_X12_dispute_J64 ν a1 a2 μ0 y0 y1 = some r → xW p l e { frames := 3, cells := 0, slots := 0, locals := 64 } s m args below meth c 5 (MQ below (xQm (some (.int r.1)) (fun H => RX D cA s0 z b r.2 H) (xA b 8 s.heap.size)) args s 0 0 (xA b 8 s.heap.size)) H locs 0 0 64 [(0, .ref b), (1, .int a1), (2, .int a2)] [.int (bI y0), .int (bI y1), .ref b] := by
    intro μ0 y0 y1 H locs hw hS hF
    refine x_iconst (0 : Int32) C dX12_dispute_64 rfl ?_
    exact h_J65 μ0 false y0 y1 _ _ hw hS hF
  have h_J28 : ∀ (μ0 : Mm) (x3 : Bool) (y0 : Bool) (H : Heap) (locs : List Loc) (hw : RX D cA s0 z b μ0 H) (hS : va_S (xA b 8 s.heap.size) s.heap H locs), g_X12_dispute_J28 ν a1 a2 μ0 x3 y0 = some r → xW p l e { frames := 3, cells := 0, slots := 0, locals := 64 } s m args below meth c 5 (MQ below (xQm (some (.int r.1)) (fun H => RX D cA s0 z b r.2 H) (xA b 8 s.heap.size)) args s 0 0 (xA b 8 s.heap.size)) H locs 0 0 28 [(0, .ref b), (1, .int a1), (2, .int a2), (3, .int (bI x3))] [.int (bI y0)] := by
    intro μ0 x3 y0 H locs hw hS hF
    refine x_istore [(4, .int (bI y0)), (0, .ref b), (1, .int a1), (2, .int a2), (3, .int (bI x3))] C dX12_dispute_28 (by decide) rfl ?_
    refine x_aload_n C dX12_dispute_30 rfl ?_
    refine x_iload_n C dX12_dispute_31 rfl ?_
    refine x_iload C dX12_dispute_32 rfl ?_
    refine x_iload C dX12_dispute_34 rfl ?_
    refine x_ifB_eq 64 C dX12_dispute_36 (by decide) (fun c5 => ?_) (fun c5 => ?_)
    · have hF := ite_f hF (nbt c5)
      refine x_sub [(0, .ref b), (1, .int a1), (2, .int a2)] [1, 2, 3] rfl ?_
      exact h_J64 μ0 y0 x3 _ _ hw hS hF
    · have hF := ite_t hF c5
      refine x_aload_n C dX12_dispute_39 rfl ?_
      refine x_iload_n C dX12_dispute_40 rfl ?_
      obtain ⟨h24, hF⟩ := asr_e hF
      obtain ⟨q25, hq26, hF⟩ := bnd_e hF
      have hq26 := Option.some.inj hq26
      have K27 := c_X12_contestedSet l D cA s0 b μ0 a1 h24
      rw [hq26] at K27
      refine x_goR (fun ls h => x_runV (As := [.int a1]) [.int (bI y0), .int (bI x3), .ref b] h C ml_X12_317 K27 ⟨rfl, rfl, nb rfl, nb rfl⟩ rfl (M_obj hw.2.2.2.2) rfl hw.2.2.2.2 (nb rfl) ⟨Nat.zero_le _, Nat.zero_le _⟩ dX12_dispute_41) ?_
      refine x_iload_n C dX12_dispute_44 rfl ?_
      obtain ⟨q28, hq29, hF⟩ := bnd_e hF
      have hq29 := Option.some.inj hq29
      have K30 := c_X12_has l D cA s0 q25 a2 
      rw [hq29] at K30
      refine x_goR (fun ls h => x_runS (As := [.int q25, .int a2]) [.int (bI y0), .int (bI x3), .ref b] h C ml_X12_308 K30 ⟨rfl, rfl, nb rfl, nb rfl⟩ rfl trivial (nb rfl) ⟨Nat.zero_le _, Nat.zero_le _⟩ dX12_dispute_45) ?_
      refine x_ifB_ne 64 C dX12_dispute_48 (by decide) (fun c31 => ?_) (fun c31 => ?_)
      · have hF := ite_t hF c31
        refine x_sub [(0, .ref b), (1, .int a1), (2, .int a2)] [1, 2, 3] rfl ?_
        exact h_J64 μ0 y0 x3 _ _ hw hS hF
      · have hF := ite_f hF (nbt c31)
        refine x_aload_n C dX12_dispute_51 rfl ?_
        refine x_iload_n C dX12_dispute_52 rfl ?_
        refine x_iconst (4 : Int32) C dX12_dispute_53 rfl ?_
        obtain ⟨q32, hq33, hF⟩ := bnd_e hF
        have hq33 := Option.some.inj hq33
        have K34 := c_X12_ofCall l D cA s0 b μ0 a1 (4 : Int32) h24 (ixin (ixl (x := (4 : Int32)) 4 rfl) (by decide) (by decide))
        rw [hq33] at K34
        refine x_goR (fun ls h => x_runV (As := [.int a1, .int (4 : Int32)]) [.int (bI y0), .int (bI x3), .ref b] h C ml_X12_248 K34 ⟨rfl, rfl, nb rfl, nb rfl⟩ rfl (M_obj hw.2.2.2.2) rfl hw.2.2.2.2 (nb rfl) ⟨Nat.zero_le _, Nat.zero_le _⟩ dX12_dispute_54) ?_
        refine x_if_ne 64 C dX12_dispute_57 (by decide) (fun c35 => ?_) (fun c35 => ?_)
        · have hF := ite_f hF c35
          refine x_sub [(0, .ref b), (1, .int a1), (2, .int a2)] [1, 2, 3] rfl ?_
          exact h_J64 μ0 y0 x3 _ _ hw hS hF
        · have hF := ite_t hF c35
          refine x_iconst (1 : Int32) C dX12_dispute_60 rfl ?_
          refine x_goto 65 C dX12_dispute_61 (by decide) ?_
          refine x_sub [(0, .ref b), (1, .int a1), (2, .int a2)] [1, 2, 3] rfl ?_
          exact h_J65 μ0 true y0 x3 _ _ hw hS hF
  have h_J27 : ∀ (μ0 : Mm) (x3 : Bool) (H : Heap) (locs : List Loc) (hw : RX D cA s0 z b μ0 H) (hS : va_S (xA b 8 s.heap.size) s.heap H locs), g_X12_dispute_J27 ν a1 a2 μ0 x3 = some r → xW p l e { frames := 3, cells := 0, slots := 0, locals := 64 } s m args below meth c 5 (MQ below (xQm (some (.int r.1)) (fun H => RX D cA s0 z b r.2 H) (xA b 8 s.heap.size)) args s 0 0 (xA b 8 s.heap.size)) H locs 0 0 27 [(0, .ref b), (1, .int a1), (2, .int a2), (3, .int (bI x3))] [] := by
    intro μ0 x3 H locs hw hS hF
    refine x_iconst (0 : Int32) C dX12_dispute_27 rfl ?_
    exact h_J28 μ0 x3 false _ _ hw hS hF
  refine x_aload_n C dX12_dispute_0 rfl ?_
  refine x_iload_n C dX12_dispute_1 rfl ?_
  obtain ⟨q1, hq2, hF⟩ := bnd_e hF
  have hq2 := Option.some.inj hq2
  have K3 := c_X12_isCall l D cA s0 b ν a1 
  rw [hq2] at K3
  refine x_goR (fun ls h => x_runV (As := [.int a1]) [] h C ml_X12_345 K3 ⟨rfl, rfl, nb rfl, nb rfl⟩ rfl (M_obj hw.2.2.2.2) rfl hw.2.2.2.2 (nb rfl) ⟨Nat.zero_le _, Nat.zero_le _⟩ dX12_dispute_2) ?_
  refine x_istore_n [(3, .int (bI q1)), (0, .ref b), (1, .int a1), (2, .int a2)] C dX12_dispute_5 rfl (by decide) rfl ?_
  refine x_iload_n C dX12_dispute_6 rfl ?_
  refine x_ifB_eq 27 C dX12_dispute_7 (by decide) (fun c4 => ?_) (fun c4 => ?_)
  · have hF := ite_f hF (nbt c4)
    refine x_sub [(0, .ref b), (1, .int a1), (2, .int a2), (3, .int (bI q1))] [1, 2, 3, 0] rfl ?_
    exact h_J27 ν q1 _ _ hw hS hF
  · have hF := ite_t hF c4
    refine x_aload_n C dX12_dispute_10 rfl ?_
    refine x_aload_n C dX12_dispute_11 rfl ?_
    refine x_iload_n C dX12_dispute_12 rfl ?_
    obtain ⟨h36, hF⟩ := asr_e hF
    obtain ⟨h37, hF⟩ := asr_e hF
    obtain ⟨q38, hq39, hF⟩ := bnd_e hF
    have hq39 := Option.some.inj hq39
    have K40 := c_X12_laySet l D cA s0 b ν h36 a1 h37
    rw [hq39] at K40
    refine x_goR (fun ls h => x_runV (As := [.int a1]) [.ref b] h C ml_X12_311 K40 ⟨rfl, rfl, nb rfl, nb rfl⟩ rfl (M_obj hw.2.2.2.2) rfl hw.2.2.2.2 (nb rfl) ⟨Nat.zero_le _, Nat.zero_le _⟩ dX12_dispute_13) ?_
    refine x_iload_n C dX12_dispute_16 rfl ?_
    obtain ⟨q41, hq42, hF⟩ := bnd_e hF
    have hq42 := Option.some.inj hq42
    have K43 := c_X12_isDayIn l D cA s0 b ν q38 a2 
    rw [hq42] at K43
    refine x_goR (fun ls h => x_runV (As := [.int q38, .int a2]) [] h C ml_X12_427 K43 ⟨rfl, rfl, nb rfl, nb rfl⟩ rfl (M_obj hw.2.2.2.2) rfl hw.2.2.2.2 (nb rfl) ⟨Nat.zero_le _, Nat.zero_le _⟩ dX12_dispute_17) ?_
    refine x_ifB_eq 27 C dX12_dispute_20 (by decide) (fun c44 => ?_) (fun c44 => ?_)
    · have hF := ite_f hF (nbt c44)
      refine x_sub [(0, .ref b), (1, .int a1), (2, .int a2), (3, .int (bI q1))] [1, 2, 3, 0] rfl ?_
      exact h_J27 ν q1 _ _ hw hS hF
    · have hF := ite_t hF c44
      refine x_iconst (1 : Int32) C dX12_dispute_23 rfl ?_
      refine x_goto 28 C dX12_dispute_24 (by decide) ?_
      refine x_sub [(0, .ref b), (1, .int a1), (2, .int a2), (3, .int (bI q1))] [1, 2, 3, 0] rfl ?_
      exact h_J28 ν q1 true _ _ hw hS hF
