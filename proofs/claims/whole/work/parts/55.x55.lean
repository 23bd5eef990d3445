noncomputable def g_X12_writeText_L2 (ν : Mm) (a1 : Nat) : Nat → Mm → Int32 → Option (Mm)
  | 0, _, _ => none
  | n + 1, μ0, x2 => (if (nI (slen a1)) ≤ x2 then some μ0 else asr (vp_in x2 (slen a1)) (bnd (g_X12_write μ0 (schar a1 (cl x2))) (fun q13 => (g_X12_writeText_L2 ν a1 n q13 (x2 + (1 : Int32))))))
noncomputable def g_X12_writeText (ν : Mm) (a1 : Nat) : Option (Mm) := (g_X12_writeText_L2 ν a1 10000 ν (0 : Int32))
set_option maxRecDepth 20000 in
set_option maxHeartbeats 4000000 in
theorem k_X12_writeText (l : Launch) (D : va_G) (cA : Nat → ClassId) (s0 : State) (z : Nat) (b : Nat) (ν : Mm) (sz : Nat) (hG : xG l D cA s0) (a1r : Nat) (a1 : Nat) (r : Mm) (hF : g_X12_writeText ν a1 = some r) : Met l yX12_writeText (wsG yX12_writeText cX12_writeText 3 none) { frames := 4, cells := 0, slots := 0, locals := 85 } (xP D cA s0 [.ref b, .ref a1r] (fun H => H.size = sz ∧ RX D cA s0 z b ν H ∧ Str D cA s0 z a1r a1 H)) (xQm none (fun H => RX D cA s0 z b r H) (xA b 8 sz)) 0 0 (xA b 8 sz) := by
  refine x_start (own := RX12) [(0, .ref b), (1, .ref a1r)] rfl rfl (by decide) (nb rfl) ?_
  intro p e s m args below meth c C hw
  obtain ⟨hsz, hw, hst0_a1⟩ := hw
  subst hsz
  have hS : va_S (xA b 8 s.heap.size) s.heap s.heap [] := va_S.rf
  have h_L2 : ∀ (n : Nat) (μ0 : Mm) (x2 : Int32) (H : Heap) (locs : List Loc) (hw : RX D cA s0 z b μ0 H) (hS : va_S (xA b 8 s.heap.size) s.heap H locs), g_X12_writeText_L2 ν a1 n μ0 x2 = some r → xW p l e { frames := 4, cells := 0, slots := 0, locals := 85 } s m args below meth c 3 (MQ below (xQm none (fun H => RX D cA s0 z b r H) (xA b 8 s.heap.size)) args s 0 0 (xA b 8 s.heap.size)) H locs 0 0 2 [(0, .ref b), (1, .ref a1r), (2, .int x2)] [] := by
    intro n
    induction n with
    | zero =>
      intro μ0 x2 H locs hw hS hF
      exact no_some hF
    | succ n ih =>
      intro μ0 x2 H locs hw hS hF
      have ih2 := ih
      refine x_iload_n C dX12_writeText_2 rfl ?_
      refine x_aload_n C dX12_writeText_3 rfl ?_
      have hx4 := (Str.now hst0_a1 hw.1 hw.2.1 hS)
      obtain ⟨hk1, -, v2, -, hs3⟩ := hx4
      refine x_goR (fun ls h => x_runVS (As := []) [.int x2] h C ml_X12_114 (cJ_length l D cA s0 hG.2.2.1 a1r v2 a1) ⟨rfl, rfl, nb rfl, nb rfl⟩ rfl hs3 ⟨hw.2.2.2.1, hk1, hs3⟩ (nb rfl) ⟨Nat.zero_le _, Nat.zero_le _⟩ dX12_writeText_4) ?_
      refine x_icmp_ge 25 C dX12_writeText_7 (by decide) (fun c5 => ?_) (fun c5 => ?_)
      · have hF := ite_t hF c5
        exact x_vretM2 C rfl dX12_writeText_25 rfl (rv_m (W := fun m => RX D cA s0 z b m _) hF hw) hS (nb rfl) (nb rfl)
      · have hF := ite_f hF c5
        refine x_aload_n C dX12_writeText_10 rfl ?_
        refine x_aload_n C dX12_writeText_11 rfl ?_
        refine x_iload_n C dX12_writeText_12 rfl ?_
        have hx9 := (Str.now hst0_a1 hw.1 hw.2.1 hS)
        obtain ⟨hk6, -, v7, -, hs8⟩ := hx9
        obtain ⟨h10, hF⟩ := asr_e hF
        obtain ⟨hn11, hl12⟩ := vpn h10 slen_31
        refine x_topi (nI (cl x2)) hn11 ?_
        refine x_goR (fun ls h => x_runVS (As := [.int (nI (cl x2))]) [.ref b] h C ml_X12_120 (cJ_charAt l D cA s0 hG.2.2.1 a1r v7 a1 (cl x2) hl12) ⟨rfl, rfl, nb rfl, nb rfl⟩ rfl hs8 ⟨hw.2.2.2.1, hk6, hs8⟩ (nb rfl) ⟨Nat.zero_le _, Nat.zero_le _⟩ dX12_writeText_13) ?_
        obtain ⟨q13, hq14, hF⟩ := bnd_e hF
        refine x_goM (fun ls h => x_runV (As := [.int (schar a1 (cl x2))]) [] h C ml_X12_448 (k_X12_write l D cA s0 z b μ0 _ hG (schar a1 (cl x2)) q13 hq14) ⟨rfl, rfl, nb rfl, nb rfl⟩ rfl (M_obj hw.2.2.2.2) rfl ⟨rfl, hw⟩ (nb rfl) ⟨Nat.zero_le _, Nat.zero_le _⟩ dX12_writeText_16) hS (xA_le hS) (fun H locs hw hz hk hS => ?_)
        have hw : RX D cA s0 z b q13 H := hw
        refine x_iinc (x2 + (1 : Int32)) [(2, .int (x2 + (1 : Int32))), (0, .ref b), (1, .ref a1r)] C dX12_writeText_19 rfl rfl (by decide) rfl ?_
        refine x_goto 2 C dX12_writeText_22 (by decide) ?_
        refine x_sub [(0, .ref b), (1, .ref a1r), (2, .int (x2 + (1 : Int32)))] [1, 2, 0] rfl ?_
        exact ih2 q13 (x2 + (1 : Int32)) _ _ hw hS hF
  refine x_iconst (0 : Int32) C dX12_writeText_0 rfl ?_
  refine x_istore_n [(2, .int (0 : Int32)), (0, .ref b), (1, .ref a1r)] C dX12_writeText_1 rfl (by decide) rfl ?_
  refine x_sub [(0, .ref b), (1, .ref a1r), (2, .int (0 : Int32))] [1, 2, 0] rfl ?_
  exact h_L2 10000 ν (0 : Int32) _ _ hw hS hF
noncomputable def g_X12_writeTold (ν : Mm) (a1 : Nat) (a2 : Int64) : Option (Mm) := bnd (g_X12_writeText ν a1) (fun q1 => bnd (g_X12_writeNumber q1 a2) (fun q3 => some q3))
set_option maxRecDepth 20000 in
set_option maxHeartbeats 4000000 in
theorem k_X12_writeTold (l : Launch) (D : va_G) (cA : Nat → ClassId) (s0 : State) (z : Nat) (b : Nat) (ν : Mm) (sz : Nat) (hG : xG l D cA s0) (a1r : Nat) (a1 : Nat) (a2 : Int64) (r : Mm) (hF : g_X12_writeTold ν a1 a2 = some r) : Met l yX12_writeTold (wsG yX12_writeTold cX12_writeTold 4 none) { frames := 5, cells := 0, slots := 0, locals := 107 } (xP D cA s0 [.ref b, .ref a1r, .long a2] (fun H => H.size = sz ∧ RX D cA s0 z b ν H ∧ Str D cA s0 z a1r a1 H)) (xQm none (fun H => RX D cA s0 z b r H) (xA b 8 sz)) 0 0 (xA b 8 sz) := by
  refine x_start (own := RX12) [(0, .ref b), (1, .ref a1r), (2, .long a2)] rfl rfl (by decide) (nb rfl) ?_
  intro p e s m args below meth c C hw
  obtain ⟨hsz, hw, hst0_a1⟩ := hw
  subst hsz
  have hS : va_S (xA b 8 s.heap.size) s.heap s.heap [] := va_S.rf
  refine x_aload_n C dX12_writeTold_0 rfl ?_
  refine x_aload_n C dX12_writeTold_1 rfl ?_
  obtain ⟨q1, hq2, hF⟩ := bnd_e hF
  refine x_goM (fun ls h => x_runV (As := [.ref a1r]) [] h C ml_X12_463 (k_X12_writeText l D cA s0 z b ν _ hG a1r a1 q1 hq2) ⟨rfl, rfl, nb rfl, nb rfl⟩ rfl (M_obj hw.2.2.2.2) rfl ⟨rfl, hw, (Str.now hst0_a1 hw.1 hw.2.1 hS)⟩ (nb rfl) ⟨Nat.zero_le _, Nat.zero_le _⟩ dX12_writeTold_2) hS (xA_le hS) (fun H locs hw hz hk hS => ?_)
  have hw : RX D cA s0 z b q1 H := hw
  refine x_aload_n C dX12_writeTold_5 rfl ?_
  refine x_lload_n C dX12_writeTold_6 rfl ?_
  obtain ⟨q3, hq4, hF⟩ := bnd_e hF
  refine x_goM (fun ls h => x_runV (As := [.long a2]) [] h C ml_X12_453 (k_X12_writeNumber l D cA s0 z b q1 _ hG a2 q3 hq4) ⟨rfl, rfl, nb rfl, nb rfl⟩ rfl (M_obj hw.2.2.2.2) rfl ⟨rfl, hw⟩ (nb rfl) ⟨Nat.zero_le _, Nat.zero_le _⟩ dX12_writeTold_7) hS (xA_le hS) (fun H locs hw hz hk hS => ?_)
  have hw : RX D cA s0 z b q3 H := hw
  exact x_vretM2 C rfl dX12_writeTold_10 rfl (rv_m (W := fun m => RX D cA s0 z b m _) hF hw) hS (nb rfl) (nb rfl)
noncomputable def g_X12_writeDays_L16 (ν : Mm) (a1 : Int32) : Nat → Mm → Int32 → Int32 → Option (Mm)
  | 0, _, _, _ => none
  | n + 1, μ0, x2, x3 => (if (29 : Int32) < x3 then some μ0 else asr (vp_in a1 60) (bnd (some (f_X12_ofInvoice μ0 a1 (5 : Int32))) (fun q11 => bnd (some (f_X12_has q11 x3)) (fun q14 => (if q14 = true then bnd (g_X12_writeTold μ0 32 x3.toInt64) (fun q20 => asr (vp_in x2 41) (bnd (some (f_X12_ofCall q20 x2 (5 : Int32))) (fun q23 => bnd (some (f_X12_has q23 x3)) (fun q26 => (if q26 = true then bnd (g_X12_write q20 (63 : Int32)) (fun q39 => bnd (some (f_X12_ofCall q39 x2 (6 : Int32))) (fun q41 => bnd (some (f_X12_has q41 x3)) (fun q44 => (if q44 = true then bnd (g_X12_write q39 (45 : Int32)) (fun q48 => (g_X12_writeDays_L16 ν a1 n q48 x2 (x3 + (1 : Int32)))) else (g_X12_writeDays_L16 ν a1 n q39 x2 (x3 + (1 : Int32))))))) else bnd (some (f_X12_ofCall q20 x2 (6 : Int32))) (fun q30 => bnd (some (f_X12_has q30 x3)) (fun q33 => (if q33 = true then bnd (g_X12_write q20 (45 : Int32)) (fun q37 => (g_X12_writeDays_L16 ν a1 n q37 x2 (x3 + (1 : Int32)))) else (g_X12_writeDays_L16 ν a1 n q20 x2 (x3 + (1 : Int32))))))))))) else (g_X12_writeDays_L16 ν a1 n μ0 x2 (x3 + (1 : Int32))))))))
noncomputable def g_X12_writeDays (ν : Mm) (a1 : Int32) : Option (Mm) := asr (vp_in a1 60) (bnd (some (f_X12_ofInvoice ν a1 (0 : Int32))) (fun q2 => bnd (g_X12_writeText ν 495957664800) (fun q7 => (g_X12_writeDays_L16 ν a1 10000 q7 q2 (0 : Int32)))))
set_option maxRecDepth 20000 in
set_option maxHeartbeats 4000000 in
theorem k_X12_writeDays (l : Launch) (D : va_G) (cA : Nat → ClassId) (s0 : State) (z : Nat) (b : Nat) (ν : Mm) (sz : Nat) (hG : xG l D cA s0) (a1 : Int32) (r : Mm) (hF : g_X12_writeDays ν a1 = some r) : Met l yX12_writeDays (wsG yX12_writeDays cX12_writeDays 4 none) { frames := 6, cells := 0, slots := 0, locals := 130 } (xP D cA s0 [.ref b, .int a1] (fun H => H.size = sz ∧ RX D cA s0 z b ν H)) (xQm none (fun H => RX D cA s0 z b r H) (xA b 8 sz)) 0 0 (xA b 8 sz) := by
  refine x_start (own := RX12) [(0, .ref b), (1, .int a1)] rfl rfl (by decide) (nb rfl) ?_
  intro p e s m args below meth c C hw
  obtain ⟨hsz, hw⟩ := hw
  subst hsz
  have hS : va_S (xA b 8 s.heap.size) s.heap s.heap [] := va_S.rf
  have h_L16 : ∀ (n : Nat) (μ0 : Mm) (x2 : Int32) (x3 : Int32) (H : Heap) (locs : List Loc) (hw : RX D cA s0 z b μ0 H) (hS : va_S (xA b 8 s.heap.size) s.heap H locs), g_X12_writeDays_L16 ν a1 n μ0 x2 x3 = some r → xW p l e { frames := 6, cells := 0, slots := 0, locals := 130 } s m args below meth c 4 (MQ below (xQm none (fun H => RX D cA s0 z b r H) (xA b 8 s.heap.size)) args s 0 0 (xA b 8 s.heap.size)) H locs 0 0 16 [(0, .ref b), (1, .int a1), (2, .int x2), (3, .int x3)] [] := by
    intro n
    induction n with
    | zero =>
      intro μ0 x2 x3 H locs hw hS hF
      exact no_some hF
    | succ n ih =>
      intro μ0 x2 x3 H locs hw hS hF
      have ih16 := ih
      refine x_iload_n C dX12_writeDays_16 rfl ?_
      refine x_bipush (29 : Int32) C dX12_writeDays_17 rfl ?_
      refine x_icmp_gt 92 C dX12_writeDays_19 (by decide) (fun c9 => ?_) (fun c9 => ?_)
      · have hF := ite_t hF c9
        exact x_vretM2 C rfl dX12_writeDays_92 rfl (rv_m (W := fun m => RX D cA s0 z b m _) hF hw) hS (nb rfl) (nb rfl)
      · have hF := ite_f hF c9
        refine x_aload_n C dX12_writeDays_22 rfl ?_
        refine x_iload_n C dX12_writeDays_23 rfl ?_
        refine x_iconst (5 : Int32) C dX12_writeDays_24 rfl ?_
        obtain ⟨h10, hF⟩ := asr_e hF
        obtain ⟨q11, hq12, hF⟩ := bnd_e hF
        have hq12 := Option.some.inj hq12
        have K13 := c_X12_ofInvoice l D cA s0 b μ0 a1 (5 : Int32) h10 (ixin (ixl (x := (5 : Int32)) 5 rfl) (by decide) (by decide))
        rw [hq12] at K13
        refine x_goR (fun ls h => x_runV (As := [.int a1, .int (5 : Int32)]) [] h C ml_X12_305 K13 ⟨rfl, rfl, nb rfl, nb rfl⟩ rfl (M_obj hw.2.2.2.2) rfl hw.2.2.2.2 (nb rfl) ⟨Nat.zero_le _, Nat.zero_le _⟩ dX12_writeDays_25) ?_
        refine x_iload_n C dX12_writeDays_28 rfl ?_
        obtain ⟨q14, hq15, hF⟩ := bnd_e hF
        have hq15 := Option.some.inj hq15
        have K16 := c_X12_has l D cA s0 q11 x3 
        rw [hq15] at K16
        refine x_goR (fun ls h => x_runS (As := [.int q11, .int x3]) [] h C ml_X12_308 K16 ⟨rfl, rfl, nb rfl, nb rfl⟩ rfl trivial (nb rfl) ⟨Nat.zero_le _, Nat.zero_le _⟩ dX12_writeDays_29) ?_
        refine x_ifB_ne 38 C dX12_writeDays_32 (by decide) (fun c17 => ?_) (fun c17 => ?_)
        · have hF := ite_t hF c17
          refine x_aload_n C dX12_writeDays_38 rfl ?_
          refine x_ldcSw (z := z) 32 C hG.2.2.2 xl_X12_476 hw.2.2.2.1 dX12_writeDays_39 (fun ra18 hst19 => ?_)
          refine x_iload_n C dX12_writeDays_42 rfl ?_
          refine x_i2l C dX12_writeDays_43 ?_
          obtain ⟨q20, hq21, hF⟩ := bnd_e hF
          refine x_goM (fun ls h => x_runV (As := [.ref ra18, .long x3.toInt64]) [] h C ml_X12_478 (k_X12_writeTold l D cA s0 z b μ0 _ hG ra18 32 x3.toInt64 q20 hq21) ⟨rfl, rfl, nb rfl, nb rfl⟩ rfl (M_obj hw.2.2.2.2) rfl ⟨rfl, hw, hst19⟩ (nb rfl) ⟨Nat.zero_le _, Nat.zero_le _⟩ dX12_writeDays_44) hS (xA_le hS) (fun H locs hw hz hk hS => ?_)
          have hw : RX D cA s0 z b q20 H := hw
          refine x_aload_n C dX12_writeDays_47 rfl ?_
          refine x_iload_n C dX12_writeDays_48 rfl ?_
          refine x_iconst (5 : Int32) C dX12_writeDays_49 rfl ?_
          obtain ⟨h22, hF⟩ := asr_e hF
          obtain ⟨q23, hq24, hF⟩ := bnd_e hF
          have hq24 := Option.some.inj hq24
          have K25 := c_X12_ofCall l D cA s0 b q20 x2 (5 : Int32) h22 (ixin (ixl (x := (5 : Int32)) 5 rfl) (by decide) (by decide))
          rw [hq24] at K25
          refine x_goR (fun ls h => x_runV (As := [.int x2, .int (5 : Int32)]) [] h C ml_X12_248 K25 ⟨rfl, rfl, nb rfl, nb rfl⟩ rfl (M_obj hw.2.2.2.2) rfl hw.2.2.2.2 (nb rfl) ⟨Nat.zero_le _, Nat.zero_le _⟩ dX12_writeDays_50) ?_
          refine x_iload_n C dX12_writeDays_53 rfl ?_
          obtain ⟨q26, hq27, hF⟩ := bnd_e hF
          have hq27 := Option.some.inj hq27
          have K28 := c_X12_has l D cA s0 q23 x3 
          rw [hq27] at K28
          refine x_goR (fun ls h => x_runS (As := [.int q23, .int x3]) [] h C ml_X12_308 K28 ⟨rfl, rfl, nb rfl, nb rfl⟩ rfl trivial (nb rfl) ⟨Nat.zero_le _, Nat.zero_le _⟩ dX12_writeDays_54) ?_
          refine x_ifB_eq 66 C dX12_writeDays_57 (by decide) (fun c29 => ?_) (fun c29 => ?_)
          · have hF := ite_f hF (nbt c29)
            refine x_aload_n C dX12_writeDays_66 rfl ?_
            refine x_iload_n C dX12_writeDays_67 rfl ?_
            refine x_bipush (6 : Int32) C dX12_writeDays_68 rfl ?_
            obtain ⟨q30, hq31, hF⟩ := bnd_e hF
            have hq31 := Option.some.inj hq31
            have K32 := c_X12_ofCall l D cA s0 b q20 x2 (6 : Int32) h22 (ixin (ixl (x := (6 : Int32)) 6 rfl) (by decide) (by decide))
            rw [hq31] at K32
            refine x_goR (fun ls h => x_runV (As := [.int x2, .int (6 : Int32)]) [] h C ml_X12_248 K32 ⟨rfl, rfl, nb rfl, nb rfl⟩ rfl (M_obj hw.2.2.2.2) rfl hw.2.2.2.2 (nb rfl) ⟨Nat.zero_le _, Nat.zero_le _⟩ dX12_writeDays_70) ?_
            refine x_iload_n C dX12_writeDays_73 rfl ?_
            obtain ⟨q33, hq34, hF⟩ := bnd_e hF
            have hq34 := Option.some.inj hq34
            have K35 := c_X12_has l D cA s0 q30 x3 
            rw [hq34] at K35
            refine x_goR (fun ls h => x_runS (As := [.int q30, .int x3]) [] h C ml_X12_308 K35 ⟨rfl, rfl, nb rfl, nb rfl⟩ rfl trivial (nb rfl) ⟨Nat.zero_le _, Nat.zero_le _⟩ dX12_writeDays_74) ?_
            refine x_ifB_eq 86 C dX12_writeDays_77 (by decide) (fun c36 => ?_) (fun c36 => ?_)
            · have hF := ite_f hF (nbt c36)
              refine x_iinc (x3 + (1 : Int32)) [(3, .int (x3 + (1 : Int32))), (0, .ref b), (1, .int a1), (2, .int x2)] C dX12_writeDays_86 rfl rfl (by decide) rfl ?_
              refine x_goto 16 C dX12_writeDays_89 (by decide) ?_
              refine x_sub [(0, .ref b), (1, .int a1), (2, .int x2), (3, .int (x3 + (1 : Int32)))] [1, 2, 3, 0] rfl ?_
              exact ih16 q20 x2 (x3 + (1 : Int32)) _ _ hw hS hF
            · have hF := ite_t hF c36
              refine x_aload_n C dX12_writeDays_80 rfl ?_
              refine x_bipush (45 : Int32) C dX12_writeDays_81 rfl ?_
              obtain ⟨q37, hq38, hF⟩ := bnd_e hF
              refine x_goM (fun ls h => x_runV (As := [.int (45 : Int32)]) [] h C ml_X12_448 (k_X12_write l D cA s0 z b q20 _ hG (45 : Int32) q37 hq38) ⟨rfl, rfl, nb rfl, nb rfl⟩ rfl (M_obj hw.2.2.2.2) rfl ⟨rfl, hw⟩ (nb rfl) ⟨Nat.zero_le _, Nat.zero_le _⟩ dX12_writeDays_83) hS (xA_le hS) (fun H locs hw hz hk hS => ?_)
              have hw : RX D cA s0 z b q37 H := hw
              refine x_iinc (x3 + (1 : Int32)) [(3, .int (x3 + (1 : Int32))), (0, .ref b), (1, .int a1), (2, .int x2)] C dX12_writeDays_86 rfl rfl (by decide) rfl ?_
              refine x_goto 16 C dX12_writeDays_89 (by decide) ?_
              refine x_sub [(0, .ref b), (1, .int a1), (2, .int x2), (3, .int (x3 + (1 : Int32)))] [1, 2, 3, 0] rfl ?_
              exact ih16 q37 x2 (x3 + (1 : Int32)) _ _ hw hS hF
          · have hF := ite_t hF c29
            refine x_aload_n C dX12_writeDays_60 rfl ?_
            refine x_bipush (63 : Int32) C dX12_writeDays_61 rfl ?_
            obtain ⟨q39, hq40, hF⟩ := bnd_e hF
            refine x_goM (fun ls h => x_runV (As := [.int (63 : Int32)]) [] h C ml_X12_448 (k_X12_write l D cA s0 z b q20 _ hG (63 : Int32) q39 hq40) ⟨rfl, rfl, nb rfl, nb rfl⟩ rfl (M_obj hw.2.2.2.2) rfl ⟨rfl, hw⟩ (nb rfl) ⟨Nat.zero_le _, Nat.zero_le _⟩ dX12_writeDays_63) hS (xA_le hS) (fun H locs hw hz hk hS => ?_)
            have hw : RX D cA s0 z b q39 H := hw
            refine x_aload_n C dX12_writeDays_66 rfl ?_
            refine x_iload_n C dX12_writeDays_67 rfl ?_
            refine x_bipush (6 : Int32) C dX12_writeDays_68 rfl ?_
            obtain ⟨q41, hq42, hF⟩ := bnd_e hF
            have hq42 := Option.some.inj hq42
            have K43 := c_X12_ofCall l D cA s0 b q39 x2 (6 : Int32) h22 (ixin (ixl (x := (6 : Int32)) 6 rfl) (by decide) (by decide))
            rw [hq42] at K43
            refine x_goR (fun ls h => x_runV (As := [.int x2, .int (6 : Int32)]) [] h C ml_X12_248 K43 ⟨rfl, rfl, nb rfl, nb rfl⟩ rfl (M_obj hw.2.2.2.2) rfl hw.2.2.2.2 (nb rfl) ⟨Nat.zero_le _, Nat.zero_le _⟩ dX12_writeDays_70) ?_
            refine x_iload_n C dX12_writeDays_73 rfl ?_
            obtain ⟨q44, hq45, hF⟩ := bnd_e hF
            have hq45 := Option.some.inj hq45
            have K46 := c_X12_has l D cA s0 q41 x3 
            rw [hq45] at K46
            refine x_goR (fun ls h => x_runS (As := [.int q41, .int x3]) [] h C ml_X12_308 K46 ⟨rfl, rfl, nb rfl, nb rfl⟩ rfl trivial (nb rfl) ⟨Nat.zero_le _, Nat.zero_le _⟩ dX12_writeDays_74) ?_
            refine x_ifB_eq 86 C dX12_writeDays_77 (by decide) (fun c47 => ?_) (fun c47 => ?_)
            · have hF := ite_f hF (nbt c47)
              refine x_iinc (x3 + (1 : Int32)) [(3, .int (x3 + (1 : Int32))), (0, .ref b), (1, .int a1), (2, .int x2)] C dX12_writeDays_86 rfl rfl (by decide) rfl ?_
              refine x_goto 16 C dX12_writeDays_89 (by decide) ?_
              refine x_sub [(0, .ref b), (1, .int a1), (2, .int x2), (3, .int (x3 + (1 : Int32)))] [1, 2, 3, 0] rfl ?_
              exact ih16 q39 x2 (x3 + (1 : Int32)) _ _ hw hS hF
            · have hF := ite_t hF c47
              refine x_aload_n C dX12_writeDays_80 rfl ?_
              refine x_bipush (45 : Int32) C dX12_writeDays_81 rfl ?_
              obtain ⟨q48, hq49, hF⟩ := bnd_e hF
              refine x_goM (fun ls h => x_runV (As := [.int (45 : Int32)]) [] h C ml_X12_448 (k_X12_write l D cA s0 z b q39 _ hG (45 : Int32) q48 hq49) ⟨rfl, rfl, nb rfl, nb rfl⟩ rfl (M_obj hw.2.2.2.2) rfl ⟨rfl, hw⟩ (nb rfl) ⟨Nat.zero_le _, Nat.zero_le _⟩ dX12_writeDays_83) hS (xA_le hS) (fun H locs hw hz hk hS => ?_)
              have hw : RX D cA s0 z b q48 H := hw
              refine x_iinc (x3 + (1 : Int32)) [(3, .int (x3 + (1 : Int32))), (0, .ref b), (1, .int a1), (2, .int x2)] C dX12_writeDays_86 rfl rfl (by decide) rfl ?_
              refine x_goto 16 C dX12_writeDays_89 (by decide) ?_
              refine x_sub [(0, .ref b), (1, .int a1), (2, .int x2), (3, .int (x3 + (1 : Int32)))] [1, 2, 3, 0] rfl ?_
              exact ih16 q48 x2 (x3 + (1 : Int32)) _ _ hw hS hF
        · have hF := ite_f hF (nbt c17)
          refine x_goto 86 C dX12_writeDays_35 (by decide) ?_
          refine x_iinc (x3 + (1 : Int32)) [(3, .int (x3 + (1 : Int32))), (0, .ref b), (1, .int a1), (2, .int x2)] C dX12_writeDays_86 rfl rfl (by decide) rfl ?_
          refine x_goto 16 C dX12_writeDays_89 (by decide) ?_
          refine x_sub [(0, .ref b), (1, .int a1), (2, .int x2), (3, .int (x3 + (1 : Int32)))] [1, 2, 3, 0] rfl ?_
          exact ih16 μ0 x2 (x3 + (1 : Int32)) _ _ hw hS hF
  refine x_aload_n C dX12_writeDays_0 rfl ?_
  refine x_iload_n C dX12_writeDays_1 rfl ?_
  refine x_iconst (0 : Int32) C dX12_writeDays_2 rfl ?_
  obtain ⟨h1, hF⟩ := asr_e hF
  obtain ⟨q2, hq3, hF⟩ := bnd_e hF
  have hq3 := Option.some.inj hq3
  have K4 := c_X12_ofInvoice l D cA s0 b ν a1 (0 : Int32) h1 (ixin (ixl (x := (0 : Int32)) 0 rfl) (by decide) (by decide))
  rw [hq3] at K4
  refine x_goR (fun ls h => x_runV (As := [.int a1, .int (0 : Int32)]) [] h C ml_X12_305 K4 ⟨rfl, rfl, nb rfl, nb rfl⟩ rfl (M_obj hw.2.2.2.2) rfl hw.2.2.2.2 (nb rfl) ⟨Nat.zero_le _, Nat.zero_le _⟩ dX12_writeDays_3) ?_
  refine x_istore_n [(2, .int q2), (0, .ref b), (1, .int a1)] C dX12_writeDays_6 rfl (by decide) rfl ?_
  refine x_aload_n C dX12_writeDays_7 rfl ?_
  refine x_ldcSw (z := z) 495957664800 C hG.2.2.2 xl_X12_474 hw.2.2.2.1 dX12_writeDays_8 (fun ra5 hst6 => ?_)
  obtain ⟨q7, hq8, hF⟩ := bnd_e hF
  refine x_goM (fun ls h => x_runV (As := [.ref ra5]) [] h C ml_X12_463 (k_X12_writeText l D cA s0 z b ν _ hG ra5 495957664800 q7 hq8) ⟨rfl, rfl, nb rfl, nb rfl⟩ rfl (M_obj hw.2.2.2.2) rfl ⟨rfl, hw, hst6⟩ (nb rfl) ⟨Nat.zero_le _, Nat.zero_le _⟩ dX12_writeDays_11) hS (xA_le hS) (fun H locs hw hz hk hS => ?_)
  have hw : RX D cA s0 z b q7 H := hw
  refine x_iconst (0 : Int32) C dX12_writeDays_14 rfl ?_
  refine x_istore_n [(3, .int (0 : Int32)), (2, .int q2), (0, .ref b), (1, .int a1)] C dX12_writeDays_15 rfl (by decide) rfl ?_
  refine x_sub [(0, .ref b), (1, .int a1), (2, .int q2), (3, .int (0 : Int32))] [2, 3, 1, 0] rfl ?_
  exact h_L16 10000 q7 q2 (0 : Int32) _ _ hw hS hF
noncomputable def g_X12_writeLine_J25 (ν : Mm) (a1 : Int32) (a2 : Int32) (μ0 : Mm) : Option (Mm) := asr (vp_in a1 60) (bnd (some (f_X12_ofInvoice μ0 a1 (4 : Int32))) (fun q14 => bnd (some (f_X12_has q14 a2)) (fun q17 => (if q17 = true then bnd (g_X12_writeText μ0 1851984991346003960608) (fun q43 => bnd (g_X12_write q43 (10 : Int32)) (fun q45 => some q45)) else asr (OkR (μ0.1 1)) (bnd (some (f_X12_rebuiltOf μ0 a1 a2)) (fun q22 => asr (vp_in a2 4) (bnd (some (f_X12_lineIn μ0 a1 a2)) (fun q26 => (if q22 = q26 then bnd (g_X12_write μ0 (10 : Int32)) (fun q30 => some q30) else bnd (some (f_X12_rebuiltOf μ0 a1 a2)) (fun q34 => bnd (g_X12_writeTold μ0 139442744864 q34.toInt64) (fun q37 => bnd (g_X12_write q37 (10 : Int32)) (fun q39 => some q39))))))))))))
noncomputable def g_X12_writeLine (ν : Mm) (a1 : Int32) (a2 : Int32) : Option (Mm) := bnd (g_X12_nameOf ν a2) (fun q1 => asr (vp_in a1 60) (asr (vp_in a2 4) (bnd (some (f_X12_lineIn ν a1 a2)) (fun q7 => bnd (g_X12_writeTold ν q1 q7.toInt64) (fun q10 => (if a2 = (3 : Int32) then bnd (g_X12_writeDays q10 a1) (fun q47 => (g_X12_writeLine_J25 ν a1 a2 q47)) else (g_X12_writeLine_J25 ν a1 a2 q10)))))))
set_option maxRecDepth 20000 in
set_option maxHeartbeats 4000000 in
theorem k_X12_writeLine (l : Launch) (D : va_G) (cA : Nat → ClassId) (s0 : State) (z : Nat) (b : Nat) (ν : Mm) (sz : Nat) (hG : xG l D cA s0) (a1 : Int32) (a2 : Int32) (r : Mm) (hF : g_X12_writeLine ν a1 a2 = some r) : Met l yX12_writeLine (wsG yX12_writeLine cX12_writeLine 3 none) { frames := 7, cells := 0, slots := 0, locals := 153 } (xP D cA s0 [.ref b, .int a1, .int a2] (fun H => H.size = sz ∧ RX D cA s0 z b ν H)) (xQm none (fun H => RX D cA s0 z b r H) (xA b 8 sz)) 0 0 (xA b 8 sz) := by
  refine x_start (own := RX12) [(0, .ref b), (1, .int a1), (2, .int a2)] rfl rfl (by decide) (nb rfl) ?_
  intro p e s m args below meth c C hw
  obtain ⟨hsz, hw⟩ := hw
  subst hsz
  have hS : va_S (xA b 8 s.heap.size) s.heap s.heap [] := va_S.rf
  have h_J25 : ∀ (μ0 : Mm) (H : Heap) (locs : List Loc) (hw : RX D cA s0 z b μ0 H) (hS : va_S (xA b 8 s.heap.size) s.heap H locs), g_X12_writeLine_J25 ν a1 a2 μ0 = some r → xW p l e { frames := 7, cells := 0, slots := 0, locals := 153 } s m args below meth c 3 (MQ below (xQm none (fun H => RX D cA s0 z b r H) (xA b 8 s.heap.size)) args s 0 0 (xA b 8 s.heap.size)) H locs 0 0 25 [(0, .ref b), (1, .int a1), (2, .int a2)] [] := by
    intro μ0 H locs hw hS hF
    refine x_aload_n C dX12_writeLine_25 rfl ?_
    refine x_iload_n C dX12_writeLine_26 rfl ?_
    refine x_iconst (4 : Int32) C dX12_writeLine_27 rfl ?_
    obtain ⟨h13, hF⟩ := asr_e hF
    obtain ⟨q14, hq15, hF⟩ := bnd_e hF
    have hq15 := Option.some.inj hq15
    have K16 := c_X12_ofInvoice l D cA s0 b μ0 a1 (4 : Int32) h13 (ixin (ixl (x := (4 : Int32)) 4 rfl) (by decide) (by decide))
    rw [hq15] at K16
    refine x_goR (fun ls h => x_runV (As := [.int a1, .int (4 : Int32)]) [] h C ml_X12_305 K16 ⟨rfl, rfl, nb rfl, nb rfl⟩ rfl (M_obj hw.2.2.2.2) rfl hw.2.2.2.2 (nb rfl) ⟨Nat.zero_le _, Nat.zero_le _⟩ dX12_writeLine_28) ?_
    refine x_iload_n C dX12_writeLine_31 rfl ?_
    obtain ⟨q17, hq18, hF⟩ := bnd_e hF
    have hq18 := Option.some.inj hq18
    have K19 := c_X12_has l D cA s0 q14 a2 
    rw [hq18] at K19
    refine x_goR (fun ls h => x_runS (As := [.int q14, .int a2]) [] h C ml_X12_308 K19 ⟨rfl, rfl, nb rfl, nb rfl⟩ rfl trivial (nb rfl) ⟨Nat.zero_le _, Nat.zero_le _⟩ dX12_writeLine_32) ?_
    refine x_ifB_eq 48 C dX12_writeLine_35 (by decide) (fun c20 => ?_) (fun c20 => ?_)
    · have hF := ite_f hF (nbt c20)
      refine x_aload_n C dX12_writeLine_48 rfl ?_
      refine x_iload_n C dX12_writeLine_49 rfl ?_
      refine x_iload_n C dX12_writeLine_50 rfl ?_
      obtain ⟨h21, hF⟩ := asr_e hF
      obtain ⟨q22, hq23, hF⟩ := bnd_e hF
      have hq23 := Option.some.inj hq23
      have K24 := c_X12_rebuiltOf l D cA s0 b μ0 h21 a1 a2 h13
      rw [hq23] at K24
      refine x_goR (fun ls h => x_runV (As := [.int a1, .int a2]) [] h C ml_X12_377 K24 ⟨rfl, rfl, nb rfl, nb rfl⟩ rfl (M_obj hw.2.2.2.2) rfl hw.2.2.2.2 (nb rfl) ⟨Nat.zero_le _, Nat.zero_le _⟩ dX12_writeLine_51) ?_
      refine x_aload_n C dX12_writeLine_54 rfl ?_
      refine x_iload_n C dX12_writeLine_55 rfl ?_
      refine x_iload_n C dX12_writeLine_56 rfl ?_
      obtain ⟨h25, hF⟩ := asr_e hF
      obtain ⟨q26, hq27, hF⟩ := bnd_e hF
      have hq27 := Option.some.inj hq27
      have K28 := c_X12_lineIn l D cA s0 b μ0 a1 a2 h13 h25
      rw [hq27] at K28
      refine x_goR (fun ls h => x_runV (As := [.int a1, .int a2]) [.int q22] h C ml_X12_365 K28 ⟨rfl, rfl, nb rfl, nb rfl⟩ rfl (M_obj hw.2.2.2.2) rfl hw.2.2.2.2 (nb rfl) ⟨Nat.zero_le _, Nat.zero_le _⟩ dX12_writeLine_57) ?_
      refine x_icmp_eq 77 C dX12_writeLine_60 (by decide) (fun c29 => ?_) (fun c29 => ?_)
      · have hF := ite_t hF c29
        refine x_aload_n C dX12_writeLine_77 rfl ?_
        refine x_bipush (10 : Int32) C dX12_writeLine_78 rfl ?_
        obtain ⟨q30, hq31, hF⟩ := bnd_e hF
        refine x_goM (fun ls h => x_runV (As := [.int (10 : Int32)]) [] h C ml_X12_448 (k_X12_write l D cA s0 z b μ0 _ hG (10 : Int32) q30 hq31) ⟨rfl, rfl, nb rfl, nb rfl⟩ rfl (M_obj hw.2.2.2.2) rfl ⟨rfl, hw⟩ (nb rfl) ⟨Nat.zero_le _, Nat.zero_le _⟩ dX12_writeLine_80) hS (xA_le hS) (fun H locs hw hz hk hS => ?_)
        have hw : RX D cA s0 z b q30 H := hw
        exact x_vretM2 C rfl dX12_writeLine_83 rfl (rv_m (W := fun m => RX D cA s0 z b m _) hF hw) hS (nb rfl) (nb rfl)
      · have hF := ite_f hF c29
        refine x_aload_n C dX12_writeLine_63 rfl ?_
        refine x_ldcSw (z := z) 139442744864 C hG.2.2.2 xl_X12_491 hw.2.2.2.1 dX12_writeLine_64 (fun ra32 hst33 => ?_)
        refine x_aload_n C dX12_writeLine_67 rfl ?_
        refine x_iload_n C dX12_writeLine_68 rfl ?_
        refine x_iload_n C dX12_writeLine_69 rfl ?_
        obtain ⟨q34, hq35, hF⟩ := bnd_e hF
        have hq35 := Option.some.inj hq35
        have K36 := c_X12_rebuiltOf l D cA s0 b μ0 h21 a1 a2 h13
        rw [hq35] at K36
        refine x_goR (fun ls h => x_runV (As := [.int a1, .int a2]) [.ref ra32, .ref b] h C ml_X12_377 K36 ⟨rfl, rfl, nb rfl, nb rfl⟩ rfl (M_obj hw.2.2.2.2) rfl hw.2.2.2.2 (nb rfl) ⟨Nat.zero_le _, Nat.zero_le _⟩ dX12_writeLine_70) ?_
        refine x_i2l C dX12_writeLine_73 ?_
        obtain ⟨q37, hq38, hF⟩ := bnd_e hF
        refine x_goM (fun ls h => x_runV (As := [.ref ra32, .long q34.toInt64]) [] h C ml_X12_478 (k_X12_writeTold l D cA s0 z b μ0 _ hG ra32 139442744864 q34.toInt64 q37 hq38) ⟨rfl, rfl, nb rfl, nb rfl⟩ rfl (M_obj hw.2.2.2.2) rfl ⟨rfl, hw, hst33⟩ (nb rfl) ⟨Nat.zero_le _, Nat.zero_le _⟩ dX12_writeLine_74) hS (xA_le hS) (fun H locs hw hz hk hS => ?_)
        have hw : RX D cA s0 z b q37 H := hw
        refine x_aload_n C dX12_writeLine_77 rfl ?_
        refine x_bipush (10 : Int32) C dX12_writeLine_78 rfl ?_
        obtain ⟨q39, hq40, hF⟩ := bnd_e hF
        refine x_goM (fun ls h => x_runV (As := [.int (10 : Int32)]) [] h C ml_X12_448 (k_X12_write l D cA s0 z b q37 _ hG (10 : Int32) q39 hq40) ⟨rfl, rfl, nb rfl, nb rfl⟩ rfl (M_obj hw.2.2.2.2) rfl ⟨rfl, hw⟩ (nb rfl) ⟨Nat.zero_le _, Nat.zero_le _⟩ dX12_writeLine_80) hS (xA_le hS) (fun H locs hw hz hk hS => ?_)
        have hw : RX D cA s0 z b q39 H := hw
        exact x_vretM2 C rfl dX12_writeLine_83 rfl (rv_m (W := fun m => RX D cA s0 z b m _) hF hw) hS (nb rfl) (nb rfl)
    · have hF := ite_t hF c20
      refine x_aload_n C dX12_writeLine_38 rfl ?_
      refine x_ldcSw (z := z) 1851984991346003960608 C hG.2.2.2 xl_X12_489 hw.2.2.2.1 dX12_writeLine_39 (fun ra41 hst42 => ?_)
      obtain ⟨q43, hq44, hF⟩ := bnd_e hF
      refine x_goM (fun ls h => x_runV (As := [.ref ra41]) [] h C ml_X12_463 (k_X12_writeText l D cA s0 z b μ0 _ hG ra41 1851984991346003960608 q43 hq44) ⟨rfl, rfl, nb rfl, nb rfl⟩ rfl (M_obj hw.2.2.2.2) rfl ⟨rfl, hw, hst42⟩ (nb rfl) ⟨Nat.zero_le _, Nat.zero_le _⟩ dX12_writeLine_42) hS (xA_le hS) (fun H locs hw hz hk hS => ?_)
      have hw : RX D cA s0 z b q43 H := hw
      refine x_goto 77 C dX12_writeLine_45 (by decide) ?_
      refine x_aload_n C dX12_writeLine_77 rfl ?_
      refine x_bipush (10 : Int32) C dX12_writeLine_78 rfl ?_
      obtain ⟨q45, hq46, hF⟩ := bnd_e hF
      refine x_goM (fun ls h => x_runV (As := [.int (10 : Int32)]) [] h C ml_X12_448 (k_X12_write l D cA s0 z b q43 _ hG (10 : Int32) q45 hq46) ⟨rfl, rfl, nb rfl, nb rfl⟩ rfl (M_obj hw.2.2.2.2) rfl ⟨rfl, hw⟩ (nb rfl) ⟨Nat.zero_le _, Nat.zero_le _⟩ dX12_writeLine_80) hS (xA_le hS) (fun H locs hw hz hk hS => ?_)
      have hw : RX D cA s0 z b q45 H := hw
      exact x_vretM2 C rfl dX12_writeLine_83 rfl (rv_m (W := fun m => RX D cA s0 z b m _) hF hw) hS (nb rfl) (nb rfl)
  refine x_aload_n C dX12_writeLine_0 rfl ?_
  refine x_iload_n C dX12_writeLine_1 rfl ?_
  obtain ⟨q1, hq2, hF⟩ := bnd_e hF
  refine x_goRS (fun ls h => x_runS (As := [.int a2]) [.ref b] h C ml_X12_482 (k_X12_nameOf l D cA s0 z b ν hG a2 q1 hq2) ⟨rfl, rfl, nb rfl, nb rfl⟩ rfl hw (nb rfl) ⟨Nat.zero_le _, Nat.zero_le _⟩ dX12_writeLine_2) (fun ra3 hst4 => ?_)
  refine x_aload_n C dX12_writeLine_5 rfl ?_
  refine x_iload_n C dX12_writeLine_6 rfl ?_
  refine x_iload_n C dX12_writeLine_7 rfl ?_
  obtain ⟨h5, hF⟩ := asr_e hF
  obtain ⟨h6, hF⟩ := asr_e hF
  obtain ⟨q7, hq8, hF⟩ := bnd_e hF
  have hq8 := Option.some.inj hq8
  have K9 := c_X12_lineIn l D cA s0 b ν a1 a2 h5 h6
  rw [hq8] at K9
  refine x_goR (fun ls h => x_runV (As := [.int a1, .int a2]) [.ref ra3, .ref b] h C ml_X12_365 K9 ⟨rfl, rfl, nb rfl, nb rfl⟩ rfl (M_obj hw.2.2.2.2) rfl hw.2.2.2.2 (nb rfl) ⟨Nat.zero_le _, Nat.zero_le _⟩ dX12_writeLine_8) ?_
  refine x_i2l C dX12_writeLine_11 ?_
  obtain ⟨q10, hq11, hF⟩ := bnd_e hF
  refine x_goM (fun ls h => x_runV (As := [.ref ra3, .long q7.toInt64]) [] h C ml_X12_478 (k_X12_writeTold l D cA s0 z b ν _ hG ra3 q1 q7.toInt64 q10 hq11) ⟨rfl, rfl, nb rfl, nb rfl⟩ rfl (M_obj hw.2.2.2.2) rfl ⟨rfl, hw, hst4⟩ (nb rfl) ⟨Nat.zero_le _, Nat.zero_le _⟩ dX12_writeLine_12) hS (xA_le hS) (fun H locs hw hz hk hS => ?_)
  have hw : RX D cA s0 z b q10 H := hw
  refine x_iload_n C dX12_writeLine_15 rfl ?_
  refine x_iconst (3 : Int32) C dX12_writeLine_16 rfl ?_
  refine x_icmp_ne 25 C dX12_writeLine_17 (by decide) (fun c12 => ?_) (fun c12 => ?_)
  · have hF := ite_f hF c12
    exact h_J25 q10 _ _ hw hS hF
  · have hF := ite_t hF c12
    refine x_aload_n C dX12_writeLine_20 rfl ?_
    refine x_iload_n C dX12_writeLine_21 rfl ?_
    obtain ⟨q47, hq48, hF⟩ := bnd_e hF
    refine x_goM (fun ls h => x_runV (As := [.int a1]) [] h C ml_X12_486 (k_X12_writeDays l D cA s0 z b q10 _ hG a1 q47 hq48) ⟨rfl, rfl, nb rfl, nb rfl⟩ rfl (M_obj hw.2.2.2.2) rfl ⟨rfl, hw⟩ (nb rfl) ⟨Nat.zero_le _, Nat.zero_le _⟩ dX12_writeLine_22) hS (xA_le hS) (fun H locs hw hz hk hS => ?_)
    have hw : RX D cA s0 z b q47 H := hw
    exact h_J25 q47 _ _ hw hS hF
noncomputable def g_X12_writeInvoice_L80 (ν : Mm) (a1 : Int32) : Nat → Mm → Int32 → Option (Int32 × Mm)
  | 0, _, _ => none
  | n + 1, μ0, x2 => (if (4 : Int32) ≤ x2 then asr (OkR (μ0.1 1)) (asr (vp_in a1 60) (bnd (some (f_X12_netOf μ0 a1)) (fun q46 => bnd (g_X12_writeTold μ0 544499054 q46.toInt64) (fun q49 => asr (OkR (q49.1 1)) (bnd (some (f_X12_openOf q49 a1)) (fun q54 => bnd (g_X12_writeTold q49 35658520358688 q54.toInt64) (fun q57 => bnd (g_X12_write q57 (10 : Int32)) (fun q59 => some (q59.1 0 21, q59))))))))) else asr (vp_in a1 60) (bnd (some (f_X12_ofInvoice μ0 a1 (3 : Int32))) (fun q62 => bnd (some (f_X12_has q62 x2)) (fun q65 => (if q65 = true then bnd (g_X12_writeLine μ0 a1 x2) (fun q69 => (g_X12_writeInvoice_L80 ν a1 n q69 (x2 + (1 : Int32)))) else (g_X12_writeInvoice_L80 ν a1 n μ0 (x2 + (1 : Int32))))))))
noncomputable def g_X12_writeInvoice (ν : Mm) (a1 : Int32) : Option (Int32 × Mm) := bnd (some (f_X12_isInvoice ν a1)) (fun q1 => bnd (some (f_X12_passes ν q1)) (fun q4 => (if q4.1 = true then bnd (some (uI q4.2 0 21 (0 : Int32))) (fun μ8 => bnd (g_X12_writeTold μ8 2334381286354218601 a1.toInt64) (fun q12 => bnd (g_X12_writeText q12 35667176878880) (fun q16 => asr (OkR (q16.1 1)) (asr (vp_in a1 60) (bnd (some (f_X12_shipOf q16 a1)) (fun q20 => bnd (g_X12_writeName q16 q20) (fun q23 => bnd (some (f_X12_ofInvoice q23 a1 (0 : Int32))) (fun q27 => bnd (g_X12_writeTold q23 35650046878496 q27.toInt64) (fun q30 => bnd (some (f_X12_ofInvoice q30 a1 (1 : Int32))) (fun q34 => bnd (g_X12_writeTold q30 35620116325408 q34.toInt64) (fun q37 => bnd (g_X12_write q37 (10 : Int32)) (fun q39 => (g_X12_writeInvoice_L80 ν a1 10000 q39 (0 : Int32)))))))))))))) else some ((0 : Int32), q4.2))))
set_option maxRecDepth 20000 in
set_option maxHeartbeats 4000000 in
theorem k_X12_writeInvoice (l : Launch) (D : va_G) (cA : Nat → ClassId) (s0 : State) (z : Nat) (b : Nat) (ν : Mm) (sz : Nat) (hG : xG l D cA s0) (a1 : Int32) (r : Int32 × Mm) (hF : g_X12_writeInvoice ν a1 = some r) : Met l yX12_writeInvoice (wsG yX12_writeInvoice cX12_writeInvoice 3 (some (FieldType.int))) { frames := 8, cells := 0, slots := 0, locals := 175 } (xP D cA s0 [.ref b, .int a1] (fun H => H.size = sz ∧ RX D cA s0 z b ν H)) (xQm (some (.int r.1)) (fun H => RX D cA s0 z b r.2 H) (xA b 8 sz)) 0 0 (xA b 8 sz) := by
  refine x_start (own := RX12) [(0, .ref b), (1, .int a1)] rfl rfl (by decide) (nb rfl) ?_
  intro p e s m args below meth c C hw
  obtain ⟨hsz, hw⟩ := hw
  subst hsz
  have hS : va_S (xA b 8 s.heap.size) s.heap s.heap [] := va_S.rf
  have h_L80 : ∀ (n : Nat) (μ0 : Mm) (x2 : Int32) (H : Heap) (locs : List Loc) (hw : RX D cA s0 z b μ0 H) (hS : va_S (xA b 8 s.heap.size) s.heap H locs), g_X12_writeInvoice_L80 ν a1 n μ0 x2 = some r → xW p l e { frames := 8, cells := 0, slots := 0, locals := 175 } s m args below meth c 3 (MQ below (xQm (some (.int r.1)) (fun H => RX D cA s0 z b r.2 H) (xA b 8 s.heap.size)) args s 0 0 (xA b 8 s.heap.size)) H locs 0 0 80 [(0, .ref b), (1, .int a1), (2, .int x2)] [] := by
    intro n
    induction n with
    | zero =>
      intro μ0 x2 H locs hw hS hF
      exact no_some hF
    | succ n ih =>
      intro μ0 x2 H locs hw hS hF
      have ih80 := ih
      refine x_iload_n C dX12_writeInvoice_80 rfl ?_
      refine x_iconst (4 : Int32) C dX12_writeInvoice_81 rfl ?_
      refine x_icmp_ge 110 C dX12_writeInvoice_82 (by decide) (fun c41 => ?_) (fun c41 => ?_)
      · have hF := ite_t hF c41
        refine x_aload_n C dX12_writeInvoice_110 rfl ?_
        refine x_ldcSw (z := z) 544499054 C hG.2.2.2 xl_X12_505 hw.2.2.2.1 dX12_writeInvoice_111 (fun ra42 hst43 => ?_)
        refine x_aload_n C dX12_writeInvoice_114 rfl ?_
        refine x_iload_n C dX12_writeInvoice_115 rfl ?_
        obtain ⟨h44, hF⟩ := asr_e hF
        obtain ⟨h45, hF⟩ := asr_e hF
        obtain ⟨q46, hq47, hF⟩ := bnd_e hF
        have hq47 := Option.some.inj hq47
        have K48 := c_X12_netOf l D cA s0 b μ0 h44 a1 h45
        rw [hq47] at K48
        refine x_goR (fun ls h => x_runV (As := [.int a1]) [.ref ra42, .ref b] h C ml_X12_371 K48 ⟨rfl, rfl, nb rfl, nb rfl⟩ rfl (M_obj hw.2.2.2.2) rfl hw.2.2.2.2 (nb rfl) ⟨Nat.zero_le _, Nat.zero_le _⟩ dX12_writeInvoice_116) ?_
        refine x_i2l C dX12_writeInvoice_119 ?_
        obtain ⟨q49, hq50, hF⟩ := bnd_e hF
        refine x_goM (fun ls h => x_runV (As := [.ref ra42, .long q46.toInt64]) [] h C ml_X12_478 (k_X12_writeTold l D cA s0 z b μ0 _ hG ra42 544499054 q46.toInt64 q49 hq50) ⟨rfl, rfl, nb rfl, nb rfl⟩ rfl (M_obj hw.2.2.2.2) rfl ⟨rfl, hw, hst43⟩ (nb rfl) ⟨Nat.zero_le _, Nat.zero_le _⟩ dX12_writeInvoice_120) hS (xA_le hS) (fun H locs hw hz hk hS => ?_)
        have hw : RX D cA s0 z b q49 H := hw
        refine x_aload_n C dX12_writeInvoice_123 rfl ?_
        refine x_ldcSw (z := z) 35658520358688 C hG.2.2.2 xl_X12_507 hw.2.2.2.1 dX12_writeInvoice_124 (fun ra51 hst52 => ?_)
        refine x_aload_n C dX12_writeInvoice_127 rfl ?_
        refine x_iload_n C dX12_writeInvoice_128 rfl ?_
        obtain ⟨h53, hF⟩ := asr_e hF
        obtain ⟨q54, hq55, hF⟩ := bnd_e hF
        have hq55 := Option.some.inj hq55
        have K56 := c_X12_openOf l D cA s0 b q49 h53 a1 h45
        rw [hq55] at K56
        refine x_goR (fun ls h => x_runV (As := [.int a1]) [.ref ra51, .ref b] h C ml_X12_383 K56 ⟨rfl, rfl, nb rfl, nb rfl⟩ rfl (M_obj hw.2.2.2.2) rfl hw.2.2.2.2 (nb rfl) ⟨Nat.zero_le _, Nat.zero_le _⟩ dX12_writeInvoice_129) ?_
        refine x_i2l C dX12_writeInvoice_132 ?_
        obtain ⟨q57, hq58, hF⟩ := bnd_e hF
        refine x_goM (fun ls h => x_runV (As := [.ref ra51, .long q54.toInt64]) [] h C ml_X12_478 (k_X12_writeTold l D cA s0 z b q49 _ hG ra51 35658520358688 q54.toInt64 q57 hq58) ⟨rfl, rfl, nb rfl, nb rfl⟩ rfl (M_obj hw.2.2.2.2) rfl ⟨rfl, hw, hst52⟩ (nb rfl) ⟨Nat.zero_le _, Nat.zero_le _⟩ dX12_writeInvoice_133) hS (xA_le hS) (fun H locs hw hz hk hS => ?_)
        have hw : RX D cA s0 z b q57 H := hw
        refine x_aload_n C dX12_writeInvoice_136 rfl ?_
        refine x_bipush (10 : Int32) C dX12_writeInvoice_137 rfl ?_
        obtain ⟨q59, hq60, hF⟩ := bnd_e hF
        refine x_goM (fun ls h => x_runV (As := [.int (10 : Int32)]) [] h C ml_X12_448 (k_X12_write l D cA s0 z b q57 _ hG (10 : Int32) q59 hq60) ⟨rfl, rfl, nb rfl, nb rfl⟩ rfl (M_obj hw.2.2.2.2) rfl ⟨rfl, hw⟩ (nb rfl) ⟨Nat.zero_le _, Nat.zero_le _⟩ dX12_writeInvoice_139) hS (xA_le hS) (fun H locs hw hz hk hS => ?_)
        have hw : RX D cA s0 z b q59 H := hw
        refine x_aload_n C dX12_writeInvoice_142 rfl ?_
        refine x_get (.int (q59.1 0 21)) C fl_X12_445 (M_obj hw.2.2.2.2) rfl dX12_writeInvoice_143 ?_
        exact x_iretM2 C rfl dX12_writeInvoice_146  (rm_i hF) (rm_m (W := fun m => RX D cA s0 z b m _) hF hw) hS (nb rfl) (nb rfl)
      · have hF := ite_f hF c41
        refine x_aload_n C dX12_writeInvoice_85 rfl ?_
        refine x_iload_n C dX12_writeInvoice_86 rfl ?_
        refine x_iconst (3 : Int32) C dX12_writeInvoice_87 rfl ?_
        obtain ⟨h61, hF⟩ := asr_e hF
        obtain ⟨q62, hq63, hF⟩ := bnd_e hF
        have hq63 := Option.some.inj hq63
        have K64 := c_X12_ofInvoice l D cA s0 b μ0 a1 (3 : Int32) h61 (ixin (ixl (x := (3 : Int32)) 3 rfl) (by decide) (by decide))
        rw [hq63] at K64
        refine x_goR (fun ls h => x_runV (As := [.int a1, .int (3 : Int32)]) [] h C ml_X12_305 K64 ⟨rfl, rfl, nb rfl, nb rfl⟩ rfl (M_obj hw.2.2.2.2) rfl hw.2.2.2.2 (nb rfl) ⟨Nat.zero_le _, Nat.zero_le _⟩ dX12_writeInvoice_88) ?_
        refine x_iload_n C dX12_writeInvoice_91 rfl ?_
        obtain ⟨q65, hq66, hF⟩ := bnd_e hF
        have hq66 := Option.some.inj hq66
        have K67 := c_X12_has l D cA s0 q62 x2 
        rw [hq66] at K67
        refine x_goR (fun ls h => x_runS (As := [.int q62, .int x2]) [] h C ml_X12_308 K67 ⟨rfl, rfl, nb rfl, nb rfl⟩ rfl trivial (nb rfl) ⟨Nat.zero_le _, Nat.zero_le _⟩ dX12_writeInvoice_92) ?_
        refine x_ifB_eq 104 C dX12_writeInvoice_95 (by decide) (fun c68 => ?_) (fun c68 => ?_)
        · have hF := ite_f hF (nbt c68)
          refine x_iinc (x2 + (1 : Int32)) [(2, .int (x2 + (1 : Int32))), (0, .ref b), (1, .int a1)] C dX12_writeInvoice_104 rfl rfl (by decide) rfl ?_
          refine x_goto 80 C dX12_writeInvoice_107 (by decide) ?_
          refine x_sub [(0, .ref b), (1, .int a1), (2, .int (x2 + (1 : Int32)))] [1, 2, 0] rfl ?_
          exact ih80 μ0 (x2 + (1 : Int32)) _ _ hw hS hF
        · have hF := ite_t hF c68
          refine x_aload_n C dX12_writeInvoice_98 rfl ?_
          refine x_iload_n C dX12_writeInvoice_99 rfl ?_
          refine x_iload_n C dX12_writeInvoice_100 rfl ?_
          obtain ⟨q69, hq70, hF⟩ := bnd_e hF
          refine x_goM (fun ls h => x_runV (As := [.int a1, .int x2]) [] h C ml_X12_501 (k_X12_writeLine l D cA s0 z b μ0 _ hG a1 x2 q69 hq70) ⟨rfl, rfl, nb rfl, nb rfl⟩ rfl (M_obj hw.2.2.2.2) rfl ⟨rfl, hw⟩ (nb rfl) ⟨Nat.zero_le _, Nat.zero_le _⟩ dX12_writeInvoice_101) hS (xA_le hS) (fun H locs hw hz hk hS => ?_)
          have hw : RX D cA s0 z b q69 H := hw
          refine x_iinc (x2 + (1 : Int32)) [(2, .int (x2 + (1 : Int32))), (0, .ref b), (1, .int a1)] C dX12_writeInvoice_104 rfl rfl (by decide) rfl ?_
          refine x_goto 80 C dX12_writeInvoice_107 (by decide) ?_
          refine x_sub [(0, .ref b), (1, .int a1), (2, .int (x2 + (1 : Int32)))] [1, 2, 0] rfl ?_
          exact ih80 q69 (x2 + (1 : Int32)) _ _ hw hS hF
  refine x_aload_n C dX12_writeInvoice_0 rfl ?_
  refine x_aload_n C dX12_writeInvoice_1 rfl ?_
  refine x_iload_n C dX12_writeInvoice_2 rfl ?_
  obtain ⟨q1, hq2, hF⟩ := bnd_e hF
  have hq2 := Option.some.inj hq2
  have K3 := c_X12_isInvoice l D cA s0 b ν a1 
  rw [hq2] at K3
  refine x_goR (fun ls h => x_runV (As := [.int a1]) [.ref b] h C ml_X12_380 K3 ⟨rfl, rfl, nb rfl, nb rfl⟩ rfl (M_obj hw.2.2.2.2) rfl hw.2.2.2.2 (nb rfl) ⟨Nat.zero_le _, Nat.zero_le _⟩ dX12_writeInvoice_3) ?_
  obtain ⟨q4, hq5, hF⟩ := bnd_e hF
  have hq5 := Option.some.inj hq5
  have K6 := c_X12_passes l D cA s0 b ν s.heap.size q1 
  rw [hq5] at K6
  have hwo := hw
  refine x_goM (fun ls h => x_runV (As := [.int (bI q1)]) [] h C ml_X12_62 K6 ⟨rfl, rfl, nb rfl, nb rfl⟩ rfl (M_obj hw.2.2.2.2) rfl ⟨rfl, hw.2.2.2.2⟩ (nb rfl) ⟨Nat.zero_le _, Nat.zero_le _⟩ dX12_writeInvoice_6) hS (xA_le hS) (fun H locs hw hz hk hS => ?_)
  have hw : RX D cA s0 z b q4.2 H := RX.of hwo hw hz hk
  refine x_ifB_ne 14 C dX12_writeInvoice_9 (by decide) (fun c7 => ?_) (fun c7 => ?_)
  · have hF := ite_t hF c7
    refine x_aload_n C dX12_writeInvoice_14 rfl ?_
    refine x_iconst (0 : Int32) C dX12_writeInvoice_15 rfl ?_
    refine m_putI (kk0 := 21) C fl_X12_445 hw rfl rfl rfl rfl (nb rfl) dX12_writeInvoice_16 hS (fun H locs hw hS => ?_)
    obtain ⟨μ8, hm9, hF⟩ := bnd_e hF
    have hw : RX D cA s0 z b μ8 H := rv_m (W := fun m => RX D cA s0 z b m _) hm9 hw
    refine x_aload_n C dX12_writeInvoice_19 rfl ?_
    refine x_ldcSw (z := z) 2334381286354218601 C hG.2.2.2 xl_X12_493 hw.2.2.2.1 dX12_writeInvoice_20 (fun ra10 hst11 => ?_)
    refine x_iload_n C dX12_writeInvoice_23 rfl ?_
    refine x_i2l C dX12_writeInvoice_24 ?_
    obtain ⟨q12, hq13, hF⟩ := bnd_e hF
    refine x_goM (fun ls h => x_runV (As := [.ref ra10, .long a1.toInt64]) [] h C ml_X12_478 (k_X12_writeTold l D cA s0 z b μ8 _ hG ra10 2334381286354218601 a1.toInt64 q12 hq13) ⟨rfl, rfl, nb rfl, nb rfl⟩ rfl (M_obj hw.2.2.2.2) rfl ⟨rfl, hw, hst11⟩ (nb rfl) ⟨Nat.zero_le _, Nat.zero_le _⟩ dX12_writeInvoice_25) hS (xA_le hS) (fun H locs hw hz hk hS => ?_)
    have hw : RX D cA s0 z b q12 H := hw
    refine x_aload_n C dX12_writeInvoice_28 rfl ?_
    refine x_ldcSw (z := z) 35667176878880 C hG.2.2.2 xl_X12_495 hw.2.2.2.1 dX12_writeInvoice_29 (fun ra14 hst15 => ?_)
    obtain ⟨q16, hq17, hF⟩ := bnd_e hF
    refine x_goM (fun ls h => x_runV (As := [.ref ra14]) [] h C ml_X12_463 (k_X12_writeText l D cA s0 z b q12 _ hG ra14 35667176878880 q16 hq17) ⟨rfl, rfl, nb rfl, nb rfl⟩ rfl (M_obj hw.2.2.2.2) rfl ⟨rfl, hw, hst15⟩ (nb rfl) ⟨Nat.zero_le _, Nat.zero_le _⟩ dX12_writeInvoice_32) hS (xA_le hS) (fun H locs hw hz hk hS => ?_)
    have hw : RX D cA s0 z b q16 H := hw
    refine x_aload_n C dX12_writeInvoice_35 rfl ?_
    refine x_aload_n C dX12_writeInvoice_36 rfl ?_
    refine x_iload_n C dX12_writeInvoice_37 rfl ?_
    obtain ⟨h18, hF⟩ := asr_e hF
    obtain ⟨h19, hF⟩ := asr_e hF
    obtain ⟨q20, hq21, hF⟩ := bnd_e hF
    have hq21 := Option.some.inj hq21
    have K22 := c_X12_shipOf l D cA s0 b q16 h18 a1 h19
    rw [hq21] at K22
    refine x_goR (fun ls h => x_runV (As := [.int a1]) [.ref b] h C ml_X12_368 K22 ⟨rfl, rfl, nb rfl, nb rfl⟩ rfl (M_obj hw.2.2.2.2) rfl hw.2.2.2.2 (nb rfl) ⟨Nat.zero_le _, Nat.zero_le _⟩ dX12_writeInvoice_38) ?_
    obtain ⟨q23, hq24, hF⟩ := bnd_e hF
    refine x_goM (fun ls h => x_runV (As := [.int q20]) [] h C ml_X12_457 (k_X12_writeName l D cA s0 z b q16 _ hG q20 q23 hq24) ⟨rfl, rfl, nb rfl, nb rfl⟩ rfl (M_obj hw.2.2.2.2) rfl ⟨rfl, hw⟩ (nb rfl) ⟨Nat.zero_le _, Nat.zero_le _⟩ dX12_writeInvoice_41) hS (xA_le hS) (fun H locs hw hz hk hS => ?_)
    have hw : RX D cA s0 z b q23 H := hw
    refine x_aload_n C dX12_writeInvoice_44 rfl ?_
    refine x_ldcSw (z := z) 35650046878496 C hG.2.2.2 xl_X12_497 hw.2.2.2.1 dX12_writeInvoice_45 (fun ra25 hst26 => ?_)
    refine x_aload_n C dX12_writeInvoice_48 rfl ?_
    refine x_iload_n C dX12_writeInvoice_49 rfl ?_
    refine x_iconst (0 : Int32) C dX12_writeInvoice_50 rfl ?_
    obtain ⟨q27, hq28, hF⟩ := bnd_e hF
    have hq28 := Option.some.inj hq28
    have K29 := c_X12_ofInvoice l D cA s0 b q23 a1 (0 : Int32) h19 (ixin (ixl (x := (0 : Int32)) 0 rfl) (by decide) (by decide))
    rw [hq28] at K29
    refine x_goR (fun ls h => x_runV (As := [.int a1, .int (0 : Int32)]) [.ref ra25, .ref b] h C ml_X12_305 K29 ⟨rfl, rfl, nb rfl, nb rfl⟩ rfl (M_obj hw.2.2.2.2) rfl hw.2.2.2.2 (nb rfl) ⟨Nat.zero_le _, Nat.zero_le _⟩ dX12_writeInvoice_51) ?_
    refine x_i2l C dX12_writeInvoice_54 ?_
    obtain ⟨q30, hq31, hF⟩ := bnd_e hF
    refine x_goM (fun ls h => x_runV (As := [.ref ra25, .long q27.toInt64]) [] h C ml_X12_478 (k_X12_writeTold l D cA s0 z b q23 _ hG ra25 35650046878496 q27.toInt64 q30 hq31) ⟨rfl, rfl, nb rfl, nb rfl⟩ rfl (M_obj hw.2.2.2.2) rfl ⟨rfl, hw, hst26⟩ (nb rfl) ⟨Nat.zero_le _, Nat.zero_le _⟩ dX12_writeInvoice_55) hS (xA_le hS) (fun H locs hw hz hk hS => ?_)
    have hw : RX D cA s0 z b q30 H := hw
    refine x_aload_n C dX12_writeInvoice_58 rfl ?_
    refine x_ldcSw (z := z) 35620116325408 C hG.2.2.2 xl_X12_499 hw.2.2.2.1 dX12_writeInvoice_59 (fun ra32 hst33 => ?_)
    refine x_aload_n C dX12_writeInvoice_62 rfl ?_
    refine x_iload_n C dX12_writeInvoice_63 rfl ?_
    refine x_iconst (1 : Int32) C dX12_writeInvoice_64 rfl ?_
    obtain ⟨q34, hq35, hF⟩ := bnd_e hF
    have hq35 := Option.some.inj hq35
    have K36 := c_X12_ofInvoice l D cA s0 b q30 a1 (1 : Int32) h19 (ixin (ixl (x := (1 : Int32)) 1 rfl) (by decide) (by decide))
    rw [hq35] at K36
    refine x_goR (fun ls h => x_runV (As := [.int a1, .int (1 : Int32)]) [.ref ra32, .ref b] h C ml_X12_305 K36 ⟨rfl, rfl, nb rfl, nb rfl⟩ rfl (M_obj hw.2.2.2.2) rfl hw.2.2.2.2 (nb rfl) ⟨Nat.zero_le _, Nat.zero_le _⟩ dX12_writeInvoice_65) ?_
    refine x_i2l C dX12_writeInvoice_68 ?_
    obtain ⟨q37, hq38, hF⟩ := bnd_e hF
    refine x_goM (fun ls h => x_runV (As := [.ref ra32, .long q34.toInt64]) [] h C ml_X12_478 (k_X12_writeTold l D cA s0 z b q30 _ hG ra32 35620116325408 q34.toInt64 q37 hq38) ⟨rfl, rfl, nb rfl, nb rfl⟩ rfl (M_obj hw.2.2.2.2) rfl ⟨rfl, hw, hst33⟩ (nb rfl) ⟨Nat.zero_le _, Nat.zero_le _⟩ dX12_writeInvoice_69) hS (xA_le hS) (fun H locs hw hz hk hS => ?_)
    have hw : RX D cA s0 z b q37 H := hw
    refine x_aload_n C dX12_writeInvoice_72 rfl ?_
    refine x_bipush (10 : Int32) C dX12_writeInvoice_73 rfl ?_
    obtain ⟨q39, hq40, hF⟩ := bnd_e hF
    refine x_goM (fun ls h => x_runV (As := [.int (10 : Int32)]) [] h C ml_X12_448 (k_X12_write l D cA s0 z b q37 _ hG (10 : Int32) q39 hq40) ⟨rfl, rfl, nb rfl, nb rfl⟩ rfl (M_obj hw.2.2.2.2) rfl ⟨rfl, hw⟩ (nb rfl) ⟨Nat.zero_le _, Nat.zero_le _⟩ dX12_writeInvoice_75) hS (xA_le hS) (fun H locs hw hz hk hS => ?_)
    have hw : RX D cA s0 z b q39 H := hw
    refine x_iconst (0 : Int32) C dX12_writeInvoice_78 rfl ?_
    refine x_istore_n [(2, .int (0 : Int32)), (0, .ref b), (1, .int a1)] C dX12_writeInvoice_79 rfl (by decide) rfl ?_
    refine x_sub [(0, .ref b), (1, .int a1), (2, .int (0 : Int32))] [1, 2, 0] rfl ?_
    exact h_L80 10000 q39 (0 : Int32) _ _ hw hS hF
  · have hF := ite_f hF (nbt c7)
    refine x_iconst (0 : Int32) C dX12_writeInvoice_12 rfl ?_
    exact x_iretM2 C rfl dX12_writeInvoice_13  (rm_i hF) (rm_m (W := fun m => RX D cA s0 z b m _) hF hw) hS (nb rfl) (nb rfl)
noncomputable def g_X12_writeEnd_J43 (ν : Mm) (a1 : Int32) (a2 : Int32) (a3 : Int32) (μ0 : Mm) (y0 : Bool) : Option (Mm) := (if y0 = true then bnd (g_X12_writeText μ0 7234302100218864416) (fun q7 => bnd (g_X12_write q7 (10 : Int32)) (fun q9 => some q9)) else bnd (g_X12_write μ0 (10 : Int32)) (fun q3 => some q3))
noncomputable def g_X12_writeEnd_J42 (ν : Mm) (a1 : Int32) (a2 : Int32) (a3 : Int32) (μ0 : Mm) : Option (Mm) := (g_X12_writeEnd_J43 ν a1 a2 a3 μ0 false)
noncomputable def g_X12_writeEnd_J38 (ν : Mm) (a1 : Int32) (a2 : Int32) (a3 : Int32) (μ0 : Mm) : Option (Mm) := (g_X12_writeEnd_J43 ν a1 a2 a3 μ0 true)
noncomputable def g_X12_writeEnd (ν : Mm) (a1 : Int32) (a2 : Int32) (a3 : Int32) : Option (Mm) := (if a1 ≤ 0 then (g_X12_writeEnd_J42 ν a1 a2 a3 ν) else asr (vp_in a1 21) (asr (vp_in a2 12) (bnd (some (f_X12_ofVersion ν a1 a2)) (fun q13 => asr (vp_in (a1 - (1 : Int32)) 21) (bnd (some (f_X12_ofVersion ν (a1 - (1 : Int32)) a2)) (fun q17 => (if q13 = q17 then asr (vp_in a3 12) (bnd (some (f_X12_ofVersion ν a1 a3)) (fun q22 => bnd (some (f_X12_ofVersion ν (a1 - (1 : Int32)) a3)) (fun q25 => (if q22 = q25 then (g_X12_writeEnd_J42 ν a1 a2 a3 ν) else (g_X12_writeEnd_J38 ν a1 a2 a3 ν))))) else (g_X12_writeEnd_J38 ν a1 a2 a3 ν))))))))
set_option maxRecDepth 20000 in
set_option maxHeartbeats 4000000 in
theorem k_X12_writeEnd (l : Launch) (D : va_G) (cA : Nat → ClassId) (s0 : State) (z : Nat) (b : Nat) (ν : Mm) (sz : Nat) (hG : xG l D cA s0) (a1 : Int32) (a2 : Int32) (a3 : Int32) (r : Mm) (hF : g_X12_writeEnd ν a1 a2 a3 = some r) : Met l yX12_writeEnd (wsG yX12_writeEnd cX12_writeEnd 5 none) { frames := 5, cells := 0, slots := 0, locals := 107 } (xP D cA s0 [.ref b, .int a1, .int a2, .int a3] (fun H => H.size = sz ∧ RX D cA s0 z b ν H)) (xQm none (fun H => RX D cA s0 z b r H) (xA b 8 sz)) 0 0 (xA b 8 sz) := by
  refine x_start (own := RX12) [(0, .ref b), (1, .int a1), (2, .int a2), (3, .int a3)] rfl rfl (by decide) (nb rfl) ?_
  intro p e s m args below meth c C hw
  obtain ⟨hsz, hw⟩ := hw
  subst hsz
  have hS : va_S (xA b 8 s.heap.size) s.heap s.heap [] := va_S.rf
  have h_J43 : ∀ (μ0 : Mm) (y0 : Bool) (H : Heap) (locs : List Loc) (hw : RX D cA s0 z b μ0 H) (hS : va_S (xA b 8 s.heap.size) s.heap H locs), g_X12_writeEnd_J43 ν a1 a2 a3 μ0 y0 = some r → xW p l e { frames := 5, cells := 0, slots := 0, locals := 107 } s m args below meth c 5 (MQ below (xQm none (fun H => RX D cA s0 z b r H) (xA b 8 s.heap.size)) args s 0 0 (xA b 8 s.heap.size)) H locs 0 0 43 [(0, .ref b)] [.int (bI y0)] := by
    intro μ0 y0 H locs hw hS hF
    refine x_istore [(4, .int (bI y0)), (0, .ref b)] C dX12_writeEnd_43 (by decide) rfl ?_
    refine x_iload C dX12_writeEnd_45 rfl ?_
    refine x_ifB_eq 57 C dX12_writeEnd_47 (by decide) (fun c2 => ?_) (fun c2 => ?_)
    · have hF := ite_f hF (nbt c2)
      refine x_aload_n C dX12_writeEnd_57 rfl ?_
      refine x_bipush (10 : Int32) C dX12_writeEnd_58 rfl ?_
      obtain ⟨q3, hq4, hF⟩ := bnd_e hF
      refine x_goM (fun ls h => x_runV (As := [.int (10 : Int32)]) [] h C ml_X12_448 (k_X12_write l D cA s0 z b μ0 _ hG (10 : Int32) q3 hq4) ⟨rfl, rfl, nb rfl, nb rfl⟩ rfl (M_obj hw.2.2.2.2) rfl ⟨rfl, hw⟩ (nb rfl) ⟨Nat.zero_le _, Nat.zero_le _⟩ dX12_writeEnd_60) hS (xA_le hS) (fun H locs hw hz hk hS => ?_)
      have hw : RX D cA s0 z b q3 H := hw
      exact x_vretM2 C rfl dX12_writeEnd_63 rfl (rv_m (W := fun m => RX D cA s0 z b m _) hF hw) hS (nb rfl) (nb rfl)
    · have hF := ite_t hF c2
      refine x_aload_n C dX12_writeEnd_50 rfl ?_
      refine x_ldcSw (z := z) 7234302100218864416 C hG.2.2.2 xl_X12_509 hw.2.2.2.1 dX12_writeEnd_51 (fun ra5 hst6 => ?_)
      obtain ⟨q7, hq8, hF⟩ := bnd_e hF
      refine x_goM (fun ls h => x_runV (As := [.ref ra5]) [] h C ml_X12_463 (k_X12_writeText l D cA s0 z b μ0 _ hG ra5 7234302100218864416 q7 hq8) ⟨rfl, rfl, nb rfl, nb rfl⟩ rfl (M_obj hw.2.2.2.2) rfl ⟨rfl, hw, hst6⟩ (nb rfl) ⟨Nat.zero_le _, Nat.zero_le _⟩ dX12_writeEnd_54) hS (xA_le hS) (fun H locs hw hz hk hS => ?_)
      have hw : RX D cA s0 z b q7 H := hw
      refine x_aload_n C dX12_writeEnd_57 rfl ?_
      refine x_bipush (10 : Int32) C dX12_writeEnd_58 rfl ?_
      obtain ⟨q9, hq10, hF⟩ := bnd_e hF
      refine x_goM (fun ls h => x_runV (As := [.int (10 : Int32)]) [] h C ml_X12_448 (k_X12_write l D cA s0 z b q7 _ hG (10 : Int32) q9 hq10) ⟨rfl, rfl, nb rfl, nb rfl⟩ rfl (M_obj hw.2.2.2.2) rfl ⟨rfl, hw⟩ (nb rfl) ⟨Nat.zero_le _, Nat.zero_le _⟩ dX12_writeEnd_60) hS (xA_le hS) (fun H locs hw hz hk hS => ?_)
      have hw : RX D cA s0 z b q9 H := hw
      exact x_vretM2 C rfl dX12_writeEnd_63 rfl (rv_m (W := fun m => RX D cA s0 z b m _) hF hw) hS (nb rfl) (nb rfl)
  have h_J42 : ∀ (μ0 : Mm) (H : Heap) (locs : List Loc) (hw : RX D cA s0 z b μ0 H) (hS : va_S (xA b 8 s.heap.size) s.heap H locs), g_X12_writeEnd_J42 ν a1 a2 a3 μ0 = some r → xW p l e { frames := 5, cells := 0, slots := 0, locals := 107 } s m args below meth c 5 (MQ below (xQm none (fun H => RX D cA s0 z b r H) (xA b 8 s.heap.size)) args s 0 0 (xA b 8 s.heap.size)) H locs 0 0 42 [(0, .ref b)] [] := by
    intro μ0 H locs hw hS hF
    refine x_iconst (0 : Int32) C dX12_writeEnd_42 rfl ?_
    exact h_J43 μ0 false _ _ hw hS hF
  have h_J38 : ∀ (μ0 : Mm) (H : Heap) (locs : List Loc) (hw : RX D cA s0 z b μ0 H) (hS : va_S (xA b 8 s.heap.size) s.heap H locs), g_X12_writeEnd_J38 ν a1 a2 a3 μ0 = some r → xW p l e { frames := 5, cells := 0, slots := 0, locals := 107 } s m args below meth c 5 (MQ below (xQm none (fun H => RX D cA s0 z b r H) (xA b 8 s.heap.size)) args s 0 0 (xA b 8 s.heap.size)) H locs 0 0 38 [(0, .ref b)] [] := by
    intro μ0 H locs hw hS hF
    refine x_iconst (1 : Int32) C dX12_writeEnd_38 rfl ?_
    refine x_goto 43 C dX12_writeEnd_39 (by decide) ?_
    exact h_J43 μ0 true _ _ hw hS hF
  refine x_iload_n C dX12_writeEnd_0 rfl ?_
  refine x_if_le 42 C dX12_writeEnd_1 (by decide) (fun c1 => ?_) (fun c1 => ?_)
  · have hF := ite_t hF c1
    refine x_sub [(0, .ref b)] [0] rfl ?_
    exact h_J42 ν _ _ hw hS hF
  · have hF := ite_f hF c1
    refine x_aload_n C dX12_writeEnd_4 rfl ?_
    refine x_iload_n C dX12_writeEnd_5 rfl ?_
    refine x_iload_n C dX12_writeEnd_6 rfl ?_
    obtain ⟨h11, hF⟩ := asr_e hF
    obtain ⟨h12, hF⟩ := asr_e hF
    obtain ⟨q13, hq14, hF⟩ := bnd_e hF
    have hq14 := Option.some.inj hq14
    have K15 := c_X12_ofVersion l D cA s0 b ν a1 a2 h11 h12
    rw [hq14] at K15
    refine x_goR (fun ls h => x_runV (As := [.int a1, .int a2]) [] h C ml_X12_240 K15 ⟨rfl, rfl, nb rfl, nb rfl⟩ rfl (M_obj hw.2.2.2.2) rfl hw.2.2.2.2 (nb rfl) ⟨Nat.zero_le _, Nat.zero_le _⟩ dX12_writeEnd_7) ?_
    refine x_aload_n C dX12_writeEnd_10 rfl ?_
    refine x_iload_n C dX12_writeEnd_11 rfl ?_
    refine x_iconst (1 : Int32) C dX12_writeEnd_12 rfl ?_
    refine x_isub C dX12_writeEnd_13 ?_
    refine x_iload_n C dX12_writeEnd_14 rfl ?_
    obtain ⟨h16, hF⟩ := asr_e hF
    obtain ⟨q17, hq18, hF⟩ := bnd_e hF
    have hq18 := Option.some.inj hq18
    have K19 := c_X12_ofVersion l D cA s0 b ν (a1 - (1 : Int32)) a2 h16 h12
    rw [hq18] at K19
    refine x_goR (fun ls h => x_runV (As := [.int (a1 - (1 : Int32)), .int a2]) [.int q13] h C ml_X12_240 K19 ⟨rfl, rfl, nb rfl, nb rfl⟩ rfl (M_obj hw.2.2.2.2) rfl hw.2.2.2.2 (nb rfl) ⟨Nat.zero_le _, Nat.zero_le _⟩ dX12_writeEnd_15) ?_
    refine x_icmp_ne 38 C dX12_writeEnd_18 (by decide) (fun c20 => ?_) (fun c20 => ?_)
    · have hF := ite_f hF c20
      refine x_sub [(0, .ref b)] [0] rfl ?_
      exact h_J38 ν _ _ hw hS hF
    · have hF := ite_t hF c20
      refine x_aload_n C dX12_writeEnd_21 rfl ?_
      refine x_iload_n C dX12_writeEnd_22 rfl ?_
      refine x_iload_n C dX12_writeEnd_23 rfl ?_
      obtain ⟨h21, hF⟩ := asr_e hF
      obtain ⟨q22, hq23, hF⟩ := bnd_e hF
      have hq23 := Option.some.inj hq23
      have K24 := c_X12_ofVersion l D cA s0 b ν a1 a3 h11 h21
      rw [hq23] at K24
      refine x_goR (fun ls h => x_runV (As := [.int a1, .int a3]) [] h C ml_X12_240 K24 ⟨rfl, rfl, nb rfl, nb rfl⟩ rfl (M_obj hw.2.2.2.2) rfl hw.2.2.2.2 (nb rfl) ⟨Nat.zero_le _, Nat.zero_le _⟩ dX12_writeEnd_24) ?_
      refine x_aload_n C dX12_writeEnd_27 rfl ?_
      refine x_iload_n C dX12_writeEnd_28 rfl ?_
      refine x_iconst (1 : Int32) C dX12_writeEnd_29 rfl ?_
      refine x_isub C dX12_writeEnd_30 ?_
      refine x_iload_n C dX12_writeEnd_31 rfl ?_
      obtain ⟨q25, hq26, hF⟩ := bnd_e hF
      have hq26 := Option.some.inj hq26
      have K27 := c_X12_ofVersion l D cA s0 b ν (a1 - (1 : Int32)) a3 h16 h21
      rw [hq26] at K27
      refine x_goR (fun ls h => x_runV (As := [.int (a1 - (1 : Int32)), .int a3]) [.int q22] h C ml_X12_240 K27 ⟨rfl, rfl, nb rfl, nb rfl⟩ rfl (M_obj hw.2.2.2.2) rfl hw.2.2.2.2 (nb rfl) ⟨Nat.zero_le _, Nat.zero_le _⟩ dX12_writeEnd_32) ?_
      refine x_icmp_eq 42 C dX12_writeEnd_35 (by decide) (fun c28 => ?_) (fun c28 => ?_)
      · have hF := ite_t hF c28
        refine x_sub [(0, .ref b)] [0] rfl ?_
        exact h_J42 ν _ _ hw hS hF
      · have hF := ite_f hF c28
        refine x_sub [(0, .ref b)] [0] rfl ?_
        exact h_J38 ν _ _ hw hS hF
noncomputable def g_X12_writeTariff_L122 (ν : Mm) (a1 : Int32) : Nat → Mm → Int32 → Option (Int32 × Mm)
  | 0, _, _ => none
  | n + 1, μ0, x2 => (if (μ0.1 1 7) ≤ x2 then bnd (g_X12_writeTold μ0 10024892076463357237700813175 ((μ0.1 1 9).toInt64)) (fun q26 => bnd (g_X12_writeTold q26 35619865781792 ((q26.1 1 10).toInt64)) (fun q30 => bnd (g_X12_writeTold q30 9118676900016160 ((q30.1 1 11).toInt64)) (fun q34 => bnd (g_X12_write q34 (10 : Int32)) (fun q36 => asr (vp_in a1 21) (bnd (some (f_X12_ofVersion q36 a1 (10 : Int32))) (fun q41 => bnd (g_X12_writeTold q36 597602182112141205868 q41.toInt64) (fun q44 => bnd (some (f_X12_ofVersion q44 a1 (11 : Int32))) (fun q48 => bnd (g_X12_writeTold q44 35620116328992 q48.toInt64) (fun q51 => bnd (g_X12_writeEnd q51 a1 (10 : Int32) (11 : Int32)) (fun q53 => some (q53.1 0 21, q53))))))))))) else asr (vp_in ((18 : Int32) + x2) 1377) (bnd (g_X12_writeTold μ0 9118749779191154 ((μ0.1 1 (cl ((18 : Int32) + x2))).toInt64)) (fun q60 => asr (vp_in a1 21) (asr (vp_in ((6 : Int32) + x2) 12) (bnd (some (f_X12_ofVersion q60 a1 ((6 : Int32) + x2))) (fun q66 => bnd (g_X12_writeTold q60 598685564992338882592 q66.toInt64) (fun q69 => bnd (g_X12_writeEnd q69 a1 ((6 : Int32) + x2) ((6 : Int32) + x2)) (fun q71 => (g_X12_writeTariff_L122 ν a1 n q71 (x2 + (1 : Int32)))))))))))
noncomputable def g_X12_writeTariff_L59 (ν : Mm) (a1 : Int32) : Nat → Mm → Int32 → Option (Int32 × Mm)
  | 0, _, _ => none
  | n + 1, μ0, x2 => (if (μ0.1 1 6) ≤ x2 then (g_X12_writeTariff_L122 ν a1 10000 μ0 (0 : Int32)) else asr (vp_in ((12 : Int32) + x2) 1377) (bnd (g_X12_writeTold μ0 139123908962 ((μ0.1 1 (cl ((12 : Int32) + x2))).toInt64)) (fun q78 => asr (vp_in a1 21) (asr (vp_in ((0 : Int32) + x2) 12) (bnd (some (f_X12_ofVersion q78 a1 ((0 : Int32) + x2))) (fun q84 => bnd (g_X12_writeTold q78 35620116328992 q84.toInt64) (fun q87 => bnd (g_X12_writeEnd q87 a1 ((0 : Int32) + x2) ((0 : Int32) + x2)) (fun q89 => (g_X12_writeTariff_L59 ν a1 n q89 (x2 + (1 : Int32)))))))))))
noncomputable def g_X12_writeTariff (ν : Mm) (a1 : Int32) : Option (Int32 × Mm) := bnd (some (f_X12_version ν)) (fun q1 => bnd (some (f_X12_in a1.toInt64 (0 : Int64) q1.toInt64)) (fun q4 => bnd (some (f_X12_passes ν q4)) (fun q7 => (if q7.1 = true then bnd (some (uI q7.2 0 21 (0 : Int32))) (fun μ11 => bnd (g_X12_writeTold μ11 2336927755350992246 a1.toInt64) (fun q15 => (if (q15.1 1 8) = 0 then bnd (g_X12_writeText q15 753057040345887498) (fun q93 => (g_X12_writeTariff_L59 ν a1 10000 q93 (0 : Int32))) else bnd (g_X12_writeText q15 11417657570058) (fun q20 => (g_X12_writeTariff_L59 ν a1 10000 q20 (0 : Int32)))))) else some ((0 : Int32), q7.2)))))
set_option maxRecDepth 20000 in
set_option maxHeartbeats 4000000 in
theorem k_X12_writeTariff (l : Launch) (D : va_G) (cA : Nat → ClassId) (s0 : State) (z : Nat) (b : Nat) (ν : Mm) (sz : Nat) (hG : xG l D cA s0) (a1 : Int32) (r : Int32 × Mm) (hF : g_X12_writeTariff ν a1 = some r) : Met l yX12_writeTariff (wsG yX12_writeTariff cX12_writeTariff 3 (some (FieldType.int))) { frames := 6, cells := 0, slots := 0, locals := 131 } (xP D cA s0 [.ref b, .int a1] (fun H => H.size = sz ∧ RX D cA s0 z b ν H)) (xQm (some (.int r.1)) (fun H => RX D cA s0 z b r.2 H) (xA b 8 sz)) 0 0 (xA b 8 sz) := by
  refine x_start (own := RX12) [(0, .ref b), (1, .int a1)] rfl rfl (by decide) (nb rfl) ?_
  intro p e s m args below meth c C hw
  obtain ⟨hsz, hw⟩ := hw
  subst hsz
  have hS : va_S (xA b 8 s.heap.size) s.heap s.heap [] := va_S.rf
  have h_L122 : ∀ (n : Nat) (μ0 : Mm) (x2 : Int32) (H : Heap) (locs : List Loc) (hw : RX D cA s0 z b μ0 H) (hS : va_S (xA b 8 s.heap.size) s.heap H locs), g_X12_writeTariff_L122 ν a1 n μ0 x2 = some r → xW p l e { frames := 6, cells := 0, slots := 0, locals := 131 } s m args below meth c 3 (MQ below (xQm (some (.int r.1)) (fun H => RX D cA s0 z b r.2 H) (xA b 8 s.heap.size)) args s 0 0 (xA b 8 s.heap.size)) H locs 0 0 122 [(0, .ref b), (1, .int a1), (2, .int x2)] [] := by
    intro n
    induction n with
    | zero =>
      intro μ0 x2 H locs hw hS hF
      exact no_some hF
    | succ n ih =>
      intro μ0 x2 H locs hw hS hF
      have ih122 := ih
      refine x_iload_n C dX12_writeTariff_122 rfl ?_
      refine x_aload_n C dX12_writeTariff_123 rfl ?_
      refine x_get (.ref (b + 1)) C fl_X12_17 (M_obj hw.2.2.2.2) rfl dX12_writeTariff_124 ?_
      refine x_bipush (7 : Int32) C dX12_writeTariff_127 rfl ?_
      refine x_ialdN C (M_a1 hw.2.2.2.2) (ixl (x := (7 : Int32)) 7 rfl) (by decide) (by decide) dX12_writeTariff_129 ?_
      refine x_icmp_ge 186 C dX12_writeTariff_130 (by decide) (fun c23 => ?_) (fun c23 => ?_)
      · have hF := ite_t hF c23
        refine x_aload_n C dX12_writeTariff_186 rfl ?_
        refine x_ldcSw (z := z) 10024892076463357237700813175 C hG.2.2.2 xl_X12_526 hw.2.2.2.1 dX12_writeTariff_187 (fun ra24 hst25 => ?_)
        refine x_aload_n C dX12_writeTariff_190 rfl ?_
        refine x_get (.ref (b + 1)) C fl_X12_17 (M_obj hw.2.2.2.2) rfl dX12_writeTariff_191 ?_
        refine x_bipush (9 : Int32) C dX12_writeTariff_194 rfl ?_
        refine x_ialdN C (M_a1 hw.2.2.2.2) (ixl (x := (9 : Int32)) 9 rfl) (by decide) (by decide) dX12_writeTariff_196 ?_
        refine x_i2l C dX12_writeTariff_197 ?_
        obtain ⟨q26, hq27, hF⟩ := bnd_e hF
        refine x_goM (fun ls h => x_runV (As := [.ref ra24, .long ((μ0.1 1 9).toInt64)]) [] h C ml_X12_478 (k_X12_writeTold l D cA s0 z b μ0 _ hG ra24 10024892076463357237700813175 ((μ0.1 1 9).toInt64) q26 hq27) ⟨rfl, rfl, nb rfl, nb rfl⟩ rfl (M_obj hw.2.2.2.2) rfl ⟨rfl, hw, hst25⟩ (nb rfl) ⟨Nat.zero_le _, Nat.zero_le _⟩ dX12_writeTariff_198) hS (xA_le hS) (fun H locs hw hz hk hS => ?_)
        have hw : RX D cA s0 z b q26 H := hw
        refine x_aload_n C dX12_writeTariff_201 rfl ?_
        refine x_ldcSw (z := z) 35619865781792 C hG.2.2.2 xl_X12_528 hw.2.2.2.1 dX12_writeTariff_202 (fun ra28 hst29 => ?_)
        refine x_aload_n C dX12_writeTariff_205 rfl ?_
        refine x_get (.ref (b + 1)) C fl_X12_17 (M_obj hw.2.2.2.2) rfl dX12_writeTariff_206 ?_
        refine x_bipush (10 : Int32) C dX12_writeTariff_209 rfl ?_
        refine x_ialdN C (M_a1 hw.2.2.2.2) (ixl (x := (10 : Int32)) 10 rfl) (by decide) (by decide) dX12_writeTariff_211 ?_
        refine x_i2l C dX12_writeTariff_212 ?_
        obtain ⟨q30, hq31, hF⟩ := bnd_e hF
        refine x_goM (fun ls h => x_runV (As := [.ref ra28, .long ((q26.1 1 10).toInt64)]) [] h C ml_X12_478 (k_X12_writeTold l D cA s0 z b q26 _ hG ra28 35619865781792 ((q26.1 1 10).toInt64) q30 hq31) ⟨rfl, rfl, nb rfl, nb rfl⟩ rfl (M_obj hw.2.2.2.2) rfl ⟨rfl, hw, hst29⟩ (nb rfl) ⟨Nat.zero_le _, Nat.zero_le _⟩ dX12_writeTariff_213) hS (xA_le hS) (fun H locs hw hz hk hS => ?_)
        have hw : RX D cA s0 z b q30 H := hw
        refine x_aload_n C dX12_writeTariff_216 rfl ?_
        refine x_ldcSw (z := z) 9118676900016160 C hG.2.2.2 xl_X12_530 hw.2.2.2.1 dX12_writeTariff_217 (fun ra32 hst33 => ?_)
        refine x_aload_n C dX12_writeTariff_220 rfl ?_
        refine x_get (.ref (b + 1)) C fl_X12_17 (M_obj hw.2.2.2.2) rfl dX12_writeTariff_221 ?_
        refine x_bipush (11 : Int32) C dX12_writeTariff_224 rfl ?_
        refine x_ialdN C (M_a1 hw.2.2.2.2) (ixl (x := (11 : Int32)) 11 rfl) (by decide) (by decide) dX12_writeTariff_226 ?_
        refine x_i2l C dX12_writeTariff_227 ?_
        obtain ⟨q34, hq35, hF⟩ := bnd_e hF
        refine x_goM (fun ls h => x_runV (As := [.ref ra32, .long ((q30.1 1 11).toInt64)]) [] h C ml_X12_478 (k_X12_writeTold l D cA s0 z b q30 _ hG ra32 9118676900016160 ((q30.1 1 11).toInt64) q34 hq35) ⟨rfl, rfl, nb rfl, nb rfl⟩ rfl (M_obj hw.2.2.2.2) rfl ⟨rfl, hw, hst33⟩ (nb rfl) ⟨Nat.zero_le _, Nat.zero_le _⟩ dX12_writeTariff_228) hS (xA_le hS) (fun H locs hw hz hk hS => ?_)
        have hw : RX D cA s0 z b q34 H := hw
        refine x_aload_n C dX12_writeTariff_231 rfl ?_
        refine x_bipush (10 : Int32) C dX12_writeTariff_232 rfl ?_
        obtain ⟨q36, hq37, hF⟩ := bnd_e hF
        refine x_goM (fun ls h => x_runV (As := [.int (10 : Int32)]) [] h C ml_X12_448 (k_X12_write l D cA s0 z b q34 _ hG (10 : Int32) q36 hq37) ⟨rfl, rfl, nb rfl, nb rfl⟩ rfl (M_obj hw.2.2.2.2) rfl ⟨rfl, hw⟩ (nb rfl) ⟨Nat.zero_le _, Nat.zero_le _⟩ dX12_writeTariff_234) hS (xA_le hS) (fun H locs hw hz hk hS => ?_)
        have hw : RX D cA s0 z b q36 H := hw
        refine x_aload_n C dX12_writeTariff_237 rfl ?_
        refine x_ldcSw (z := z) 597602182112141205868 C hG.2.2.2 xl_X12_532 hw.2.2.2.1 dX12_writeTariff_238 (fun ra38 hst39 => ?_)
        refine x_aload_n C dX12_writeTariff_241 rfl ?_
        refine x_iload_n C dX12_writeTariff_242 rfl ?_
        refine x_bipush (10 : Int32) C dX12_writeTariff_243 rfl ?_
        obtain ⟨h40, hF⟩ := asr_e hF
        obtain ⟨q41, hq42, hF⟩ := bnd_e hF
        have hq42 := Option.some.inj hq42
        have K43 := c_X12_ofVersion l D cA s0 b q36 a1 (10 : Int32) h40 (ixin (ixl (x := (10 : Int32)) 10 rfl) (by decide) (by decide))
        rw [hq42] at K43
        refine x_goR (fun ls h => x_runV (As := [.int a1, .int (10 : Int32)]) [.ref ra38, .ref b] h C ml_X12_240 K43 ⟨rfl, rfl, nb rfl, nb rfl⟩ rfl (M_obj hw.2.2.2.2) rfl hw.2.2.2.2 (nb rfl) ⟨Nat.zero_le _, Nat.zero_le _⟩ dX12_writeTariff_245) ?_
        refine x_i2l C dX12_writeTariff_248 ?_
        obtain ⟨q44, hq45, hF⟩ := bnd_e hF
        refine x_goM (fun ls h => x_runV (As := [.ref ra38, .long q41.toInt64]) [] h C ml_X12_478 (k_X12_writeTold l D cA s0 z b q36 _ hG ra38 597602182112141205868 q41.toInt64 q44 hq45) ⟨rfl, rfl, nb rfl, nb rfl⟩ rfl (M_obj hw.2.2.2.2) rfl ⟨rfl, hw, hst39⟩ (nb rfl) ⟨Nat.zero_le _, Nat.zero_le _⟩ dX12_writeTariff_249) hS (xA_le hS) (fun H locs hw hz hk hS => ?_)
        have hw : RX D cA s0 z b q44 H := hw
        refine x_aload_n C dX12_writeTariff_252 rfl ?_
        refine x_ldcSw (z := z) 35620116328992 C hG.2.2.2 xl_X12_519 hw.2.2.2.1 dX12_writeTariff_253 (fun ra46 hst47 => ?_)
        refine x_aload_n C dX12_writeTariff_256 rfl ?_
        refine x_iload_n C dX12_writeTariff_257 rfl ?_
        refine x_bipush (11 : Int32) C dX12_writeTariff_258 rfl ?_
        obtain ⟨q48, hq49, hF⟩ := bnd_e hF
        have hq49 := Option.some.inj hq49
        have K50 := c_X12_ofVersion l D cA s0 b q44 a1 (11 : Int32) h40 (ixin (ixl (x := (11 : Int32)) 11 rfl) (by decide) (by decide))
        rw [hq49] at K50
        refine x_goR (fun ls h => x_runV (As := [.int a1, .int (11 : Int32)]) [.ref ra46, .ref b] h C ml_X12_240 K50 ⟨rfl, rfl, nb rfl, nb rfl⟩ rfl (M_obj hw.2.2.2.2) rfl hw.2.2.2.2 (nb rfl) ⟨Nat.zero_le _, Nat.zero_le _⟩ dX12_writeTariff_260) ?_
        refine x_i2l C dX12_writeTariff_263 ?_
        obtain ⟨q51, hq52, hF⟩ := bnd_e hF
        refine x_goM (fun ls h => x_runV (As := [.ref ra46, .long q48.toInt64]) [] h C ml_X12_478 (k_X12_writeTold l D cA s0 z b q44 _ hG ra46 35620116328992 q48.toInt64 q51 hq52) ⟨rfl, rfl, nb rfl, nb rfl⟩ rfl (M_obj hw.2.2.2.2) rfl ⟨rfl, hw, hst47⟩ (nb rfl) ⟨Nat.zero_le _, Nat.zero_le _⟩ dX12_writeTariff_264) hS (xA_le hS) (fun H locs hw hz hk hS => ?_)
        have hw : RX D cA s0 z b q51 H := hw
        refine x_aload_n C dX12_writeTariff_267 rfl ?_
        refine x_iload_n C dX12_writeTariff_268 rfl ?_
        refine x_bipush (10 : Int32) C dX12_writeTariff_269 rfl ?_
        refine x_bipush (11 : Int32) C dX12_writeTariff_271 rfl ?_
        obtain ⟨q53, hq54, hF⟩ := bnd_e hF
        refine x_goM (fun ls h => x_runV (As := [.int a1, .int (10 : Int32), .int (11 : Int32)]) [] h C ml_X12_521 (k_X12_writeEnd l D cA s0 z b q51 _ hG a1 (10 : Int32) (11 : Int32) q53 hq54) ⟨rfl, rfl, nb rfl, nb rfl⟩ rfl (M_obj hw.2.2.2.2) rfl ⟨rfl, hw⟩ (nb rfl) ⟨Nat.zero_le _, Nat.zero_le _⟩ dX12_writeTariff_273) hS (xA_le hS) (fun H locs hw hz hk hS => ?_)
        have hw : RX D cA s0 z b q53 H := hw
        refine x_aload_n C dX12_writeTariff_276 rfl ?_
        refine x_get (.int (q53.1 0 21)) C fl_X12_445 (M_obj hw.2.2.2.2) rfl dX12_writeTariff_277 ?_
        exact x_iretM2 C rfl dX12_writeTariff_280  (rm_i hF) (rm_m (W := fun m => RX D cA s0 z b m _) hF hw) hS (nb rfl) (nb rfl)
      · have hF := ite_f hF c23
        refine x_aload_n C dX12_writeTariff_133 rfl ?_
        refine x_ldcSw (z := z) 9118749779191154 C hG.2.2.2 xl_X12_468 hw.2.2.2.1 dX12_writeTariff_134 (fun ra55 hst56 => ?_)
        refine x_aload_n C dX12_writeTariff_137 rfl ?_
        refine x_get (.ref (b + 1)) C fl_X12_17 (M_obj hw.2.2.2.2) rfl dX12_writeTariff_138 ?_
        refine x_bipush (18 : Int32) C dX12_writeTariff_141 rfl ?_
        refine x_iload_n C dX12_writeTariff_143 rfl ?_
        refine x_iadd C dX12_writeTariff_144 ?_
        obtain ⟨h57, hF⟩ := asr_e hF
        obtain ⟨hn58, hl59⟩ := vpn h57 (by decide)
        refine x_ialdN C (M_a1 hw.2.2.2.2) hn58 hl59 (by decide) dX12_writeTariff_145 ?_
        refine x_i2l C dX12_writeTariff_146 ?_
        obtain ⟨q60, hq61, hF⟩ := bnd_e hF
        refine x_goM (fun ls h => x_runV (As := [.ref ra55, .long ((μ0.1 1 (cl ((18 : Int32) + x2))).toInt64)]) [] h C ml_X12_478 (k_X12_writeTold l D cA s0 z b μ0 _ hG ra55 9118749779191154 ((μ0.1 1 (cl ((18 : Int32) + x2))).toInt64) q60 hq61) ⟨rfl, rfl, nb rfl, nb rfl⟩ rfl (M_obj hw.2.2.2.2) rfl ⟨rfl, hw, hst56⟩ (nb rfl) ⟨Nat.zero_le _, Nat.zero_le _⟩ dX12_writeTariff_147) hS (xA_le hS) (fun H locs hw hz hk hS => ?_)
        have hw : RX D cA s0 z b q60 H := hw
        refine x_aload_n C dX12_writeTariff_150 rfl ?_
        refine x_ldcSw (z := z) 598685564992338882592 C hG.2.2.2 xl_X12_524 hw.2.2.2.1 dX12_writeTariff_151 (fun ra62 hst63 => ?_)
        refine x_aload_n C dX12_writeTariff_154 rfl ?_
        refine x_iload_n C dX12_writeTariff_155 rfl ?_
        refine x_bipush (6 : Int32) C dX12_writeTariff_156 rfl ?_
        refine x_iload_n C dX12_writeTariff_158 rfl ?_
        refine x_iadd C dX12_writeTariff_159 ?_
        obtain ⟨h64, hF⟩ := asr_e hF
        obtain ⟨h65, hF⟩ := asr_e hF
        obtain ⟨q66, hq67, hF⟩ := bnd_e hF
        have hq67 := Option.some.inj hq67
        have K68 := c_X12_ofVersion l D cA s0 b q60 a1 ((6 : Int32) + x2) h64 h65
        rw [hq67] at K68
        refine x_goR (fun ls h => x_runV (As := [.int a1, .int ((6 : Int32) + x2)]) [.ref ra62, .ref b] h C ml_X12_240 K68 ⟨rfl, rfl, nb rfl, nb rfl⟩ rfl (M_obj hw.2.2.2.2) rfl hw.2.2.2.2 (nb rfl) ⟨Nat.zero_le _, Nat.zero_le _⟩ dX12_writeTariff_160) ?_
        refine x_i2l C dX12_writeTariff_163 ?_
        obtain ⟨q69, hq70, hF⟩ := bnd_e hF
        refine x_goM (fun ls h => x_runV (As := [.ref ra62, .long q66.toInt64]) [] h C ml_X12_478 (k_X12_writeTold l D cA s0 z b q60 _ hG ra62 598685564992338882592 q66.toInt64 q69 hq70) ⟨rfl, rfl, nb rfl, nb rfl⟩ rfl (M_obj hw.2.2.2.2) rfl ⟨rfl, hw, hst63⟩ (nb rfl) ⟨Nat.zero_le _, Nat.zero_le _⟩ dX12_writeTariff_164) hS (xA_le hS) (fun H locs hw hz hk hS => ?_)
        have hw : RX D cA s0 z b q69 H := hw
        refine x_aload_n C dX12_writeTariff_167 rfl ?_
        refine x_iload_n C dX12_writeTariff_168 rfl ?_
        refine x_bipush (6 : Int32) C dX12_writeTariff_169 rfl ?_
        refine x_iload_n C dX12_writeTariff_171 rfl ?_
        refine x_iadd C dX12_writeTariff_172 ?_
        refine x_bipush (6 : Int32) C dX12_writeTariff_173 rfl ?_
        refine x_iload_n C dX12_writeTariff_175 rfl ?_
        refine x_iadd C dX12_writeTariff_176 ?_
        obtain ⟨q71, hq72, hF⟩ := bnd_e hF
        refine x_goM (fun ls h => x_runV (As := [.int a1, .int ((6 : Int32) + x2), .int ((6 : Int32) + x2)]) [] h C ml_X12_521 (k_X12_writeEnd l D cA s0 z b q69 _ hG a1 ((6 : Int32) + x2) ((6 : Int32) + x2) q71 hq72) ⟨rfl, rfl, nb rfl, nb rfl⟩ rfl (M_obj hw.2.2.2.2) rfl ⟨rfl, hw⟩ (nb rfl) ⟨Nat.zero_le _, Nat.zero_le _⟩ dX12_writeTariff_177) hS (xA_le hS) (fun H locs hw hz hk hS => ?_)
        have hw : RX D cA s0 z b q71 H := hw
        refine x_iinc (x2 + (1 : Int32)) [(2, .int (x2 + (1 : Int32))), (0, .ref b), (1, .int a1)] C dX12_writeTariff_180 rfl rfl (by decide) rfl ?_
        refine x_goto 122 C dX12_writeTariff_183 (by decide) ?_
        refine x_sub [(0, .ref b), (1, .int a1), (2, .int (x2 + (1 : Int32)))] [1, 2, 0] rfl ?_
        exact ih122 q71 (x2 + (1 : Int32)) _ _ hw hS hF
  have h_L59 : ∀ (n : Nat) (μ0 : Mm) (x2 : Int32) (H : Heap) (locs : List Loc) (hw : RX D cA s0 z b μ0 H) (hS : va_S (xA b 8 s.heap.size) s.heap H locs), g_X12_writeTariff_L59 ν a1 n μ0 x2 = some r → xW p l e { frames := 6, cells := 0, slots := 0, locals := 131 } s m args below meth c 3 (MQ below (xQm (some (.int r.1)) (fun H => RX D cA s0 z b r.2 H) (xA b 8 s.heap.size)) args s 0 0 (xA b 8 s.heap.size)) H locs 0 0 59 [(0, .ref b), (1, .int a1), (2, .int x2)] [] := by
    intro n
    induction n with
    | zero =>
      intro μ0 x2 H locs hw hS hF
      exact no_some hF
    | succ n ih =>
      intro μ0 x2 H locs hw hS hF
      have ih59 := ih
      refine x_iload_n C dX12_writeTariff_59 rfl ?_
      refine x_aload_n C dX12_writeTariff_60 rfl ?_
      refine x_get (.ref (b + 1)) C fl_X12_17 (M_obj hw.2.2.2.2) rfl dX12_writeTariff_61 ?_
      refine x_bipush (6 : Int32) C dX12_writeTariff_64 rfl ?_
      refine x_ialdN C (M_a1 hw.2.2.2.2) (ixl (x := (6 : Int32)) 6 rfl) (by decide) (by decide) dX12_writeTariff_66 ?_
      refine x_icmp_ge 120 C dX12_writeTariff_67 (by decide) (fun c22 => ?_) (fun c22 => ?_)
      · have hF := ite_t hF c22
        refine x_iconst (0 : Int32) C dX12_writeTariff_120 rfl ?_
        refine x_istore_n [(2, .int (0 : Int32)), (0, .ref b), (1, .int a1)] C dX12_writeTariff_121 rfl (by decide) rfl ?_
        refine x_sub [(0, .ref b), (1, .int a1), (2, .int (0 : Int32))] [1, 2, 0] rfl ?_
        exact h_L122 10000 μ0 (0 : Int32) _ _ hw hS hF
      · have hF := ite_f hF c22
        refine x_aload_n C dX12_writeTariff_70 rfl ?_
        refine x_ldcSw (z := z) 139123908962 C hG.2.2.2 xl_X12_517 hw.2.2.2.1 dX12_writeTariff_71 (fun ra73 hst74 => ?_)
        refine x_aload_n C dX12_writeTariff_74 rfl ?_
        refine x_get (.ref (b + 1)) C fl_X12_17 (M_obj hw.2.2.2.2) rfl dX12_writeTariff_75 ?_
        refine x_bipush (12 : Int32) C dX12_writeTariff_78 rfl ?_
        refine x_iload_n C dX12_writeTariff_80 rfl ?_
        refine x_iadd C dX12_writeTariff_81 ?_
        obtain ⟨h75, hF⟩ := asr_e hF
        obtain ⟨hn76, hl77⟩ := vpn h75 (by decide)
        refine x_ialdN C (M_a1 hw.2.2.2.2) hn76 hl77 (by decide) dX12_writeTariff_82 ?_
        refine x_i2l C dX12_writeTariff_83 ?_
        obtain ⟨q78, hq79, hF⟩ := bnd_e hF
        refine x_goM (fun ls h => x_runV (As := [.ref ra73, .long ((μ0.1 1 (cl ((12 : Int32) + x2))).toInt64)]) [] h C ml_X12_478 (k_X12_writeTold l D cA s0 z b μ0 _ hG ra73 139123908962 ((μ0.1 1 (cl ((12 : Int32) + x2))).toInt64) q78 hq79) ⟨rfl, rfl, nb rfl, nb rfl⟩ rfl (M_obj hw.2.2.2.2) rfl ⟨rfl, hw, hst74⟩ (nb rfl) ⟨Nat.zero_le _, Nat.zero_le _⟩ dX12_writeTariff_84) hS (xA_le hS) (fun H locs hw hz hk hS => ?_)
        have hw : RX D cA s0 z b q78 H := hw
        refine x_aload_n C dX12_writeTariff_87 rfl ?_
        refine x_ldcSw (z := z) 35620116328992 C hG.2.2.2 xl_X12_519 hw.2.2.2.1 dX12_writeTariff_88 (fun ra80 hst81 => ?_)
        refine x_aload_n C dX12_writeTariff_91 rfl ?_
        refine x_iload_n C dX12_writeTariff_92 rfl ?_
        refine x_iconst (0 : Int32) C dX12_writeTariff_93 rfl ?_
        refine x_iload_n C dX12_writeTariff_94 rfl ?_
        refine x_iadd C dX12_writeTariff_95 ?_
        obtain ⟨h82, hF⟩ := asr_e hF
        obtain ⟨h83, hF⟩ := asr_e hF
        obtain ⟨q84, hq85, hF⟩ := bnd_e hF
        have hq85 := Option.some.inj hq85
        have K86 := c_X12_ofVersion l D cA s0 b q78 a1 ((0 : Int32) + x2) h82 h83
        rw [hq85] at K86
        refine x_goR (fun ls h => x_runV (As := [.int a1, .int ((0 : Int32) + x2)]) [.ref ra80, .ref b] h C ml_X12_240 K86 ⟨rfl, rfl, nb rfl, nb rfl⟩ rfl (M_obj hw.2.2.2.2) rfl hw.2.2.2.2 (nb rfl) ⟨Nat.zero_le _, Nat.zero_le _⟩ dX12_writeTariff_96) ?_
        refine x_i2l C dX12_writeTariff_99 ?_
        obtain ⟨q87, hq88, hF⟩ := bnd_e hF
        refine x_goM (fun ls h => x_runV (As := [.ref ra80, .long q84.toInt64]) [] h C ml_X12_478 (k_X12_writeTold l D cA s0 z b q78 _ hG ra80 35620116328992 q84.toInt64 q87 hq88) ⟨rfl, rfl, nb rfl, nb rfl⟩ rfl (M_obj hw.2.2.2.2) rfl ⟨rfl, hw, hst81⟩ (nb rfl) ⟨Nat.zero_le _, Nat.zero_le _⟩ dX12_writeTariff_100) hS (xA_le hS) (fun H locs hw hz hk hS => ?_)
        have hw : RX D cA s0 z b q87 H := hw
        refine x_aload_n C dX12_writeTariff_103 rfl ?_
        refine x_iload_n C dX12_writeTariff_104 rfl ?_
        refine x_iconst (0 : Int32) C dX12_writeTariff_105 rfl ?_
        refine x_iload_n C dX12_writeTariff_106 rfl ?_
        refine x_iadd C dX12_writeTariff_107 ?_
        refine x_iconst (0 : Int32) C dX12_writeTariff_108 rfl ?_
        refine x_iload_n C dX12_writeTariff_109 rfl ?_
        refine x_iadd C dX12_writeTariff_110 ?_
        obtain ⟨q89, hq90, hF⟩ := bnd_e hF
        refine x_goM (fun ls h => x_runV (As := [.int a1, .int ((0 : Int32) + x2), .int ((0 : Int32) + x2)]) [] h C ml_X12_521 (k_X12_writeEnd l D cA s0 z b q87 _ hG a1 ((0 : Int32) + x2) ((0 : Int32) + x2) q89 hq90) ⟨rfl, rfl, nb rfl, nb rfl⟩ rfl (M_obj hw.2.2.2.2) rfl ⟨rfl, hw⟩ (nb rfl) ⟨Nat.zero_le _, Nat.zero_le _⟩ dX12_writeTariff_111) hS (xA_le hS) (fun H locs hw hz hk hS => ?_)
        have hw : RX D cA s0 z b q89 H := hw
        refine x_iinc (x2 + (1 : Int32)) [(2, .int (x2 + (1 : Int32))), (0, .ref b), (1, .int a1)] C dX12_writeTariff_114 rfl rfl (by decide) rfl ?_
        refine x_goto 59 C dX12_writeTariff_117 (by decide) ?_
        refine x_sub [(0, .ref b), (1, .int a1), (2, .int (x2 + (1 : Int32)))] [1, 2, 0] rfl ?_
        exact ih59 q89 (x2 + (1 : Int32)) _ _ hw hS hF
  refine x_aload_n C dX12_writeTariff_0 rfl ?_
  refine x_iload_n C dX12_writeTariff_1 rfl ?_
  refine x_i2l C dX12_writeTariff_2 ?_
  refine x_lconst (0 : Int64) C dX12_writeTariff_3 rfl ?_
  refine x_aload_n C dX12_writeTariff_4 rfl ?_
  obtain ⟨q1, hq2, hF⟩ := bnd_e hF
  have hq2 := Option.some.inj hq2
  have K3 := c_X12_version l D cA s0 b ν 
  rw [hq2] at K3
  refine x_goR (fun ls h => x_runV (As := []) [.long (0 : Int64), .long a1.toInt64, .ref b] h C ml_X12_256 K3 ⟨rfl, rfl, nb rfl, nb rfl⟩ rfl (M_obj hw.2.2.2.2) rfl hw.2.2.2.2 (nb rfl) ⟨Nat.zero_le _, Nat.zero_le _⟩ dX12_writeTariff_5) ?_
  refine x_i2l C dX12_writeTariff_8 ?_
  obtain ⟨q4, hq5, hF⟩ := bnd_e hF
  have hq5 := Option.some.inj hq5
  have K6 := c_X12_in l D cA s0 a1.toInt64 (0 : Int64) q1.toInt64 
  rw [hq5] at K6
  refine x_goR (fun ls h => x_runS (As := [.long a1.toInt64, .long (0 : Int64), .long q1.toInt64]) [.ref b] h C ml_X12_47 K6 ⟨rfl, rfl, nb rfl, nb rfl⟩ rfl trivial (nb rfl) ⟨Nat.zero_le _, Nat.zero_le _⟩ dX12_writeTariff_9) ?_
  obtain ⟨q7, hq8, hF⟩ := bnd_e hF
  have hq8 := Option.some.inj hq8
  have K9 := c_X12_passes l D cA s0 b ν s.heap.size q4 
  rw [hq8] at K9
  have hwo := hw
  refine x_goM (fun ls h => x_runV (As := [.int (bI q4)]) [] h C ml_X12_62 K9 ⟨rfl, rfl, nb rfl, nb rfl⟩ rfl (M_obj hw.2.2.2.2) rfl ⟨rfl, hw.2.2.2.2⟩ (nb rfl) ⟨Nat.zero_le _, Nat.zero_le _⟩ dX12_writeTariff_12) hS (xA_le hS) (fun H locs hw hz hk hS => ?_)
  have hw : RX D cA s0 z b q7.2 H := RX.of hwo hw hz hk
  refine x_ifB_ne 20 C dX12_writeTariff_15 (by decide) (fun c10 => ?_) (fun c10 => ?_)
  · have hF := ite_t hF c10
    refine x_aload_n C dX12_writeTariff_20 rfl ?_
    refine x_iconst (0 : Int32) C dX12_writeTariff_21 rfl ?_
    refine m_putI (kk0 := 21) C fl_X12_445 hw rfl rfl rfl rfl (nb rfl) dX12_writeTariff_22 hS (fun H locs hw hS => ?_)
    obtain ⟨μ11, hm12, hF⟩ := bnd_e hF
    have hw : RX D cA s0 z b μ11 H := rv_m (W := fun m => RX D cA s0 z b m _) hm12 hw
    refine x_aload_n C dX12_writeTariff_25 rfl ?_
    refine x_ldcSw (z := z) 2336927755350992246 C hG.2.2.2 xl_X12_511 hw.2.2.2.1 dX12_writeTariff_26 (fun ra13 hst14 => ?_)
    refine x_iload_n C dX12_writeTariff_29 rfl ?_
    refine x_i2l C dX12_writeTariff_30 ?_
    obtain ⟨q15, hq16, hF⟩ := bnd_e hF
    refine x_goM (fun ls h => x_runV (As := [.ref ra13, .long a1.toInt64]) [] h C ml_X12_478 (k_X12_writeTold l D cA s0 z b μ11 _ hG ra13 2336927755350992246 a1.toInt64 q15 hq16) ⟨rfl, rfl, nb rfl, nb rfl⟩ rfl (M_obj hw.2.2.2.2) rfl ⟨rfl, hw, hst14⟩ (nb rfl) ⟨Nat.zero_le _, Nat.zero_le _⟩ dX12_writeTariff_31) hS (xA_le hS) (fun H locs hw hz hk hS => ?_)
    have hw : RX D cA s0 z b q15 H := hw
    refine x_aload_n C dX12_writeTariff_34 rfl ?_
    refine x_aload_n C dX12_writeTariff_35 rfl ?_
    refine x_get (.ref (b + 1)) C fl_X12_17 (M_obj hw.2.2.2.2) rfl dX12_writeTariff_36 ?_
    refine x_bipush (8 : Int32) C dX12_writeTariff_39 rfl ?_
    refine x_ialdN C (M_a1 hw.2.2.2.2) (ixl (x := (8 : Int32)) 8 rfl) (by decide) (by decide) dX12_writeTariff_41 ?_
    refine x_if_ne 51 C dX12_writeTariff_42 (by decide) (fun c17 => ?_) (fun c17 => ?_)
    · have hF := ite_f hF c17
      refine x_ldcSw (z := z) 11417657570058 C hG.2.2.2 xl_X12_515 hw.2.2.2.1 dX12_writeTariff_51 (fun ra18 hst19 => ?_)
      obtain ⟨q20, hq21, hF⟩ := bnd_e hF
      refine x_goM (fun ls h => x_runV (As := [.ref ra18]) [] h C ml_X12_463 (k_X12_writeText l D cA s0 z b q15 _ hG ra18 11417657570058 q20 hq21) ⟨rfl, rfl, nb rfl, nb rfl⟩ rfl (M_obj hw.2.2.2.2) rfl ⟨rfl, hw, hst19⟩ (nb rfl) ⟨Nat.zero_le _, Nat.zero_le _⟩ dX12_writeTariff_54) hS (xA_le hS) (fun H locs hw hz hk hS => ?_)
      have hw : RX D cA s0 z b q20 H := hw
      refine x_iconst (0 : Int32) C dX12_writeTariff_57 rfl ?_
      refine x_istore_n [(2, .int (0 : Int32)), (0, .ref b), (1, .int a1)] C dX12_writeTariff_58 rfl (by decide) rfl ?_
      refine x_sub [(0, .ref b), (1, .int a1), (2, .int (0 : Int32))] [1, 2, 0] rfl ?_
      exact h_L59 10000 q20 (0 : Int32) _ _ hw hS hF
    · have hF := ite_t hF c17
      refine x_ldcSw (z := z) 753057040345887498 C hG.2.2.2 xl_X12_513 hw.2.2.2.1 dX12_writeTariff_45 (fun ra91 hst92 => ?_)
      refine x_goto 54 C dX12_writeTariff_48 (by decide) ?_
      obtain ⟨q93, hq94, hF⟩ := bnd_e hF
      refine x_goM (fun ls h => x_runV (As := [.ref ra91]) [] h C ml_X12_463 (k_X12_writeText l D cA s0 z b q15 _ hG ra91 753057040345887498 q93 hq94) ⟨rfl, rfl, nb rfl, nb rfl⟩ rfl (M_obj hw.2.2.2.2) rfl ⟨rfl, hw, hst92⟩ (nb rfl) ⟨Nat.zero_le _, Nat.zero_le _⟩ dX12_writeTariff_54) hS (xA_le hS) (fun H locs hw hz hk hS => ?_)
      have hw : RX D cA s0 z b q93 H := hw
      refine x_iconst (0 : Int32) C dX12_writeTariff_57 rfl ?_
      refine x_istore_n [(2, .int (0 : Int32)), (0, .ref b), (1, .int a1)] C dX12_writeTariff_58 rfl (by decide) rfl ?_
      refine x_sub [(0, .ref b), (1, .int a1), (2, .int (0 : Int32))] [1, 2, 0] rfl ?_
      exact h_L59 10000 q93 (0 : Int32) _ _ hw hS hF
  · have hF := ite_f hF (nbt c10)
    refine x_iconst (0 : Int32) C dX12_writeTariff_18 rfl ?_
    exact x_iretM2 C rfl dX12_writeTariff_19  (rm_i hF) (rm_m (W := fun m => RX D cA s0 z b m _) hF hw) hS (nb rfl) (nb rfl)
noncomputable def g_X12_outputByte (ν : Mm) (a1 : Int32) : Option (Int32 × Mm) := bnd (some (f_X12_in a1.toInt64 (0 : Int64) (((ν.1 0 21) - (1 : Int32)).toInt64))) (fun q1 => bnd (some (f_X12_passes ν q1)) (fun q4 => (if q4.1 = true then asr (vp_in a1 3000) (some (q4.2.1 7 (cl a1), q4.2)) else some ((0 : Int32), q4.2))))
set_option maxRecDepth 20000 in
set_option maxHeartbeats 4000000 in
theorem k_X12_outputByte (l : Launch) (D : va_G) (cA : Nat → ClassId) (s0 : State) (z : Nat) (b : Nat) (ν : Mm) (sz : Nat) (hG : xG l D cA s0) (a1 : Int32) (r : Int32 × Mm) (hF : g_X12_outputByte ν a1 = some r) : Met l yX12_outputByte (wsG yX12_outputByte cX12_outputByte 2 (some (FieldType.int))) { frames := 2, cells := 0, slots := 0, locals := 44 } (xP D cA s0 [.ref b, .int a1] (fun H => H.size = sz ∧ RX D cA s0 z b ν H)) (xQm (some (.int r.1)) (fun H => RX D cA s0 z b r.2 H) (xA b 8 sz)) 0 0 (xA b 8 sz) := by
  refine x_start (own := RX12) [(0, .ref b), (1, .int a1)] rfl rfl (by decide) (nb rfl) ?_
  intro p e s m args below meth c C hw
  obtain ⟨hsz, hw⟩ := hw
  subst hsz
  have hS : va_S (xA b 8 s.heap.size) s.heap s.heap [] := va_S.rf
  refine x_aload_n C dX12_outputByte_0 rfl ?_
  refine x_iload_n C dX12_outputByte_1 rfl ?_
  refine x_i2l C dX12_outputByte_2 ?_
  refine x_lconst (0 : Int64) C dX12_outputByte_3 rfl ?_
  refine x_aload_n C dX12_outputByte_4 rfl ?_
  refine x_get (.int (ν.1 0 21)) C fl_X12_445 (M_obj hw.2.2.2.2) rfl dX12_outputByte_5 ?_
  refine x_iconst (1 : Int32) C dX12_outputByte_8 rfl ?_
  refine x_isub C dX12_outputByte_9 ?_
  refine x_i2l C dX12_outputByte_10 ?_
  obtain ⟨q1, hq2, hF⟩ := bnd_e hF
  have hq2 := Option.some.inj hq2
  have K3 := c_X12_in l D cA s0 a1.toInt64 (0 : Int64) (((ν.1 0 21) - (1 : Int32)).toInt64) 
  rw [hq2] at K3
  refine x_goR (fun ls h => x_runS (As := [.long a1.toInt64, .long (0 : Int64), .long (((ν.1 0 21) - (1 : Int32)).toInt64)]) [.ref b] h C ml_X12_47 K3 ⟨rfl, rfl, nb rfl, nb rfl⟩ rfl trivial (nb rfl) ⟨Nat.zero_le _, Nat.zero_le _⟩ dX12_outputByte_11) ?_
  obtain ⟨q4, hq5, hF⟩ := bnd_e hF
  have hq5 := Option.some.inj hq5
  have K6 := c_X12_passes l D cA s0 b ν s.heap.size q1 
  rw [hq5] at K6
  have hwo := hw
  refine x_goM (fun ls h => x_runV (As := [.int (bI q1)]) [] h C ml_X12_62 K6 ⟨rfl, rfl, nb rfl, nb rfl⟩ rfl (M_obj hw.2.2.2.2) rfl ⟨rfl, hw.2.2.2.2⟩ (nb rfl) ⟨Nat.zero_le _, Nat.zero_le _⟩ dX12_outputByte_14) hS (xA_le hS) (fun H locs hw hz hk hS => ?_)
  have hw : RX D cA s0 z b q4.2 H := RX.of hwo hw hz hk
  refine x_ifB_eq 29 C dX12_outputByte_17 (by decide) (fun c7 => ?_) (fun c7 => ?_)
  · have hF := ite_f hF (nbt c7)
    refine x_iconst (0 : Int32) C dX12_outputByte_29 rfl ?_
    exact x_iretM2 C rfl dX12_outputByte_30  (rm_i hF) (rm_m (W := fun m => RX D cA s0 z b m _) hF hw) hS (nb rfl) (nb rfl)
  · have hF := ite_t hF c7
    refine x_aload_n C dX12_outputByte_20 rfl ?_
    refine x_get (.ref (b + 7)) C fl_X12_44 (M_obj hw.2.2.2.2) rfl dX12_outputByte_21 ?_
    refine x_iload_n C dX12_outputByte_24 rfl ?_
    obtain ⟨h8, hF⟩ := asr_e hF
    obtain ⟨hn9, hl10⟩ := vpn h8 (by decide)
    refine x_baldN C (M_a7 hw.2.2.2.2) hn9 hl10 (by decide) dX12_outputByte_25 ?_
    refine x_goto 30 C dX12_outputByte_26 (by decide) ?_
    exact x_iretM2 C rfl dX12_outputByte_30  (rm_i hF) (rm_m (W := fun m => RX D cA s0 z b m _) hF hw) hS (nb rfl) (nb rfl)
