noncomputable def g_X12_checkName (ν : Mm) : Option (Mm) := bnd (some (f_X12_good ν)) (fun q1 => (if q1 = true then (if (ν.1 0 10) = (1 : Int32) then (if (6 : Int32) < ((ν.1 0 8) - (ν.1 0 9)) then bnd (g_X12_errs ν (1 : Int32)) (fun q9 => some q9) else bnd (g_X12_isKeyword ν) (fun q11 => (if q11 = true then bnd (g_X12_errs ν (1 : Int32)) (fun q14 => some q14) else some ν))) else bnd (g_X12_errs ν (1 : Int32)) (fun q6 => some q6)) else some ν))
set_option maxRecDepth 20000 in
set_option maxHeartbeats 4000000 in
theorem k_X12_checkName (l : Launch) (D : va_G) (cA : Nat → ClassId) (s0 : State) (z : Nat) (b : Nat) (ν : Mm) (sz : Nat) (hG : xG l D cA s0) (r : Mm) (hF : g_X12_checkName ν = some r) : Met l yX12_checkName (wsG yX12_checkName cX12_checkName 1 none) { frames := 6, cells := 0, slots := 0, locals := 129 } (xP D cA s0 [.ref b] (fun H => H.size = sz ∧ RX D cA s0 z b ν H)) (xQm none (fun H => RX D cA s0 z b r H) (xA b 8 sz)) 0 0 (xA b 8 sz) := by
  refine x_start (own := RX12) [(0, .ref b)] rfl rfl (by decide) (nb rfl) ?_
  intro p e s m args below meth c C hw
  obtain ⟨hsz, hw⟩ := hw
  subst hsz
  have hS : va_S (xA b 8 s.heap.size) s.heap s.heap [] := va_S.rf
  refine x_aload_n C dX12_checkName_0 rfl ?_
  obtain ⟨q1, hq2, hF⟩ := bnd_e hF
  have hq2 := Option.some.inj hq2
  have K3 := c_X12_good l D cA s0 b ν 
  rw [hq2] at K3
  refine x_goR (fun ls h => x_runV (As := []) [] h C ml_X12_73 K3 ⟨rfl, rfl, nb rfl, nb rfl⟩ rfl (M_obj hw.2.2.2.2) rfl hw.2.2.2.2 (nb rfl) ⟨Nat.zero_le _, Nat.zero_le _⟩ dX12_checkName_1) ?_
  refine x_ifB_eq 41 C dX12_checkName_4 (by decide) (fun c4 => ?_) (fun c4 => ?_)
  · have hF := ite_f hF (nbt c4)
    exact x_vretM2 C rfl dX12_checkName_41 rfl (rv_m (W := fun m => RX D cA s0 z b m _) hF hw) hS (nb rfl) (nb rfl)
  · have hF := ite_t hF c4
    refine x_aload_n C dX12_checkName_7 rfl ?_
    refine x_get (.int (ν.1 0 10)) C fl_X12_90 (M_obj hw.2.2.2.2) rfl dX12_checkName_8 ?_
    refine x_iconst (1 : Int32) C dX12_checkName_11 rfl ?_
    refine x_icmp_ne 36 C dX12_checkName_12 (by decide) (fun c5 => ?_) (fun c5 => ?_)
    · have hF := ite_f hF c5
      refine x_aload_n C dX12_checkName_36 rfl ?_
      refine x_iconst (1 : Int32) C dX12_checkName_37 rfl ?_
      obtain ⟨q6, hq7, hF⟩ := bnd_e hF
      refine x_goM (fun ls h => x_runV (As := [.int (1 : Int32)]) [] h C ml_X12_161 (k_X12_errs l D cA s0 z b ν _ hG (1 : Int32) q6 hq7) ⟨rfl, rfl, nb rfl, nb rfl⟩ rfl (M_obj hw.2.2.2.2) rfl ⟨rfl, hw⟩ (nb rfl) ⟨Nat.zero_le _, Nat.zero_le _⟩ dX12_checkName_38) hS (xA_le hS) (fun H locs hw hz hk hS => ?_)
      have hw : RX D cA s0 z b q6 H := hw
      exact x_vretM2 C rfl dX12_checkName_41 rfl (rv_m (W := fun m => RX D cA s0 z b m _) hF hw) hS (nb rfl) (nb rfl)
    · have hF := ite_t hF c5
      refine x_aload_n C dX12_checkName_15 rfl ?_
      refine x_get (.int (ν.1 0 8)) C fl_X12_83 (M_obj hw.2.2.2.2) rfl dX12_checkName_16 ?_
      refine x_aload_n C dX12_checkName_19 rfl ?_
      refine x_get (.int (ν.1 0 9)) C fl_X12_77 (M_obj hw.2.2.2.2) rfl dX12_checkName_20 ?_
      refine x_isub C dX12_checkName_23 ?_
      refine x_bipush (6 : Int32) C dX12_checkName_24 rfl ?_
      refine x_icmp_gt 36 C dX12_checkName_26 (by decide) (fun c8 => ?_) (fun c8 => ?_)
      · have hF := ite_t hF c8
        refine x_aload_n C dX12_checkName_36 rfl ?_
        refine x_iconst (1 : Int32) C dX12_checkName_37 rfl ?_
        obtain ⟨q9, hq10, hF⟩ := bnd_e hF
        refine x_goM (fun ls h => x_runV (As := [.int (1 : Int32)]) [] h C ml_X12_161 (k_X12_errs l D cA s0 z b ν _ hG (1 : Int32) q9 hq10) ⟨rfl, rfl, nb rfl, nb rfl⟩ rfl (M_obj hw.2.2.2.2) rfl ⟨rfl, hw⟩ (nb rfl) ⟨Nat.zero_le _, Nat.zero_le _⟩ dX12_checkName_38) hS (xA_le hS) (fun H locs hw hz hk hS => ?_)
        have hw : RX D cA s0 z b q9 H := hw
        exact x_vretM2 C rfl dX12_checkName_41 rfl (rv_m (W := fun m => RX D cA s0 z b m _) hF hw) hS (nb rfl) (nb rfl)
      · have hF := ite_f hF c8
        refine x_aload_n C dX12_checkName_29 rfl ?_
        obtain ⟨q11, hq12, hF⟩ := bnd_e hF
        refine x_goR (fun ls h => x_runV (As := []) [] h C ml_X12_177 (k_X12_isKeyword l D cA s0 z b ν hG q11 hq12) ⟨rfl, rfl, nb rfl, nb rfl⟩ rfl (M_obj hw.2.2.2.2) rfl hw (nb rfl) ⟨Nat.zero_le _, Nat.zero_le _⟩ dX12_checkName_30) ?_
        refine x_ifB_eq 41 C dX12_checkName_33 (by decide) (fun c13 => ?_) (fun c13 => ?_)
        · have hF := ite_f hF (nbt c13)
          exact x_vretM2 C rfl dX12_checkName_41 rfl (rv_m (W := fun m => RX D cA s0 z b m _) hF hw) hS (nb rfl) (nb rfl)
        · have hF := ite_t hF c13
          refine x_aload_n C dX12_checkName_36 rfl ?_
          refine x_iconst (1 : Int32) C dX12_checkName_37 rfl ?_
          obtain ⟨q14, hq15, hF⟩ := bnd_e hF
          refine x_goM (fun ls h => x_runV (As := [.int (1 : Int32)]) [] h C ml_X12_161 (k_X12_errs l D cA s0 z b ν _ hG (1 : Int32) q14 hq15) ⟨rfl, rfl, nb rfl, nb rfl⟩ rfl (M_obj hw.2.2.2.2) rfl ⟨rfl, hw⟩ (nb rfl) ⟨Nat.zero_le _, Nat.zero_le _⟩ dX12_checkName_38) hS (xA_le hS) (fun H locs hw hz hk hS => ?_)
          have hw : RX D cA s0 z b q14 H := hw
          exact x_vretM2 C rfl dX12_checkName_41 rfl (rv_m (W := fun m => RX D cA s0 z b m _) hF hw) hS (nb rfl) (nb rfl)
noncomputable def g_X12_parseMode_J12 (ν : Mm) (a1 : Int32) (μ0 : Mm) : Option (Mm) := bnd (some (uI μ0 0 14 (1 : Int32))) (fun μ2 => bnd (g_X12_goOn μ2) (fun q4 => asr (isRow (q4.2.2 0 3)) (bnd (some (uI q4 (q4.2.2 0 3) 8 a1)) (fun μ7 => some μ7))))
noncomputable def g_X12_parseMode (ν : Mm) (a1 : Int32) : Option (Mm) := (if (ν.1 0 14) = 0 then (g_X12_parseMode_J12 ν a1 ν) else bnd (g_X12_errs ν (3 : Int32)) (fun q9 => (g_X12_parseMode_J12 ν a1 q9)))
set_option maxRecDepth 20000 in
set_option maxHeartbeats 4000000 in
theorem k_X12_parseMode (l : Launch) (D : va_G) (cA : Nat → ClassId) (s0 : State) (z : Nat) (b : Nat) (ν : Mm) (sz : Nat) (hG : xG l D cA s0) (a1 : Int32) (r : Mm) (hF : g_X12_parseMode ν a1 = some r) : Met l yX12_parseMode (wsG yX12_parseMode cX12_parseMode 2 none) { frames := 3, cells := 0, slots := 0, locals := 66 } (xP D cA s0 [.ref b, .int a1] (fun H => H.size = sz ∧ RX D cA s0 z b ν H)) (xQm none (fun H => RX D cA s0 z b r H) (xA b 8 sz)) 0 0 (xA b 8 sz) := by
  refine x_start (own := RX12) [(0, .ref b), (1, .int a1)] rfl rfl (by decide) (nb rfl) ?_
  intro p e s m args below meth c C hw
  obtain ⟨hsz, hw⟩ := hw
  subst hsz
  have hS : va_S (xA b 8 s.heap.size) s.heap s.heap [] := va_S.rf
  have h_J12 : ∀ (μ0 : Mm) (H : Heap) (locs : List Loc) (hw : RX D cA s0 z b μ0 H) (hS : va_S (xA b 8 s.heap.size) s.heap H locs), g_X12_parseMode_J12 ν a1 μ0 = some r → xW p l e { frames := 3, cells := 0, slots := 0, locals := 66 } s m args below meth c 2 (MQ below (xQm none (fun H => RX D cA s0 z b r H) (xA b 8 s.heap.size)) args s 0 0 (xA b 8 s.heap.size)) H locs 0 0 12 [(0, .ref b), (1, .int a1)] [] := by
    intro μ0 H locs hw hS hF
    refine x_aload_n C dX12_parseMode_12 rfl ?_
    refine x_iconst (1 : Int32) C dX12_parseMode_13 rfl ?_
    refine m_putZ (kk0 := 14) C fl_X12_180 hw rfl rfl rfl rfl rfl (nb rfl) dX12_parseMode_14 hS (fun H locs hw hS => ?_)
    obtain ⟨μ2, hm3, hF⟩ := bnd_e hF
    have hw : RX D cA s0 z b μ2 H := rv_m (W := fun m => RX D cA s0 z b m _) hm3 hw
    refine x_aload_n C dX12_parseMode_17 rfl ?_
    obtain ⟨q4, hq5, hF⟩ := bnd_e hF
    refine x_goM (fun ls h => x_runV (As := []) [] h C ml_X12_164 (k_X12_goOn l D cA s0 z b μ2 _ hG q4 hq5) ⟨rfl, rfl, nb rfl, nb rfl⟩ rfl (M_obj hw.2.2.2.2) rfl ⟨rfl, hw⟩ (nb rfl) ⟨Nat.zero_le _, Nat.zero_le _⟩ dX12_parseMode_18) hS (xA_le hS) (fun H locs hw hz hk hS => ?_)
    have hw : RX D cA s0 z b q4 H := hw
    refine x_aload_n C dX12_parseMode_21 rfl ?_
    obtain ⟨h6, hF⟩ := asr_e hF
    refine x_get (.ref (b + q4.2.2 0 3)) C fl_X12_24 (M_obj hw.2.2.2.2) rfl dX12_parseMode_22 ?_
    refine x_bipush (8 : Int32) C dX12_parseMode_25 rfl ?_
    refine x_iload_n C dX12_parseMode_27 rfl ?_
    refine m_iastRow h6 C hw (ixl (x := (8 : Int32)) 8 rfl) (by decide) dX12_parseMode_28 hS (fun H locs hw hS => ?_)
    obtain ⟨μ7, hm8, hF⟩ := bnd_e hF
    have hw : RX D cA s0 z b μ7 H := rv_m (W := fun m => RX D cA s0 z b m _) hm8 hw
    exact x_vretM2 C rfl dX12_parseMode_29 rfl (rv_m (W := fun m => RX D cA s0 z b m _) hF hw) hS (nb rfl) (nb rfl)
  refine x_aload_n C dX12_parseMode_0 rfl ?_
  refine x_get (.int (ν.1 0 14)) C fl_X12_180 (M_obj hw.2.2.2.2) rfl dX12_parseMode_1 ?_
  refine x_if_eq 12 C dX12_parseMode_4 (by decide) (fun c1 => ?_) (fun c1 => ?_)
  · have hF := ite_t hF c1
    exact h_J12 ν _ _ hw hS hF
  · have hF := ite_f hF c1
    refine x_aload_n C dX12_parseMode_7 rfl ?_
    refine x_iconst (3 : Int32) C dX12_parseMode_8 rfl ?_
    obtain ⟨q9, hq10, hF⟩ := bnd_e hF
    refine x_goM (fun ls h => x_runV (As := [.int (3 : Int32)]) [] h C ml_X12_161 (k_X12_errs l D cA s0 z b ν _ hG (3 : Int32) q9 hq10) ⟨rfl, rfl, nb rfl, nb rfl⟩ rfl (M_obj hw.2.2.2.2) rfl ⟨rfl, hw⟩ (nb rfl) ⟨Nat.zero_le _, Nat.zero_le _⟩ dX12_parseMode_9) hS (xA_le hS) (fun H locs hw hz hk hS => ?_)
    have hw : RX D cA s0 z b q9 H := hw
    exact h_J12 q9 _ _ hw hS hF
noncomputable def g_X12_parseBand_J56 (ν : Mm) (μ0 : Mm) (x1 : Int32) (y0 : Int32) (y1 : Int32) : Option (Mm) := bnd (g_X12_number μ0 y1 y0) (fun q11 => bnd (g_X12_numberAfter q11.2 1702125938 (0 : Int32) (999 : Int32)) (fun q15 => bnd (some (f_X12_good q15.2)) (fun q17 => (if q17 = true then asr (isRow (q15.2.2.2 0 3)) (asr (vp_in ((12 : Int32) + x1) 1377) (bnd (some (uI q15.2 (q15.2.2.2 0 3) (cl ((12 : Int32) + x1)) q11.1)) (fun μ25 => asr (isRow (μ25.2.2 0 3)) (asr (vp_in ((22 : Int32) + x1) 1377) (bnd (some (uI μ25 (μ25.2.2 0 3) (cl ((22 : Int32) + x1)) q15.1)) (fun μ31 => asr (isRow (μ31.2.2 0 3)) (bnd (some (uI μ31 (μ31.2.2 0 3) 6 ((μ31.1 (μ31.2.2 0 3) 6) + (1 : Int32)))) (fun μ34 => some μ34)))))))) else some q15.2))))
noncomputable def g_X12_parseBand_J45 (ν : Mm) (μ0 : Mm) (x1 : Int32) (y0 : Int32) : Option (Mm) := (if x1 = 0 then (g_X12_parseBand_J56 ν μ0 x1 (0 : Int32) y0) else (g_X12_parseBand_J56 ν μ0 x1 (9999 : Int32) y0))
noncomputable def g_X12_parseBand_J19 (ν : Mm) (μ0 : Mm) (x1 : Int32) : Option (Mm) := bnd (g_X12_goOn μ0) (fun q3 => (if x1 = 0 then (g_X12_parseBand_J45 ν q3 x1 (0 : Int32)) else asr (isRow (q3.2.2 0 3)) (asr (vp_in (((12 : Int32) + x1) - (1 : Int32)) 1377) ((g_X12_parseBand_J45 ν q3 x1 ((q3.1 (q3.2.2 0 3) (cl (((12 : Int32) + x1) - (1 : Int32)))) + (1 : Int32)))))))
noncomputable def g_X12_parseBand (ν : Mm) : Option (Mm) := asr (isRow (ν.2.2 0 3)) ((if (ν.1 (ν.2.2 0 3) 6) = (6 : Int32) then bnd (g_X12_errs ν (4 : Int32)) (fun q36 => (g_X12_parseBand_J19 ν q36 (ν.1 (ν.2.2 0 3) 6))) else (g_X12_parseBand_J19 ν ν (ν.1 (ν.2.2 0 3) 6))))
set_option maxRecDepth 20000 in
set_option maxHeartbeats 4000000 in
theorem k_X12_parseBand (l : Launch) (D : va_G) (cA : Nat → ClassId) (s0 : State) (z : Nat) (b : Nat) (ν : Mm) (sz : Nat) (hG : xG l D cA s0) (r : Mm) (hF : g_X12_parseBand ν = some r) : Met l yX12_parseBand (wsG yX12_parseBand cX12_parseBand 4 none) { frames := 8, cells := 0, slots := 0, locals := 173 } (xP D cA s0 [.ref b] (fun H => H.size = sz ∧ RX D cA s0 z b ν H)) (xQm none (fun H => RX D cA s0 z b r H) (xA b 8 sz)) 0 0 (xA b 8 sz) := by
  refine x_start (own := RX12) [(0, .ref b)] rfl rfl (by decide) (nb rfl) ?_
  intro p e s m args below meth c C hw
  obtain ⟨hsz, hw⟩ := hw
  subst hsz
  have hS : va_S (xA b 8 s.heap.size) s.heap s.heap [] := va_S.rf
  have h_J56 : ∀ (μ0 : Mm) (x1 : Int32) (y0 : Int32) (y1 : Int32) (H : Heap) (locs : List Loc) (hw : RX D cA s0 z b μ0 H) (hS : va_S (xA b 8 s.heap.size) s.heap H locs), g_X12_parseBand_J56 ν μ0 x1 y0 y1 = some r → xW p l e { frames := 8, cells := 0, slots := 0, locals := 173 } s m args below meth c 4 (MQ below (xQm none (fun H => RX D cA s0 z b r H) (xA b 8 s.heap.size)) args s 0 0 (xA b 8 s.heap.size)) H locs 0 0 56 [(0, .ref b), (1, .int x1)] [.int y0, .int y1, .ref b] := by
    intro μ0 x1 y0 y1 H locs hw hS hF
    obtain ⟨q11, hq12, hF⟩ := bnd_e hF
    refine x_goM (fun ls h => x_runV (As := [.int y1, .int y0]) [] h C ml_X12_171 (k_X12_number l D cA s0 z b μ0 _ hG y1 y0 q11 hq12) ⟨rfl, rfl, nb rfl, nb rfl⟩ rfl (M_obj hw.2.2.2.2) rfl ⟨rfl, hw⟩ (nb rfl) ⟨Nat.zero_le _, Nat.zero_le _⟩ dX12_parseBand_56) hS (xA_le hS) (fun H locs hw hz hk hS => ?_)
    have hw : RX D cA s0 z b q11.2 H := hw
    refine x_istore_n [(2, .int q11.1), (0, .ref b), (1, .int x1)] C dX12_parseBand_59 rfl (by decide) rfl ?_
    refine x_aload_n C dX12_parseBand_60 rfl ?_
    refine x_ldcS (z := z) 1702125938 C hG.2.2.2 xl_X12_134 hw.2.2.2.1 dX12_parseBand_61 (fun ra13 hst14 => ?_)
    refine x_iconst (0 : Int32) C dX12_parseBand_63 rfl ?_
    refine x_sipush (999 : Int32) C dX12_parseBand_64 rfl ?_
    obtain ⟨q15, hq16, hF⟩ := bnd_e hF
    refine x_goM (fun ls h => x_runV (As := [.ref ra13, .int (0 : Int32), .int (999 : Int32)]) [] h C ml_X12_184 (k_X12_numberAfter l D cA s0 z b q11.2 _ hG ra13 1702125938 (0 : Int32) (999 : Int32) q15 hq16) ⟨rfl, rfl, nb rfl, nb rfl⟩ rfl (M_obj hw.2.2.2.2) rfl ⟨rfl, hw, hst14⟩ (nb rfl) ⟨Nat.zero_le _, Nat.zero_le _⟩ dX12_parseBand_67) hS (xA_le hS) (fun H locs hw hz hk hS => ?_)
    have hw : RX D cA s0 z b q15.2 H := hw
    refine x_istore_n [(3, .int q15.1), (2, .int q11.1), (0, .ref b), (1, .int x1)] C dX12_parseBand_70 rfl (by decide) rfl ?_
    refine x_aload_n C dX12_parseBand_71 rfl ?_
    obtain ⟨q17, hq18, hF⟩ := bnd_e hF
    have hq18 := Option.some.inj hq18
    have K19 := c_X12_good l D cA s0 b q15.2 
    rw [hq18] at K19
    refine x_goR (fun ls h => x_runV (As := []) [] h C ml_X12_73 K19 ⟨rfl, rfl, nb rfl, nb rfl⟩ rfl (M_obj hw.2.2.2.2) rfl hw.2.2.2.2 (nb rfl) ⟨Nat.zero_le _, Nat.zero_le _⟩ dX12_parseBand_72) ?_
    refine x_ifB_ne 79 C dX12_parseBand_75 (by decide) (fun c20 => ?_) (fun c20 => ?_)
    · have hF := ite_t hF c20
      refine x_aload_n C dX12_parseBand_79 rfl ?_
      obtain ⟨h21, hF⟩ := asr_e hF
      refine x_get (.ref (b + q15.2.2.2 0 3)) C fl_X12_24 (M_obj hw.2.2.2.2) rfl dX12_parseBand_80 ?_
      refine x_bipush (12 : Int32) C dX12_parseBand_83 rfl ?_
      refine x_iload_n C dX12_parseBand_85 rfl ?_
      refine x_iadd C dX12_parseBand_86 ?_
      refine x_iload_n C dX12_parseBand_87 rfl ?_
      obtain ⟨h22, hF⟩ := asr_e hF
      obtain ⟨hn23, hl24⟩ := vpn h22 (by decide)
      refine m_iastRow h21 C hw hn23 hl24 dX12_parseBand_88 hS (fun H locs hw hS => ?_)
      obtain ⟨μ25, hm26, hF⟩ := bnd_e hF
      have hw : RX D cA s0 z b μ25 H := rv_m (W := fun m => RX D cA s0 z b m _) hm26 hw
      refine x_aload_n C dX12_parseBand_89 rfl ?_
      obtain ⟨h27, hF⟩ := asr_e hF
      refine x_get (.ref (b + μ25.2.2 0 3)) C fl_X12_24 (M_obj hw.2.2.2.2) rfl dX12_parseBand_90 ?_
      refine x_bipush (22 : Int32) C dX12_parseBand_93 rfl ?_
      refine x_iload_n C dX12_parseBand_95 rfl ?_
      refine x_iadd C dX12_parseBand_96 ?_
      refine x_iload_n C dX12_parseBand_97 rfl ?_
      obtain ⟨h28, hF⟩ := asr_e hF
      obtain ⟨hn29, hl30⟩ := vpn h28 (by decide)
      refine m_iastRow h27 C hw hn29 hl30 dX12_parseBand_98 hS (fun H locs hw hS => ?_)
      obtain ⟨μ31, hm32, hF⟩ := bnd_e hF
      have hw : RX D cA s0 z b μ31 H := rv_m (W := fun m => RX D cA s0 z b m _) hm32 hw
      refine x_aload_n C dX12_parseBand_99 rfl ?_
      obtain ⟨h33, hF⟩ := asr_e hF
      refine x_get (.ref (b + μ31.2.2 0 3)) C fl_X12_24 (M_obj hw.2.2.2.2) rfl dX12_parseBand_100 ?_
      refine x_bipush (6 : Int32) C dX12_parseBand_103 rfl ?_
      refine x_dup2_11 C dX12_parseBand_105 rfl rfl ?_
      refine x_ialdN C (M_row h33 hw.2.2.2.2) (ixl (x := (6 : Int32)) 6 rfl) (by decide) (by decide) dX12_parseBand_106 ?_
      refine x_iconst (1 : Int32) C dX12_parseBand_107 rfl ?_
      refine x_iadd C dX12_parseBand_108 ?_
      refine m_iastRow h33 C hw (ixl (x := (6 : Int32)) 6 rfl) (by decide) dX12_parseBand_109 hS (fun H locs hw hS => ?_)
      obtain ⟨μ34, hm35, hF⟩ := bnd_e hF
      have hw : RX D cA s0 z b μ34 H := rv_m (W := fun m => RX D cA s0 z b m _) hm35 hw
      exact x_vretM2 C rfl dX12_parseBand_110 rfl (rv_m (W := fun m => RX D cA s0 z b m _) hF hw) hS (nb rfl) (nb rfl)
    · have hF := ite_f hF (nbt c20)
      exact x_vretM2 C rfl dX12_parseBand_78 rfl (rv_m (W := fun m => RX D cA s0 z b m _) hF hw) hS (nb rfl) (nb rfl)
  have h_J45 : ∀ (μ0 : Mm) (x1 : Int32) (y0 : Int32) (H : Heap) (locs : List Loc) (hw : RX D cA s0 z b μ0 H) (hS : va_S (xA b 8 s.heap.size) s.heap H locs), g_X12_parseBand_J45 ν μ0 x1 y0 = some r → xW p l e { frames := 8, cells := 0, slots := 0, locals := 173 } s m args below meth c 4 (MQ below (xQm none (fun H => RX D cA s0 z b r H) (xA b 8 s.heap.size)) args s 0 0 (xA b 8 s.heap.size)) H locs 0 0 45 [(0, .ref b), (1, .int x1)] [.int y0, .ref b] := by
    intro μ0 x1 y0 H locs hw hS hF
    refine x_iload_n C dX12_parseBand_45 rfl ?_
    refine x_if_ne 53 C dX12_parseBand_46 (by decide) (fun c10 => ?_) (fun c10 => ?_)
    · have hF := ite_f hF c10
      refine x_sipush (9999 : Int32) C dX12_parseBand_53 rfl ?_
      exact h_J56 μ0 x1 (9999 : Int32) y0 _ _ hw hS hF
    · have hF := ite_t hF c10
      refine x_iconst (0 : Int32) C dX12_parseBand_49 rfl ?_
      refine x_goto 56 C dX12_parseBand_50 (by decide) ?_
      exact h_J56 μ0 x1 (0 : Int32) y0 _ _ hw hS hF
  have h_J19 : ∀ (μ0 : Mm) (x1 : Int32) (H : Heap) (locs : List Loc) (hw : RX D cA s0 z b μ0 H) (hS : va_S (xA b 8 s.heap.size) s.heap H locs), g_X12_parseBand_J19 ν μ0 x1 = some r → xW p l e { frames := 8, cells := 0, slots := 0, locals := 173 } s m args below meth c 4 (MQ below (xQm none (fun H => RX D cA s0 z b r H) (xA b 8 s.heap.size)) args s 0 0 (xA b 8 s.heap.size)) H locs 0 0 19 [(0, .ref b), (1, .int x1)] [] := by
    intro μ0 x1 H locs hw hS hF
    refine x_aload_n C dX12_parseBand_19 rfl ?_
    obtain ⟨q3, hq4, hF⟩ := bnd_e hF
    refine x_goM (fun ls h => x_runV (As := []) [] h C ml_X12_164 (k_X12_goOn l D cA s0 z b μ0 _ hG q3 hq4) ⟨rfl, rfl, nb rfl, nb rfl⟩ rfl (M_obj hw.2.2.2.2) rfl ⟨rfl, hw⟩ (nb rfl) ⟨Nat.zero_le _, Nat.zero_le _⟩ dX12_parseBand_20) hS (xA_le hS) (fun H locs hw hz hk hS => ?_)
    have hw : RX D cA s0 z b q3 H := hw
    refine x_aload_n C dX12_parseBand_23 rfl ?_
    refine x_iload_n C dX12_parseBand_24 rfl ?_
    refine x_if_ne 32 C dX12_parseBand_25 (by decide) (fun c5 => ?_) (fun c5 => ?_)
    · have hF := ite_f hF c5
      refine x_aload_n C dX12_parseBand_32 rfl ?_
      obtain ⟨h6, hF⟩ := asr_e hF
      refine x_get (.ref (b + q3.2.2 0 3)) C fl_X12_24 (M_obj hw.2.2.2.2) rfl dX12_parseBand_33 ?_
      refine x_bipush (12 : Int32) C dX12_parseBand_36 rfl ?_
      refine x_iload_n C dX12_parseBand_38 rfl ?_
      refine x_iadd C dX12_parseBand_39 ?_
      refine x_iconst (1 : Int32) C dX12_parseBand_40 rfl ?_
      refine x_isub C dX12_parseBand_41 ?_
      obtain ⟨h7, hF⟩ := asr_e hF
      obtain ⟨hn8, hl9⟩ := vpn h7 (by decide)
      refine x_ialdN C (M_row h6 hw.2.2.2.2) hn8 hl9 (by decide) dX12_parseBand_42 ?_
      refine x_iconst (1 : Int32) C dX12_parseBand_43 rfl ?_
      refine x_iadd C dX12_parseBand_44 ?_
      exact h_J45 q3 x1 ((q3.1 (q3.2.2 0 3) (cl (((12 : Int32) + x1) - (1 : Int32)))) + (1 : Int32)) _ _ hw hS hF
    · have hF := ite_t hF c5
      refine x_iconst (0 : Int32) C dX12_parseBand_28 rfl ?_
      refine x_goto 45 C dX12_parseBand_29 (by decide) ?_
      exact h_J45 q3 x1 (0 : Int32) _ _ hw hS hF
  refine x_aload_n C dX12_parseBand_0 rfl ?_
  obtain ⟨h1, hF⟩ := asr_e hF
  refine x_get (.ref (b + ν.2.2 0 3)) C fl_X12_24 (M_obj hw.2.2.2.2) rfl dX12_parseBand_1 ?_
  refine x_bipush (6 : Int32) C dX12_parseBand_4 rfl ?_
  refine x_ialdN C (M_row h1 hw.2.2.2.2) (ixl (x := (6 : Int32)) 6 rfl) (by decide) (by decide) dX12_parseBand_6 ?_
  refine x_istore_n [(1, .int (ν.1 (ν.2.2 0 3) 6)), (0, .ref b)] C dX12_parseBand_7 rfl (by decide) rfl ?_
  refine x_iload_n C dX12_parseBand_8 rfl ?_
  refine x_bipush (6 : Int32) C dX12_parseBand_9 rfl ?_
  refine x_icmp_ne 19 C dX12_parseBand_11 (by decide) (fun c2 => ?_) (fun c2 => ?_)
  · have hF := ite_f hF c2
    refine x_sub [(0, .ref b), (1, .int (ν.1 (ν.2.2 0 3) 6))] [1, 0] rfl ?_
    exact h_J19 ν (ν.1 (ν.2.2 0 3) 6) _ _ hw hS hF
  · have hF := ite_t hF c2
    refine x_aload_n C dX12_parseBand_14 rfl ?_
    refine x_iconst (4 : Int32) C dX12_parseBand_15 rfl ?_
    obtain ⟨q36, hq37, hF⟩ := bnd_e hF
    refine x_goM (fun ls h => x_runV (As := [.int (4 : Int32)]) [] h C ml_X12_161 (k_X12_errs l D cA s0 z b ν _ hG (4 : Int32) q36 hq37) ⟨rfl, rfl, nb rfl, nb rfl⟩ rfl (M_obj hw.2.2.2.2) rfl ⟨rfl, hw⟩ (nb rfl) ⟨Nat.zero_le _, Nat.zero_le _⟩ dX12_parseBand_16) hS (xA_le hS) (fun H locs hw hz hk hS => ?_)
    have hw : RX D cA s0 z b q36 H := hw
    refine x_sub [(0, .ref b), (1, .int (ν.1 (ν.2.2 0 3) 6))] [1, 0] rfl ?_
    exact h_J19 q36 (ν.1 (ν.2.2 0 3) 6) _ _ hw hS hF
noncomputable def g_X12_parseRebate_J44 (ν : Mm) (μ0 : Mm) (x1 : Int32) (y0 : Int32) : Option (Mm) := bnd (g_X12_number μ0 y0 (99 : Int32)) (fun q10 => bnd (g_X12_numberAfter q10.2 32772479037629808 (0 : Int32) (100 : Int32)) (fun q14 => bnd (some (f_X12_good q14.2)) (fun q16 => (if q16 = true then asr (isRow (q14.2.2.2 0 3)) (asr (vp_in ((18 : Int32) + x1) 1377) (bnd (some (uI q14.2 (q14.2.2.2 0 3) (cl ((18 : Int32) + x1)) q10.1)) (fun μ24 => asr (isRow (μ24.2.2 0 3)) (asr (vp_in ((28 : Int32) + x1) 1377) (bnd (some (uI μ24 (μ24.2.2 0 3) (cl ((28 : Int32) + x1)) q14.1)) (fun μ30 => asr (isRow (μ30.2.2 0 3)) (bnd (some (uI μ30 (μ30.2.2 0 3) 7 ((μ30.1 (μ30.2.2 0 3) 7) + (1 : Int32)))) (fun μ33 => some μ33)))))))) else some q14.2))))
noncomputable def g_X12_parseRebate_J18 (ν : Mm) (μ0 : Mm) (x1 : Int32) : Option (Mm) := bnd (g_X12_goOn μ0) (fun q3 => (if x1 = 0 then (g_X12_parseRebate_J44 ν q3 x1 (2 : Int32)) else asr (isRow (q3.2.2 0 3)) (asr (vp_in (((18 : Int32) + x1) - (1 : Int32)) 1377) ((g_X12_parseRebate_J44 ν q3 x1 ((q3.1 (q3.2.2 0 3) (cl (((18 : Int32) + x1) - (1 : Int32)))) + (1 : Int32)))))))
noncomputable def g_X12_parseRebate (ν : Mm) : Option (Mm) := asr (isRow (ν.2.2 0 3)) ((if (ν.1 (ν.2.2 0 3) 7) = (4 : Int32) then bnd (g_X12_errs ν (4 : Int32)) (fun q35 => (g_X12_parseRebate_J18 ν q35 (ν.1 (ν.2.2 0 3) 7))) else (g_X12_parseRebate_J18 ν ν (ν.1 (ν.2.2 0 3) 7))))
set_option maxRecDepth 20000 in
set_option maxHeartbeats 4000000 in
theorem k_X12_parseRebate (l : Launch) (D : va_G) (cA : Nat → ClassId) (s0 : State) (z : Nat) (b : Nat) (ν : Mm) (sz : Nat) (hG : xG l D cA s0) (r : Mm) (hF : g_X12_parseRebate ν = some r) : Met l yX12_parseRebate (wsG yX12_parseRebate cX12_parseRebate 4 none) { frames := 8, cells := 0, slots := 0, locals := 173 } (xP D cA s0 [.ref b] (fun H => H.size = sz ∧ RX D cA s0 z b ν H)) (xQm none (fun H => RX D cA s0 z b r H) (xA b 8 sz)) 0 0 (xA b 8 sz) := by
  refine x_start (own := RX12) [(0, .ref b)] rfl rfl (by decide) (nb rfl) ?_
  intro p e s m args below meth c C hw
  obtain ⟨hsz, hw⟩ := hw
  subst hsz
  have hS : va_S (xA b 8 s.heap.size) s.heap s.heap [] := va_S.rf
  have h_J44 : ∀ (μ0 : Mm) (x1 : Int32) (y0 : Int32) (H : Heap) (locs : List Loc) (hw : RX D cA s0 z b μ0 H) (hS : va_S (xA b 8 s.heap.size) s.heap H locs), g_X12_parseRebate_J44 ν μ0 x1 y0 = some r → xW p l e { frames := 8, cells := 0, slots := 0, locals := 173 } s m args below meth c 4 (MQ below (xQm none (fun H => RX D cA s0 z b r H) (xA b 8 s.heap.size)) args s 0 0 (xA b 8 s.heap.size)) H locs 0 0 44 [(0, .ref b), (1, .int x1)] [.int y0, .ref b] := by
    intro μ0 x1 y0 H locs hw hS hF
    refine x_bipush (99 : Int32) C dX12_parseRebate_44 rfl ?_
    obtain ⟨q10, hq11, hF⟩ := bnd_e hF
    refine x_goM (fun ls h => x_runV (As := [.int y0, .int (99 : Int32)]) [] h C ml_X12_171 (k_X12_number l D cA s0 z b μ0 _ hG y0 (99 : Int32) q10 hq11) ⟨rfl, rfl, nb rfl, nb rfl⟩ rfl (M_obj hw.2.2.2.2) rfl ⟨rfl, hw⟩ (nb rfl) ⟨Nat.zero_le _, Nat.zero_le _⟩ dX12_parseRebate_46) hS (xA_le hS) (fun H locs hw hz hk hS => ?_)
    have hw : RX D cA s0 z b q10.2 H := hw
    refine x_istore_n [(2, .int q10.1), (0, .ref b), (1, .int x1)] C dX12_parseRebate_49 rfl (by decide) rfl ?_
    refine x_aload_n C dX12_parseRebate_50 rfl ?_
    refine x_ldcS (z := z) 32772479037629808 C hG.2.2.2 xl_X12_138 hw.2.2.2.1 dX12_parseRebate_51 (fun ra12 hst13 => ?_)
    refine x_iconst (0 : Int32) C dX12_parseRebate_53 rfl ?_
    refine x_bipush (100 : Int32) C dX12_parseRebate_54 rfl ?_
    obtain ⟨q14, hq15, hF⟩ := bnd_e hF
    refine x_goM (fun ls h => x_runV (As := [.ref ra12, .int (0 : Int32), .int (100 : Int32)]) [] h C ml_X12_184 (k_X12_numberAfter l D cA s0 z b q10.2 _ hG ra12 32772479037629808 (0 : Int32) (100 : Int32) q14 hq15) ⟨rfl, rfl, nb rfl, nb rfl⟩ rfl (M_obj hw.2.2.2.2) rfl ⟨rfl, hw, hst13⟩ (nb rfl) ⟨Nat.zero_le _, Nat.zero_le _⟩ dX12_parseRebate_56) hS (xA_le hS) (fun H locs hw hz hk hS => ?_)
    have hw : RX D cA s0 z b q14.2 H := hw
    refine x_istore_n [(3, .int q14.1), (2, .int q10.1), (0, .ref b), (1, .int x1)] C dX12_parseRebate_59 rfl (by decide) rfl ?_
    refine x_aload_n C dX12_parseRebate_60 rfl ?_
    obtain ⟨q16, hq17, hF⟩ := bnd_e hF
    have hq17 := Option.some.inj hq17
    have K18 := c_X12_good l D cA s0 b q14.2 
    rw [hq17] at K18
    refine x_goR (fun ls h => x_runV (As := []) [] h C ml_X12_73 K18 ⟨rfl, rfl, nb rfl, nb rfl⟩ rfl (M_obj hw.2.2.2.2) rfl hw.2.2.2.2 (nb rfl) ⟨Nat.zero_le _, Nat.zero_le _⟩ dX12_parseRebate_61) ?_
    refine x_ifB_ne 68 C dX12_parseRebate_64 (by decide) (fun c19 => ?_) (fun c19 => ?_)
    · have hF := ite_t hF c19
      refine x_aload_n C dX12_parseRebate_68 rfl ?_
      obtain ⟨h20, hF⟩ := asr_e hF
      refine x_get (.ref (b + q14.2.2.2 0 3)) C fl_X12_24 (M_obj hw.2.2.2.2) rfl dX12_parseRebate_69 ?_
      refine x_bipush (18 : Int32) C dX12_parseRebate_72 rfl ?_
      refine x_iload_n C dX12_parseRebate_74 rfl ?_
      refine x_iadd C dX12_parseRebate_75 ?_
      refine x_iload_n C dX12_parseRebate_76 rfl ?_
      obtain ⟨h21, hF⟩ := asr_e hF
      obtain ⟨hn22, hl23⟩ := vpn h21 (by decide)
      refine m_iastRow h20 C hw hn22 hl23 dX12_parseRebate_77 hS (fun H locs hw hS => ?_)
      obtain ⟨μ24, hm25, hF⟩ := bnd_e hF
      have hw : RX D cA s0 z b μ24 H := rv_m (W := fun m => RX D cA s0 z b m _) hm25 hw
      refine x_aload_n C dX12_parseRebate_78 rfl ?_
      obtain ⟨h26, hF⟩ := asr_e hF
      refine x_get (.ref (b + μ24.2.2 0 3)) C fl_X12_24 (M_obj hw.2.2.2.2) rfl dX12_parseRebate_79 ?_
      refine x_bipush (28 : Int32) C dX12_parseRebate_82 rfl ?_
      refine x_iload_n C dX12_parseRebate_84 rfl ?_
      refine x_iadd C dX12_parseRebate_85 ?_
      refine x_iload_n C dX12_parseRebate_86 rfl ?_
      obtain ⟨h27, hF⟩ := asr_e hF
      obtain ⟨hn28, hl29⟩ := vpn h27 (by decide)
      refine m_iastRow h26 C hw hn28 hl29 dX12_parseRebate_87 hS (fun H locs hw hS => ?_)
      obtain ⟨μ30, hm31, hF⟩ := bnd_e hF
      have hw : RX D cA s0 z b μ30 H := rv_m (W := fun m => RX D cA s0 z b m _) hm31 hw
      refine x_aload_n C dX12_parseRebate_88 rfl ?_
      obtain ⟨h32, hF⟩ := asr_e hF
      refine x_get (.ref (b + μ30.2.2 0 3)) C fl_X12_24 (M_obj hw.2.2.2.2) rfl dX12_parseRebate_89 ?_
      refine x_bipush (7 : Int32) C dX12_parseRebate_92 rfl ?_
      refine x_dup2_11 C dX12_parseRebate_94 rfl rfl ?_
      refine x_ialdN C (M_row h32 hw.2.2.2.2) (ixl (x := (7 : Int32)) 7 rfl) (by decide) (by decide) dX12_parseRebate_95 ?_
      refine x_iconst (1 : Int32) C dX12_parseRebate_96 rfl ?_
      refine x_iadd C dX12_parseRebate_97 ?_
      refine m_iastRow h32 C hw (ixl (x := (7 : Int32)) 7 rfl) (by decide) dX12_parseRebate_98 hS (fun H locs hw hS => ?_)
      obtain ⟨μ33, hm34, hF⟩ := bnd_e hF
      have hw : RX D cA s0 z b μ33 H := rv_m (W := fun m => RX D cA s0 z b m _) hm34 hw
      exact x_vretM2 C rfl dX12_parseRebate_99 rfl (rv_m (W := fun m => RX D cA s0 z b m _) hF hw) hS (nb rfl) (nb rfl)
    · have hF := ite_f hF (nbt c19)
      exact x_vretM2 C rfl dX12_parseRebate_67 rfl (rv_m (W := fun m => RX D cA s0 z b m _) hF hw) hS (nb rfl) (nb rfl)
  have h_J18 : ∀ (μ0 : Mm) (x1 : Int32) (H : Heap) (locs : List Loc) (hw : RX D cA s0 z b μ0 H) (hS : va_S (xA b 8 s.heap.size) s.heap H locs), g_X12_parseRebate_J18 ν μ0 x1 = some r → xW p l e { frames := 8, cells := 0, slots := 0, locals := 173 } s m args below meth c 4 (MQ below (xQm none (fun H => RX D cA s0 z b r H) (xA b 8 s.heap.size)) args s 0 0 (xA b 8 s.heap.size)) H locs 0 0 18 [(0, .ref b), (1, .int x1)] [] := by
    intro μ0 x1 H locs hw hS hF
    refine x_aload_n C dX12_parseRebate_18 rfl ?_
    obtain ⟨q3, hq4, hF⟩ := bnd_e hF
    refine x_goM (fun ls h => x_runV (As := []) [] h C ml_X12_164 (k_X12_goOn l D cA s0 z b μ0 _ hG q3 hq4) ⟨rfl, rfl, nb rfl, nb rfl⟩ rfl (M_obj hw.2.2.2.2) rfl ⟨rfl, hw⟩ (nb rfl) ⟨Nat.zero_le _, Nat.zero_le _⟩ dX12_parseRebate_19) hS (xA_le hS) (fun H locs hw hz hk hS => ?_)
    have hw : RX D cA s0 z b q3 H := hw
    refine x_aload_n C dX12_parseRebate_22 rfl ?_
    refine x_iload_n C dX12_parseRebate_23 rfl ?_
    refine x_if_ne 31 C dX12_parseRebate_24 (by decide) (fun c5 => ?_) (fun c5 => ?_)
    · have hF := ite_f hF c5
      refine x_aload_n C dX12_parseRebate_31 rfl ?_
      obtain ⟨h6, hF⟩ := asr_e hF
      refine x_get (.ref (b + q3.2.2 0 3)) C fl_X12_24 (M_obj hw.2.2.2.2) rfl dX12_parseRebate_32 ?_
      refine x_bipush (18 : Int32) C dX12_parseRebate_35 rfl ?_
      refine x_iload_n C dX12_parseRebate_37 rfl ?_
      refine x_iadd C dX12_parseRebate_38 ?_
      refine x_iconst (1 : Int32) C dX12_parseRebate_39 rfl ?_
      refine x_isub C dX12_parseRebate_40 ?_
      obtain ⟨h7, hF⟩ := asr_e hF
      obtain ⟨hn8, hl9⟩ := vpn h7 (by decide)
      refine x_ialdN C (M_row h6 hw.2.2.2.2) hn8 hl9 (by decide) dX12_parseRebate_41 ?_
      refine x_iconst (1 : Int32) C dX12_parseRebate_42 rfl ?_
      refine x_iadd C dX12_parseRebate_43 ?_
      exact h_J44 q3 x1 ((q3.1 (q3.2.2 0 3) (cl (((18 : Int32) + x1) - (1 : Int32)))) + (1 : Int32)) _ _ hw hS hF
    · have hF := ite_t hF c5
      refine x_iconst (2 : Int32) C dX12_parseRebate_27 rfl ?_
      refine x_goto 44 C dX12_parseRebate_28 (by decide) ?_
      exact h_J44 q3 x1 (2 : Int32) _ _ hw hS hF
  refine x_aload_n C dX12_parseRebate_0 rfl ?_
  obtain ⟨h1, hF⟩ := asr_e hF
  refine x_get (.ref (b + ν.2.2 0 3)) C fl_X12_24 (M_obj hw.2.2.2.2) rfl dX12_parseRebate_1 ?_
  refine x_bipush (7 : Int32) C dX12_parseRebate_4 rfl ?_
  refine x_ialdN C (M_row h1 hw.2.2.2.2) (ixl (x := (7 : Int32)) 7 rfl) (by decide) (by decide) dX12_parseRebate_6 ?_
  refine x_istore_n [(1, .int (ν.1 (ν.2.2 0 3) 7)), (0, .ref b)] C dX12_parseRebate_7 rfl (by decide) rfl ?_
  refine x_iload_n C dX12_parseRebate_8 rfl ?_
  refine x_iconst (4 : Int32) C dX12_parseRebate_9 rfl ?_
  refine x_icmp_ne 18 C dX12_parseRebate_10 (by decide) (fun c2 => ?_) (fun c2 => ?_)
  · have hF := ite_f hF c2
    refine x_sub [(0, .ref b), (1, .int (ν.1 (ν.2.2 0 3) 7))] [1, 0] rfl ?_
    exact h_J18 ν (ν.1 (ν.2.2 0 3) 7) _ _ hw hS hF
  · have hF := ite_t hF c2
    refine x_aload_n C dX12_parseRebate_13 rfl ?_
    refine x_iconst (4 : Int32) C dX12_parseRebate_14 rfl ?_
    obtain ⟨q35, hq36, hF⟩ := bnd_e hF
    refine x_goM (fun ls h => x_runV (As := [.int (4 : Int32)]) [] h C ml_X12_161 (k_X12_errs l D cA s0 z b ν _ hG (4 : Int32) q35 hq36) ⟨rfl, rfl, nb rfl, nb rfl⟩ rfl (M_obj hw.2.2.2.2) rfl ⟨rfl, hw⟩ (nb rfl) ⟨Nat.zero_le _, Nat.zero_le _⟩ dX12_parseRebate_15) hS (xA_le hS) (fun H locs hw hz hk hS => ?_)
    have hw : RX D cA s0 z b q35 H := hw
    refine x_sub [(0, .ref b), (1, .int (ν.1 (ν.2.2 0 3) 7))] [1, 0] rfl ?_
    exact h_J18 q35 (ν.1 (ν.2.2 0 3) 7) _ _ hw hS hF
noncomputable def g_X12_parseWaste_J12 (ν : Mm) (μ0 : Mm) : Option (Mm) := bnd (some (uI μ0 0 15 (1 : Int32))) (fun μ2 => bnd (g_X12_goOn μ2) (fun q4 => asr (isRow (q4.2.2 0 3)) (bnd (g_X12_numberAfter q4 431199119718 (0 : Int32) (9999 : Int32)) (fun q9 => bnd (some (uI q9.2 (q4.2.2 0 3) 9 q9.1)) (fun μ11 => asr (isRow (μ11.2.2 0 3)) (bnd (g_X12_numberAfter μ11 1701147238 (0 : Int32) (999 : Int32)) (fun q16 => bnd (some (uI q16.2 (μ11.2.2 0 3) 10 q16.1)) (fun μ18 => asr (isRow (μ18.2.2 0 3)) (bnd (g_X12_numberAfter μ18 435459551856 (0 : Int32) (999 : Int32)) (fun q23 => bnd (some (uI q23.2 (μ18.2.2 0 3) 11 q23.1)) (fun μ25 => some μ25)))))))))))
noncomputable def g_X12_parseWaste (ν : Mm) : Option (Mm) := (if (ν.1 0 15) = 0 then (g_X12_parseWaste_J12 ν ν) else bnd (g_X12_errs ν (3 : Int32)) (fun q27 => (g_X12_parseWaste_J12 ν q27)))
set_option maxRecDepth 20000 in
set_option maxHeartbeats 4000000 in
theorem k_X12_parseWaste (l : Launch) (D : va_G) (cA : Nat → ClassId) (s0 : State) (z : Nat) (b : Nat) (ν : Mm) (sz : Nat) (hG : xG l D cA s0) (r : Mm) (hF : g_X12_parseWaste ν = some r) : Met l yX12_parseWaste (wsG yX12_parseWaste cX12_parseWaste 1 none) { frames := 8, cells := 0, slots := 0, locals := 173 } (xP D cA s0 [.ref b] (fun H => H.size = sz ∧ RX D cA s0 z b ν H)) (xQm none (fun H => RX D cA s0 z b r H) (xA b 8 sz)) 0 0 (xA b 8 sz) := by
  refine x_start (own := RX12) [(0, .ref b)] rfl rfl (by decide) (nb rfl) ?_
  intro p e s m args below meth c C hw
  obtain ⟨hsz, hw⟩ := hw
  subst hsz
  have hS : va_S (xA b 8 s.heap.size) s.heap s.heap [] := va_S.rf
  have h_J12 : ∀ (μ0 : Mm) (H : Heap) (locs : List Loc) (hw : RX D cA s0 z b μ0 H) (hS : va_S (xA b 8 s.heap.size) s.heap H locs), g_X12_parseWaste_J12 ν μ0 = some r → xW p l e { frames := 8, cells := 0, slots := 0, locals := 173 } s m args below meth c 1 (MQ below (xQm none (fun H => RX D cA s0 z b r H) (xA b 8 s.heap.size)) args s 0 0 (xA b 8 s.heap.size)) H locs 0 0 12 [(0, .ref b)] [] := by
    intro μ0 H locs hw hS hF
    refine x_aload_n C dX12_parseWaste_12 rfl ?_
    refine x_iconst (1 : Int32) C dX12_parseWaste_13 rfl ?_
    refine m_putZ (kk0 := 15) C fl_X12_188 hw rfl rfl rfl rfl rfl (nb rfl) dX12_parseWaste_14 hS (fun H locs hw hS => ?_)
    obtain ⟨μ2, hm3, hF⟩ := bnd_e hF
    have hw : RX D cA s0 z b μ2 H := rv_m (W := fun m => RX D cA s0 z b m _) hm3 hw
    refine x_aload_n C dX12_parseWaste_17 rfl ?_
    obtain ⟨q4, hq5, hF⟩ := bnd_e hF
    refine x_goM (fun ls h => x_runV (As := []) [] h C ml_X12_164 (k_X12_goOn l D cA s0 z b μ2 _ hG q4 hq5) ⟨rfl, rfl, nb rfl, nb rfl⟩ rfl (M_obj hw.2.2.2.2) rfl ⟨rfl, hw⟩ (nb rfl) ⟨Nat.zero_le _, Nat.zero_le _⟩ dX12_parseWaste_18) hS (xA_le hS) (fun H locs hw hz hk hS => ?_)
    have hw : RX D cA s0 z b q4 H := hw
    refine x_aload_n C dX12_parseWaste_21 rfl ?_
    obtain ⟨h6, hF⟩ := asr_e hF
    refine x_get (.ref (b + q4.2.2 0 3)) C fl_X12_24 (M_obj hw.2.2.2.2) rfl dX12_parseWaste_22 ?_
    refine x_bipush (9 : Int32) C dX12_parseWaste_25 rfl ?_
    refine x_aload_n C dX12_parseWaste_27 rfl ?_
    refine x_ldcS (z := z) 431199119718 C hG.2.2.2 xl_X12_142 hw.2.2.2.1 dX12_parseWaste_28 (fun ra7 hst8 => ?_)
    refine x_iconst (0 : Int32) C dX12_parseWaste_30 rfl ?_
    refine x_sipush (9999 : Int32) C dX12_parseWaste_31 rfl ?_
    obtain ⟨q9, hq10, hF⟩ := bnd_e hF
    refine x_goM (fun ls h => x_runV (As := [.ref ra7, .int (0 : Int32), .int (9999 : Int32)]) [.int (9 : Int32), .ref (b + q4.2.2 0 3)] h C ml_X12_184 (k_X12_numberAfter l D cA s0 z b q4 _ hG ra7 431199119718 (0 : Int32) (9999 : Int32) q9 hq10) ⟨rfl, rfl, nb rfl, nb rfl⟩ rfl (M_obj hw.2.2.2.2) rfl ⟨rfl, hw, hst8⟩ (nb rfl) ⟨Nat.zero_le _, Nat.zero_le _⟩ dX12_parseWaste_34) hS (xA_le hS) (fun H locs hw hz hk hS => ?_)
    have hw : RX D cA s0 z b q9.2 H := hw
    refine m_iastRow h6 C hw (ixl (x := (9 : Int32)) 9 rfl) (by decide) dX12_parseWaste_37 hS (fun H locs hw hS => ?_)
    obtain ⟨μ11, hm12, hF⟩ := bnd_e hF
    have hw : RX D cA s0 z b μ11 H := rv_m (W := fun m => RX D cA s0 z b m _) hm12 hw
    refine x_aload_n C dX12_parseWaste_38 rfl ?_
    obtain ⟨h13, hF⟩ := asr_e hF
    refine x_get (.ref (b + μ11.2.2 0 3)) C fl_X12_24 (M_obj hw.2.2.2.2) rfl dX12_parseWaste_39 ?_
    refine x_bipush (10 : Int32) C dX12_parseWaste_42 rfl ?_
    refine x_aload_n C dX12_parseWaste_44 rfl ?_
    refine x_ldcS (z := z) 1701147238 C hG.2.2.2 xl_X12_144 hw.2.2.2.1 dX12_parseWaste_45 (fun ra14 hst15 => ?_)
    refine x_iconst (0 : Int32) C dX12_parseWaste_47 rfl ?_
    refine x_sipush (999 : Int32) C dX12_parseWaste_48 rfl ?_
    obtain ⟨q16, hq17, hF⟩ := bnd_e hF
    refine x_goM (fun ls h => x_runV (As := [.ref ra14, .int (0 : Int32), .int (999 : Int32)]) [.int (10 : Int32), .ref (b + μ11.2.2 0 3)] h C ml_X12_184 (k_X12_numberAfter l D cA s0 z b μ11 _ hG ra14 1701147238 (0 : Int32) (999 : Int32) q16 hq17) ⟨rfl, rfl, nb rfl, nb rfl⟩ rfl (M_obj hw.2.2.2.2) rfl ⟨rfl, hw, hst15⟩ (nb rfl) ⟨Nat.zero_le _, Nat.zero_le _⟩ dX12_parseWaste_51) hS (xA_le hS) (fun H locs hw hz hk hS => ?_)
    have hw : RX D cA s0 z b q16.2 H := hw
    refine m_iastRow h13 C hw (ixl (x := (10 : Int32)) 10 rfl) (by decide) dX12_parseWaste_54 hS (fun H locs hw hS => ?_)
    obtain ⟨μ18, hm19, hF⟩ := bnd_e hF
    have hw : RX D cA s0 z b μ18 H := rv_m (W := fun m => RX D cA s0 z b m _) hm19 hw
    refine x_aload_n C dX12_parseWaste_55 rfl ?_
    obtain ⟨h20, hF⟩ := asr_e hF
    refine x_get (.ref (b + μ18.2.2 0 3)) C fl_X12_24 (M_obj hw.2.2.2.2) rfl dX12_parseWaste_56 ?_
    refine x_bipush (11 : Int32) C dX12_parseWaste_59 rfl ?_
    refine x_aload_n C dX12_parseWaste_61 rfl ?_
    refine x_ldcS (z := z) 435459551856 C hG.2.2.2 xl_X12_146 hw.2.2.2.1 dX12_parseWaste_62 (fun ra21 hst22 => ?_)
    refine x_iconst (0 : Int32) C dX12_parseWaste_64 rfl ?_
    refine x_sipush (999 : Int32) C dX12_parseWaste_65 rfl ?_
    obtain ⟨q23, hq24, hF⟩ := bnd_e hF
    refine x_goM (fun ls h => x_runV (As := [.ref ra21, .int (0 : Int32), .int (999 : Int32)]) [.int (11 : Int32), .ref (b + μ18.2.2 0 3)] h C ml_X12_184 (k_X12_numberAfter l D cA s0 z b μ18 _ hG ra21 435459551856 (0 : Int32) (999 : Int32) q23 hq24) ⟨rfl, rfl, nb rfl, nb rfl⟩ rfl (M_obj hw.2.2.2.2) rfl ⟨rfl, hw, hst22⟩ (nb rfl) ⟨Nat.zero_le _, Nat.zero_le _⟩ dX12_parseWaste_68) hS (xA_le hS) (fun H locs hw hz hk hS => ?_)
    have hw : RX D cA s0 z b q23.2 H := hw
    refine m_iastRow h20 C hw (ixl (x := (11 : Int32)) 11 rfl) (by decide) dX12_parseWaste_71 hS (fun H locs hw hS => ?_)
    obtain ⟨μ25, hm26, hF⟩ := bnd_e hF
    have hw : RX D cA s0 z b μ25 H := rv_m (W := fun m => RX D cA s0 z b m _) hm26 hw
    exact x_vretM2 C rfl dX12_parseWaste_72 rfl (rv_m (W := fun m => RX D cA s0 z b m _) hF hw) hS (nb rfl) (nb rfl)
  refine x_aload_n C dX12_parseWaste_0 rfl ?_
  refine x_get (.int (ν.1 0 15)) C fl_X12_188 (M_obj hw.2.2.2.2) rfl dX12_parseWaste_1 ?_
  refine x_if_eq 12 C dX12_parseWaste_4 (by decide) (fun c1 => ?_) (fun c1 => ?_)
  · have hF := ite_t hF c1
    exact h_J12 ν _ _ hw hS hF
  · have hF := ite_f hF c1
    refine x_aload_n C dX12_parseWaste_7 rfl ?_
    refine x_iconst (3 : Int32) C dX12_parseWaste_8 rfl ?_
    obtain ⟨q27, hq28, hF⟩ := bnd_e hF
    refine x_goM (fun ls h => x_runV (As := [.int (3 : Int32)]) [] h C ml_X12_161 (k_X12_errs l D cA s0 z b ν _ hG (3 : Int32) q27 hq28) ⟨rfl, rfl, nb rfl, nb rfl⟩ rfl (M_obj hw.2.2.2.2) rfl ⟨rfl, hw⟩ (nb rfl) ⟨Nat.zero_le _, Nat.zero_le _⟩ dX12_parseWaste_9) hS (xA_le hS) (fun H locs hw hz hk hS => ?_)
    have hw : RX D cA s0 z b q27 H := hw
    exact h_J12 q27 _ _ hw hS hF
noncomputable def g_X12_parseLay_J12 (ν : Mm) (μ0 : Mm) : Option (Mm) := bnd (some (uI μ0 0 16 (1 : Int32))) (fun μ2 => bnd (g_X12_goOn μ2) (fun q4 => asr (isRow (q4.2.2 0 3)) (bnd (g_X12_numberAfter q4 1701147238 (0 : Int32) (30 : Int32)) (fun q9 => bnd (some (uI q9.2 (q4.2.2 0 3) 32 q9.1)) (fun μ11 => asr (isRow (μ11.2.2 0 3)) (bnd (g_X12_numberAfter μ11 1702125938 (0 : Int32) (9999 : Int32)) (fun q16 => bnd (some (uI q16.2 (μ11.2.2 0 3) 33 q16.1)) (fun μ18 => some μ18))))))))
noncomputable def g_X12_parseLay (ν : Mm) : Option (Mm) := (if (ν.1 0 16) = 0 then (g_X12_parseLay_J12 ν ν) else bnd (g_X12_errs ν (3 : Int32)) (fun q20 => (g_X12_parseLay_J12 ν q20)))
set_option maxRecDepth 20000 in
set_option maxHeartbeats 4000000 in
theorem k_X12_parseLay (l : Launch) (D : va_G) (cA : Nat → ClassId) (s0 : State) (z : Nat) (b : Nat) (ν : Mm) (sz : Nat) (hG : xG l D cA s0) (r : Mm) (hF : g_X12_parseLay ν = some r) : Met l yX12_parseLay (wsG yX12_parseLay cX12_parseLay 1 none) { frames := 8, cells := 0, slots := 0, locals := 173 } (xP D cA s0 [.ref b] (fun H => H.size = sz ∧ RX D cA s0 z b ν H)) (xQm none (fun H => RX D cA s0 z b r H) (xA b 8 sz)) 0 0 (xA b 8 sz) := by
  refine x_start (own := RX12) [(0, .ref b)] rfl rfl (by decide) (nb rfl) ?_
  intro p e s m args below meth c C hw
  obtain ⟨hsz, hw⟩ := hw
  subst hsz
  have hS : va_S (xA b 8 s.heap.size) s.heap s.heap [] := va_S.rf
  have h_J12 : ∀ (μ0 : Mm) (H : Heap) (locs : List Loc) (hw : RX D cA s0 z b μ0 H) (hS : va_S (xA b 8 s.heap.size) s.heap H locs), g_X12_parseLay_J12 ν μ0 = some r → xW p l e { frames := 8, cells := 0, slots := 0, locals := 173 } s m args below meth c 1 (MQ below (xQm none (fun H => RX D cA s0 z b r H) (xA b 8 s.heap.size)) args s 0 0 (xA b 8 s.heap.size)) H locs 0 0 12 [(0, .ref b)] [] := by
    intro μ0 H locs hw hS hF
    refine x_aload_n C dX12_parseLay_12 rfl ?_
    refine x_iconst (1 : Int32) C dX12_parseLay_13 rfl ?_
    refine m_putZ (kk0 := 16) C fl_X12_191 hw rfl rfl rfl rfl rfl (nb rfl) dX12_parseLay_14 hS (fun H locs hw hS => ?_)
    obtain ⟨μ2, hm3, hF⟩ := bnd_e hF
    have hw : RX D cA s0 z b μ2 H := rv_m (W := fun m => RX D cA s0 z b m _) hm3 hw
    refine x_aload_n C dX12_parseLay_17 rfl ?_
    obtain ⟨q4, hq5, hF⟩ := bnd_e hF
    refine x_goM (fun ls h => x_runV (As := []) [] h C ml_X12_164 (k_X12_goOn l D cA s0 z b μ2 _ hG q4 hq5) ⟨rfl, rfl, nb rfl, nb rfl⟩ rfl (M_obj hw.2.2.2.2) rfl ⟨rfl, hw⟩ (nb rfl) ⟨Nat.zero_le _, Nat.zero_le _⟩ dX12_parseLay_18) hS (xA_le hS) (fun H locs hw hz hk hS => ?_)
    have hw : RX D cA s0 z b q4 H := hw
    refine x_aload_n C dX12_parseLay_21 rfl ?_
    obtain ⟨h6, hF⟩ := asr_e hF
    refine x_get (.ref (b + q4.2.2 0 3)) C fl_X12_24 (M_obj hw.2.2.2.2) rfl dX12_parseLay_22 ?_
    refine x_bipush (32 : Int32) C dX12_parseLay_25 rfl ?_
    refine x_aload_n C dX12_parseLay_27 rfl ?_
    refine x_ldcS (z := z) 1701147238 C hG.2.2.2 xl_X12_144 hw.2.2.2.1 dX12_parseLay_28 (fun ra7 hst8 => ?_)
    refine x_iconst (0 : Int32) C dX12_parseLay_30 rfl ?_
    refine x_bipush (30 : Int32) C dX12_parseLay_31 rfl ?_
    obtain ⟨q9, hq10, hF⟩ := bnd_e hF
    refine x_goM (fun ls h => x_runV (As := [.ref ra7, .int (0 : Int32), .int (30 : Int32)]) [.int (32 : Int32), .ref (b + q4.2.2 0 3)] h C ml_X12_184 (k_X12_numberAfter l D cA s0 z b q4 _ hG ra7 1701147238 (0 : Int32) (30 : Int32) q9 hq10) ⟨rfl, rfl, nb rfl, nb rfl⟩ rfl (M_obj hw.2.2.2.2) rfl ⟨rfl, hw, hst8⟩ (nb rfl) ⟨Nat.zero_le _, Nat.zero_le _⟩ dX12_parseLay_33) hS (xA_le hS) (fun H locs hw hz hk hS => ?_)
    have hw : RX D cA s0 z b q9.2 H := hw
    refine m_iastRow h6 C hw (ixl (x := (32 : Int32)) 32 rfl) (by decide) dX12_parseLay_36 hS (fun H locs hw hS => ?_)
    obtain ⟨μ11, hm12, hF⟩ := bnd_e hF
    have hw : RX D cA s0 z b μ11 H := rv_m (W := fun m => RX D cA s0 z b m _) hm12 hw
    refine x_aload_n C dX12_parseLay_37 rfl ?_
    obtain ⟨h13, hF⟩ := asr_e hF
    refine x_get (.ref (b + μ11.2.2 0 3)) C fl_X12_24 (M_obj hw.2.2.2.2) rfl dX12_parseLay_38 ?_
    refine x_bipush (33 : Int32) C dX12_parseLay_41 rfl ?_
    refine x_aload_n C dX12_parseLay_43 rfl ?_
    refine x_ldcS (z := z) 1702125938 C hG.2.2.2 xl_X12_134 hw.2.2.2.1 dX12_parseLay_44 (fun ra14 hst15 => ?_)
    refine x_iconst (0 : Int32) C dX12_parseLay_46 rfl ?_
    refine x_sipush (9999 : Int32) C dX12_parseLay_47 rfl ?_
    obtain ⟨q16, hq17, hF⟩ := bnd_e hF
    refine x_goM (fun ls h => x_runV (As := [.ref ra14, .int (0 : Int32), .int (9999 : Int32)]) [.int (33 : Int32), .ref (b + μ11.2.2 0 3)] h C ml_X12_184 (k_X12_numberAfter l D cA s0 z b μ11 _ hG ra14 1702125938 (0 : Int32) (9999 : Int32) q16 hq17) ⟨rfl, rfl, nb rfl, nb rfl⟩ rfl (M_obj hw.2.2.2.2) rfl ⟨rfl, hw, hst15⟩ (nb rfl) ⟨Nat.zero_le _, Nat.zero_le _⟩ dX12_parseLay_50) hS (xA_le hS) (fun H locs hw hz hk hS => ?_)
    have hw : RX D cA s0 z b q16.2 H := hw
    refine m_iastRow h13 C hw (ixl (x := (33 : Int32)) 33 rfl) (by decide) dX12_parseLay_53 hS (fun H locs hw hS => ?_)
    obtain ⟨μ18, hm19, hF⟩ := bnd_e hF
    have hw : RX D cA s0 z b μ18 H := rv_m (W := fun m => RX D cA s0 z b m _) hm19 hw
    exact x_vretM2 C rfl dX12_parseLay_54 rfl (rv_m (W := fun m => RX D cA s0 z b m _) hF hw) hS (nb rfl) (nb rfl)
  refine x_aload_n C dX12_parseLay_0 rfl ?_
  refine x_get (.int (ν.1 0 16)) C fl_X12_191 (M_obj hw.2.2.2.2) rfl dX12_parseLay_1 ?_
  refine x_if_eq 12 C dX12_parseLay_4 (by decide) (fun c1 => ?_) (fun c1 => ?_)
  · have hF := ite_t hF c1
    exact h_J12 ν _ _ hw hS hF
  · have hF := ite_f hF c1
    refine x_aload_n C dX12_parseLay_7 rfl ?_
    refine x_iconst (3 : Int32) C dX12_parseLay_8 rfl ?_
    obtain ⟨q20, hq21, hF⟩ := bnd_e hF
    refine x_goM (fun ls h => x_runV (As := [.int (3 : Int32)]) [] h C ml_X12_161 (k_X12_errs l D cA s0 z b ν _ hG (3 : Int32) q20 hq21) ⟨rfl, rfl, nb rfl, nb rfl⟩ rfl (M_obj hw.2.2.2.2) rfl ⟨rfl, hw⟩ (nb rfl) ⟨Nat.zero_le _, Nat.zero_le _⟩ dX12_parseLay_9) hS (xA_le hS) (fun H locs hw hz hk hS => ?_)
    have hw : RX D cA s0 z b q20 H := hw
    exact h_J12 q20 _ _ hw hS hF
noncomputable def g_X12_parseShip_L56 (ν : Mm) : Nat → Mm → Int32 → Int32 → Option (Mm)
  | 0, _, _, _ => none
  | n + 1, μ0, x1, x2 => (if (6 : Int32) ≤ x2 then bnd (g_X12_goOn μ0) (fun q16 => asr (isRow (q16.2.2 0 3)) (bnd (g_X12_numberAfter q16 1936617332 (1 : Int32) (9999 : Int32)) (fun q21 => asr (vp_in (((274 : Int32) + ((7 : Int32) * x1)) + (0 : Int32)) 1377) (bnd (some (uI q21.2 (q16.2.2 0 3) (cl (((274 : Int32) + ((7 : Int32) * x1)) + (0 : Int32))) q21.1)) (fun μ26 => bnd (some (f_X12_good μ26)) (fun q28 => (if q28 = true then asr (isRow (μ26.2.2 0 3)) (bnd (some (uI μ26 (μ26.2.2 0 3) 0 ((μ26.1 (μ26.2.2 0 3) 0) + (1 : Int32)))) (fun μ33 => some μ33)) else some μ26))))))) else asr (isRow (μ0.2.2 0 3)) (bnd (g_X12_letter μ0 x2) (fun q36 => asr (vp_in ((((274 : Int32) + ((7 : Int32) * x1)) + (1 : Int32)) + x2) 1377) (bnd (some (uI μ0 (μ0.2.2 0 3) (cl ((((274 : Int32) + ((7 : Int32) * x1)) + (1 : Int32)) + x2)) q36)) (fun μ41 => (g_X12_parseShip_L56 ν n μ41 x1 (x2 + (1 : Int32))))))))
noncomputable def g_X12_parseShip_J18 (ν : Mm) (μ0 : Mm) (x1 : Int32) : Option (Mm) := bnd (g_X12_goOn μ0) (fun q3 => bnd (g_X12_checkName q3) (fun q5 => bnd (some (f_X12_good q5)) (fun q7 => (if q7 = true then bnd (g_X12_named q5) (fun q43 => (if q43 = (-1 : Int32) then bnd (some (f_X12_good q5)) (fun q46 => (if q46 = true then (g_X12_parseShip_L56 ν 10000 q5 x1 (0 : Int32)) else some q5)) else bnd (g_X12_errs q5 (3 : Int32)) (fun q50 => bnd (some (f_X12_good q50)) (fun q52 => (if q52 = true then (g_X12_parseShip_L56 ν 10000 q50 x1 (0 : Int32)) else some q50))))) else bnd (some (f_X12_good q5)) (fun q11 => (if q11 = true then (g_X12_parseShip_L56 ν 10000 q5 x1 (0 : Int32)) else some q5))))))
noncomputable def g_X12_parseShip (ν : Mm) : Option (Mm) := asr (isRow (ν.2.2 0 3)) ((if (ν.1 (ν.2.2 0 3) 0) = (8 : Int32) then bnd (g_X12_errs ν (4 : Int32)) (fun q56 => (g_X12_parseShip_J18 ν q56 (ν.1 (ν.2.2 0 3) 0))) else (g_X12_parseShip_J18 ν ν (ν.1 (ν.2.2 0 3) 0))))
set_option maxRecDepth 20000 in
set_option maxHeartbeats 4000000 in
theorem k_X12_parseShip (l : Launch) (D : va_G) (cA : Nat → ClassId) (s0 : State) (z : Nat) (b : Nat) (ν : Mm) (sz : Nat) (hG : xG l D cA s0) (r : Mm) (hF : g_X12_parseShip ν = some r) : Met l yX12_parseShip (wsG yX12_parseShip cX12_parseShip 3 none) { frames := 8, cells := 0, slots := 0, locals := 173 } (xP D cA s0 [.ref b] (fun H => H.size = sz ∧ RX D cA s0 z b ν H)) (xQm none (fun H => RX D cA s0 z b r H) (xA b 8 sz)) 0 0 (xA b 8 sz) := by
  refine x_start (own := RX12) [(0, .ref b)] rfl rfl (by decide) (nb rfl) ?_
  intro p e s m args below meth c C hw
  obtain ⟨hsz, hw⟩ := hw
  subst hsz
  have hS : va_S (xA b 8 s.heap.size) s.heap s.heap [] := va_S.rf
  have h_L56 : ∀ (n : Nat) (μ0 : Mm) (x1 : Int32) (x2 : Int32) (H : Heap) (locs : List Loc) (hw : RX D cA s0 z b μ0 H) (hS : va_S (xA b 8 s.heap.size) s.heap H locs), g_X12_parseShip_L56 ν n μ0 x1 x2 = some r → xW p l e { frames := 8, cells := 0, slots := 0, locals := 173 } s m args below meth c 3 (MQ below (xQm none (fun H => RX D cA s0 z b r H) (xA b 8 s.heap.size)) args s 0 0 (xA b 8 s.heap.size)) H locs 0 0 56 [(0, .ref b), (1, .int x1), (2, .int x2)] [] := by
    intro n
    induction n with
    | zero =>
      intro μ0 x1 x2 H locs hw hS hF
      exact no_some hF
    | succ n ih =>
      intro μ0 x1 x2 H locs hw hS hF
      have ih56 := ih
      refine x_iload_n C dX12_parseShip_56 rfl ?_
      refine x_bipush (6 : Int32) C dX12_parseShip_57 rfl ?_
      refine x_icmp_ge 90 C dX12_parseShip_59 (by decide) (fun c15 => ?_) (fun c15 => ?_)
      · have hF := ite_t hF c15
        refine x_aload_n C dX12_parseShip_90 rfl ?_
        obtain ⟨q16, hq17, hF⟩ := bnd_e hF
        refine x_goM (fun ls h => x_runV (As := []) [] h C ml_X12_164 (k_X12_goOn l D cA s0 z b μ0 _ hG q16 hq17) ⟨rfl, rfl, nb rfl, nb rfl⟩ rfl (M_obj hw.2.2.2.2) rfl ⟨rfl, hw⟩ (nb rfl) ⟨Nat.zero_le _, Nat.zero_le _⟩ dX12_parseShip_91) hS (xA_le hS) (fun H locs hw hz hk hS => ?_)
        have hw : RX D cA s0 z b q16 H := hw
        refine x_aload_n C dX12_parseShip_94 rfl ?_
        obtain ⟨h18, hF⟩ := asr_e hF
        refine x_get (.ref (b + q16.2.2 0 3)) C fl_X12_24 (M_obj hw.2.2.2.2) rfl dX12_parseShip_95 ?_
        refine x_sipush (274 : Int32) C dX12_parseShip_98 rfl ?_
        refine x_bipush (7 : Int32) C dX12_parseShip_101 rfl ?_
        refine x_iload_n C dX12_parseShip_103 rfl ?_
        refine x_imul C dX12_parseShip_104 ?_
        refine x_iadd C dX12_parseShip_105 ?_
        refine x_iconst (0 : Int32) C dX12_parseShip_106 rfl ?_
        refine x_iadd C dX12_parseShip_107 ?_
        refine x_aload_n C dX12_parseShip_108 rfl ?_
        refine x_ldcS (z := z) 1936617332 C hG.2.2.2 xl_X12_152 hw.2.2.2.1 dX12_parseShip_109 (fun ra19 hst20 => ?_)
        refine x_iconst (1 : Int32) C dX12_parseShip_111 rfl ?_
        refine x_sipush (9999 : Int32) C dX12_parseShip_112 rfl ?_
        obtain ⟨q21, hq22, hF⟩ := bnd_e hF
        refine x_goM (fun ls h => x_runV (As := [.ref ra19, .int (1 : Int32), .int (9999 : Int32)]) [.int (((274 : Int32) + ((7 : Int32) * x1)) + (0 : Int32)), .ref (b + q16.2.2 0 3)] h C ml_X12_184 (k_X12_numberAfter l D cA s0 z b q16 _ hG ra19 1936617332 (1 : Int32) (9999 : Int32) q21 hq22) ⟨rfl, rfl, nb rfl, nb rfl⟩ rfl (M_obj hw.2.2.2.2) rfl ⟨rfl, hw, hst20⟩ (nb rfl) ⟨Nat.zero_le _, Nat.zero_le _⟩ dX12_parseShip_115) hS (xA_le hS) (fun H locs hw hz hk hS => ?_)
        have hw : RX D cA s0 z b q21.2 H := hw
        obtain ⟨h23, hF⟩ := asr_e hF
        obtain ⟨hn24, hl25⟩ := vpn h23 (by decide)
        refine m_iastRow h18 C hw hn24 hl25 dX12_parseShip_118 hS (fun H locs hw hS => ?_)
        obtain ⟨μ26, hm27, hF⟩ := bnd_e hF
        have hw : RX D cA s0 z b μ26 H := rv_m (W := fun m => RX D cA s0 z b m _) hm27 hw
        refine x_aload_n C dX12_parseShip_119 rfl ?_
        obtain ⟨q28, hq29, hF⟩ := bnd_e hF
        have hq29 := Option.some.inj hq29
        have K30 := c_X12_good l D cA s0 b μ26 
        rw [hq29] at K30
        refine x_goR (fun ls h => x_runV (As := []) [] h C ml_X12_73 K30 ⟨rfl, rfl, nb rfl, nb rfl⟩ rfl (M_obj hw.2.2.2.2) rfl hw.2.2.2.2 (nb rfl) ⟨Nat.zero_le _, Nat.zero_le _⟩ dX12_parseShip_120) ?_
        refine x_ifB_eq 136 C dX12_parseShip_123 (by decide) (fun c31 => ?_) (fun c31 => ?_)
        · have hF := ite_f hF (nbt c31)
          exact x_vretM2 C rfl dX12_parseShip_136 rfl (rv_m (W := fun m => RX D cA s0 z b m _) hF hw) hS (nb rfl) (nb rfl)
        · have hF := ite_t hF c31
          refine x_aload_n C dX12_parseShip_126 rfl ?_
          obtain ⟨h32, hF⟩ := asr_e hF
          refine x_get (.ref (b + μ26.2.2 0 3)) C fl_X12_24 (M_obj hw.2.2.2.2) rfl dX12_parseShip_127 ?_
          refine x_iconst (0 : Int32) C dX12_parseShip_130 rfl ?_
          refine x_dup2_11 C dX12_parseShip_131 rfl rfl ?_
          refine x_ialdN C (M_row h32 hw.2.2.2.2) (ixl (x := (0 : Int32)) 0 rfl) (by decide) (by decide) dX12_parseShip_132 ?_
          refine x_iconst (1 : Int32) C dX12_parseShip_133 rfl ?_
          refine x_iadd C dX12_parseShip_134 ?_
          refine m_iastRow h32 C hw (ixl (x := (0 : Int32)) 0 rfl) (by decide) dX12_parseShip_135 hS (fun H locs hw hS => ?_)
          obtain ⟨μ33, hm34, hF⟩ := bnd_e hF
          have hw : RX D cA s0 z b μ33 H := rv_m (W := fun m => RX D cA s0 z b m _) hm34 hw
          exact x_vretM2 C rfl dX12_parseShip_136 rfl (rv_m (W := fun m => RX D cA s0 z b m _) hF hw) hS (nb rfl) (nb rfl)
      · have hF := ite_f hF c15
        refine x_aload_n C dX12_parseShip_62 rfl ?_
        obtain ⟨h35, hF⟩ := asr_e hF
        refine x_get (.ref (b + μ0.2.2 0 3)) C fl_X12_24 (M_obj hw.2.2.2.2) rfl dX12_parseShip_63 ?_
        refine x_sipush (274 : Int32) C dX12_parseShip_66 rfl ?_
        refine x_bipush (7 : Int32) C dX12_parseShip_69 rfl ?_
        refine x_iload_n C dX12_parseShip_71 rfl ?_
        refine x_imul C dX12_parseShip_72 ?_
        refine x_iadd C dX12_parseShip_73 ?_
        refine x_iconst (1 : Int32) C dX12_parseShip_74 rfl ?_
        refine x_iadd C dX12_parseShip_75 ?_
        refine x_iload_n C dX12_parseShip_76 rfl ?_
        refine x_iadd C dX12_parseShip_77 ?_
        refine x_aload_n C dX12_parseShip_78 rfl ?_
        refine x_iload_n C dX12_parseShip_79 rfl ?_
        obtain ⟨q36, hq37, hF⟩ := bnd_e hF
        refine x_goR (fun ls h => x_runV (As := [.int x2]) [.int ((((274 : Int32) + ((7 : Int32) * x1)) + (1 : Int32)) + x2), .ref (b + μ0.2.2 0 3)] h C ml_X12_174 (k_X12_letter l D cA s0 z b μ0 hG x2 q36 hq37) ⟨rfl, rfl, nb rfl, nb rfl⟩ rfl (M_obj hw.2.2.2.2) rfl hw (nb rfl) ⟨Nat.zero_le _, Nat.zero_le _⟩ dX12_parseShip_80) ?_
        obtain ⟨h38, hF⟩ := asr_e hF
        obtain ⟨hn39, hl40⟩ := vpn h38 (by decide)
        refine m_iastRow h35 C hw hn39 hl40 dX12_parseShip_83 hS (fun H locs hw hS => ?_)
        obtain ⟨μ41, hm42, hF⟩ := bnd_e hF
        have hw : RX D cA s0 z b μ41 H := rv_m (W := fun m => RX D cA s0 z b m _) hm42 hw
        refine x_iinc (x2 + (1 : Int32)) [(2, .int (x2 + (1 : Int32))), (0, .ref b), (1, .int x1)] C dX12_parseShip_84 rfl rfl (by decide) rfl ?_
        refine x_goto 56 C dX12_parseShip_87 (by decide) ?_
        refine x_sub [(0, .ref b), (1, .int x1), (2, .int (x2 + (1 : Int32)))] [1, 2, 0] rfl ?_
        exact ih56 μ41 x1 (x2 + (1 : Int32)) _ _ hw hS hF
  have h_J18 : ∀ (μ0 : Mm) (x1 : Int32) (H : Heap) (locs : List Loc) (hw : RX D cA s0 z b μ0 H) (hS : va_S (xA b 8 s.heap.size) s.heap H locs), g_X12_parseShip_J18 ν μ0 x1 = some r → xW p l e { frames := 8, cells := 0, slots := 0, locals := 173 } s m args below meth c 3 (MQ below (xQm none (fun H => RX D cA s0 z b r H) (xA b 8 s.heap.size)) args s 0 0 (xA b 8 s.heap.size)) H locs 0 0 18 [(0, .ref b), (1, .int x1)] [] := by
    intro μ0 x1 H locs hw hS hF
    refine x_aload_n C dX12_parseShip_18 rfl ?_
    obtain ⟨q3, hq4, hF⟩ := bnd_e hF
    refine x_goM (fun ls h => x_runV (As := []) [] h C ml_X12_164 (k_X12_goOn l D cA s0 z b μ0 _ hG q3 hq4) ⟨rfl, rfl, nb rfl, nb rfl⟩ rfl (M_obj hw.2.2.2.2) rfl ⟨rfl, hw⟩ (nb rfl) ⟨Nat.zero_le _, Nat.zero_le _⟩ dX12_parseShip_19) hS (xA_le hS) (fun H locs hw hz hk hS => ?_)
    have hw : RX D cA s0 z b q3 H := hw
    refine x_aload_n C dX12_parseShip_22 rfl ?_
    obtain ⟨q5, hq6, hF⟩ := bnd_e hF
    refine x_goM (fun ls h => x_runV (As := []) [] h C ml_X12_194 (k_X12_checkName l D cA s0 z b q3 _ hG q5 hq6) ⟨rfl, rfl, nb rfl, nb rfl⟩ rfl (M_obj hw.2.2.2.2) rfl ⟨rfl, hw⟩ (nb rfl) ⟨Nat.zero_le _, Nat.zero_le _⟩ dX12_parseShip_23) hS (xA_le hS) (fun H locs hw hz hk hS => ?_)
    have hw : RX D cA s0 z b q5 H := hw
    refine x_aload_n C dX12_parseShip_26 rfl ?_
    obtain ⟨q7, hq8, hF⟩ := bnd_e hF
    have hq8 := Option.some.inj hq8
    have K9 := c_X12_good l D cA s0 b q5 
    rw [hq8] at K9
    refine x_goR (fun ls h => x_runV (As := []) [] h C ml_X12_73 K9 ⟨rfl, rfl, nb rfl, nb rfl⟩ rfl (M_obj hw.2.2.2.2) rfl hw.2.2.2.2 (nb rfl) ⟨Nat.zero_le _, Nat.zero_le _⟩ dX12_parseShip_27) ?_
    refine x_ifB_eq 46 C dX12_parseShip_30 (by decide) (fun c10 => ?_) (fun c10 => ?_)
    · have hF := ite_f hF (nbt c10)
      refine x_aload_n C dX12_parseShip_46 rfl ?_
      obtain ⟨q11, hq12, hF⟩ := bnd_e hF
      have hq12 := Option.some.inj hq12
      have K13 := c_X12_good l D cA s0 b q5 
      rw [hq12] at K13
      refine x_goR (fun ls h => x_runV (As := []) [] h C ml_X12_73 K13 ⟨rfl, rfl, nb rfl, nb rfl⟩ rfl (M_obj hw.2.2.2.2) rfl hw.2.2.2.2 (nb rfl) ⟨Nat.zero_le _, Nat.zero_le _⟩ dX12_parseShip_47) ?_
      refine x_ifB_ne 54 C dX12_parseShip_50 (by decide) (fun c14 => ?_) (fun c14 => ?_)
      · have hF := ite_t hF c14
        refine x_iconst (0 : Int32) C dX12_parseShip_54 rfl ?_
        refine x_istore_n [(2, .int (0 : Int32)), (0, .ref b), (1, .int x1)] C dX12_parseShip_55 rfl (by decide) rfl ?_
        refine x_sub [(0, .ref b), (1, .int x1), (2, .int (0 : Int32))] [1, 2, 0] rfl ?_
        exact h_L56 10000 q5 x1 (0 : Int32) _ _ hw hS hF
      · have hF := ite_f hF (nbt c14)
        exact x_vretM2 C rfl dX12_parseShip_53 rfl (rv_m (W := fun m => RX D cA s0 z b m _) hF hw) hS (nb rfl) (nb rfl)
    · have hF := ite_t hF c10
      refine x_aload_n C dX12_parseShip_33 rfl ?_
      obtain ⟨q43, hq44, hF⟩ := bnd_e hF
      refine x_goR (fun ls h => x_runV (As := []) [] h C ml_X12_197 (k_X12_named l D cA s0 z b q5 hG q43 hq44) ⟨rfl, rfl, nb rfl, nb rfl⟩ rfl (M_obj hw.2.2.2.2) rfl hw (nb rfl) ⟨Nat.zero_le _, Nat.zero_le _⟩ dX12_parseShip_34) ?_
      refine x_iconst (-1 : Int32) C dX12_parseShip_37 rfl ?_
      refine x_icmp_eq 46 C dX12_parseShip_38 (by decide) (fun c45 => ?_) (fun c45 => ?_)
      · have hF := ite_t hF c45
        refine x_aload_n C dX12_parseShip_46 rfl ?_
        obtain ⟨q46, hq47, hF⟩ := bnd_e hF
        have hq47 := Option.some.inj hq47
        have K48 := c_X12_good l D cA s0 b q5 
        rw [hq47] at K48
        refine x_goR (fun ls h => x_runV (As := []) [] h C ml_X12_73 K48 ⟨rfl, rfl, nb rfl, nb rfl⟩ rfl (M_obj hw.2.2.2.2) rfl hw.2.2.2.2 (nb rfl) ⟨Nat.zero_le _, Nat.zero_le _⟩ dX12_parseShip_47) ?_
        refine x_ifB_ne 54 C dX12_parseShip_50 (by decide) (fun c49 => ?_) (fun c49 => ?_)
        · have hF := ite_t hF c49
          refine x_iconst (0 : Int32) C dX12_parseShip_54 rfl ?_
          refine x_istore_n [(2, .int (0 : Int32)), (0, .ref b), (1, .int x1)] C dX12_parseShip_55 rfl (by decide) rfl ?_
          refine x_sub [(0, .ref b), (1, .int x1), (2, .int (0 : Int32))] [1, 2, 0] rfl ?_
          exact h_L56 10000 q5 x1 (0 : Int32) _ _ hw hS hF
        · have hF := ite_f hF (nbt c49)
          exact x_vretM2 C rfl dX12_parseShip_53 rfl (rv_m (W := fun m => RX D cA s0 z b m _) hF hw) hS (nb rfl) (nb rfl)
      · have hF := ite_f hF c45
        refine x_aload_n C dX12_parseShip_41 rfl ?_
        refine x_iconst (3 : Int32) C dX12_parseShip_42 rfl ?_
        obtain ⟨q50, hq51, hF⟩ := bnd_e hF
        refine x_goM (fun ls h => x_runV (As := [.int (3 : Int32)]) [] h C ml_X12_161 (k_X12_errs l D cA s0 z b q5 _ hG (3 : Int32) q50 hq51) ⟨rfl, rfl, nb rfl, nb rfl⟩ rfl (M_obj hw.2.2.2.2) rfl ⟨rfl, hw⟩ (nb rfl) ⟨Nat.zero_le _, Nat.zero_le _⟩ dX12_parseShip_43) hS (xA_le hS) (fun H locs hw hz hk hS => ?_)
        have hw : RX D cA s0 z b q50 H := hw
        refine x_aload_n C dX12_parseShip_46 rfl ?_
        obtain ⟨q52, hq53, hF⟩ := bnd_e hF
        have hq53 := Option.some.inj hq53
        have K54 := c_X12_good l D cA s0 b q50 
        rw [hq53] at K54
        refine x_goR (fun ls h => x_runV (As := []) [] h C ml_X12_73 K54 ⟨rfl, rfl, nb rfl, nb rfl⟩ rfl (M_obj hw.2.2.2.2) rfl hw.2.2.2.2 (nb rfl) ⟨Nat.zero_le _, Nat.zero_le _⟩ dX12_parseShip_47) ?_
        refine x_ifB_ne 54 C dX12_parseShip_50 (by decide) (fun c55 => ?_) (fun c55 => ?_)
        · have hF := ite_t hF c55
          refine x_iconst (0 : Int32) C dX12_parseShip_54 rfl ?_
          refine x_istore_n [(2, .int (0 : Int32)), (0, .ref b), (1, .int x1)] C dX12_parseShip_55 rfl (by decide) rfl ?_
          refine x_sub [(0, .ref b), (1, .int x1), (2, .int (0 : Int32))] [1, 2, 0] rfl ?_
          exact h_L56 10000 q50 x1 (0 : Int32) _ _ hw hS hF
        · have hF := ite_f hF (nbt c55)
          exact x_vretM2 C rfl dX12_parseShip_53 rfl (rv_m (W := fun m => RX D cA s0 z b m _) hF hw) hS (nb rfl) (nb rfl)
  refine x_aload_n C dX12_parseShip_0 rfl ?_
  obtain ⟨h1, hF⟩ := asr_e hF
  refine x_get (.ref (b + ν.2.2 0 3)) C fl_X12_24 (M_obj hw.2.2.2.2) rfl dX12_parseShip_1 ?_
  refine x_iconst (0 : Int32) C dX12_parseShip_4 rfl ?_
  refine x_ialdN C (M_row h1 hw.2.2.2.2) (ixl (x := (0 : Int32)) 0 rfl) (by decide) (by decide) dX12_parseShip_5 ?_
  refine x_istore_n [(1, .int (ν.1 (ν.2.2 0 3) 0)), (0, .ref b)] C dX12_parseShip_6 rfl (by decide) rfl ?_
  refine x_iload_n C dX12_parseShip_7 rfl ?_
  refine x_bipush (8 : Int32) C dX12_parseShip_8 rfl ?_
  refine x_icmp_ne 18 C dX12_parseShip_10 (by decide) (fun c2 => ?_) (fun c2 => ?_)
  · have hF := ite_f hF c2
    refine x_sub [(0, .ref b), (1, .int (ν.1 (ν.2.2 0 3) 0))] [1, 0] rfl ?_
    exact h_J18 ν (ν.1 (ν.2.2 0 3) 0) _ _ hw hS hF
  · have hF := ite_t hF c2
    refine x_aload_n C dX12_parseShip_13 rfl ?_
    refine x_iconst (4 : Int32) C dX12_parseShip_14 rfl ?_
    obtain ⟨q56, hq57, hF⟩ := bnd_e hF
    refine x_goM (fun ls h => x_runV (As := [.int (4 : Int32)]) [] h C ml_X12_161 (k_X12_errs l D cA s0 z b ν _ hG (4 : Int32) q56 hq57) ⟨rfl, rfl, nb rfl, nb rfl⟩ rfl (M_obj hw.2.2.2.2) rfl ⟨rfl, hw⟩ (nb rfl) ⟨Nat.zero_le _, Nat.zero_le _⟩ dX12_parseShip_15) hS (xA_le hS) (fun H locs hw hz hk hS => ?_)
    have hw : RX D cA s0 z b q56 H := hw
    refine x_sub [(0, .ref b), (1, .int (ν.1 (ν.2.2 0 3) 0))] [1, 0] rfl ?_
    exact h_J18 q56 (ν.1 (ν.2.2 0 3) 0) _ _ hw hS hF
noncomputable def g_X12_layCall_L13 (ν : Mm) (a1 : Int32) (a2 : Int32) (a3 : Int32) (a4 : Int32) (a5 : Int32) : Nat → Mm → Int32 → Option (Mm)
  | 0, _, _ => none
  | n + 1, μ0, x7 => (if (7 : Int32) ≤ x7 then asr (isRow (μ0.2.2 0 3)) (asr (vp_in (((330 : Int32) + ((7 : Int32) * a1)) + (0 : Int32)) 1377) (bnd (some (uI μ0 (μ0.2.2 0 3) (cl (((330 : Int32) + ((7 : Int32) * a1)) + (0 : Int32))) a2)) (fun μ6 => asr (isRow (μ6.2.2 0 3)) (asr (vp_in (((330 : Int32) + ((7 : Int32) * a1)) + (1 : Int32)) 1377) (bnd (some (uI μ6 (μ6.2.2 0 3) (cl (((330 : Int32) + ((7 : Int32) * a1)) + (1 : Int32))) a3)) (fun μ12 => asr (isRow (μ12.2.2 0 3)) (asr (vp_in (((330 : Int32) + ((7 : Int32) * a1)) + (2 : Int32)) 1377) (bnd (some (uI μ12 (μ12.2.2 0 3) (cl (((330 : Int32) + ((7 : Int32) * a1)) + (2 : Int32))) a4)) (fun μ18 => asr (isRow (μ18.2.2 0 3)) (asr (vp_in (((330 : Int32) + ((7 : Int32) * a1)) + (3 : Int32)) 1377) (bnd (some (uI μ18 (μ18.2.2 0 3) (cl (((330 : Int32) + ((7 : Int32) * a1)) + (3 : Int32))) a5)) (fun μ24 => some μ24)))))))))))) else asr (isRow (μ0.2.2 0 3)) (asr (vp_in (((330 : Int32) + ((7 : Int32) * a1)) + x7) 1377) (bnd (some (uI μ0 (μ0.2.2 0 3) (cl (((330 : Int32) + ((7 : Int32) * a1)) + x7)) (0 : Int32))) (fun μ30 => (g_X12_layCall_L13 ν a1 a2 a3 a4 a5 n μ30 (x7 + (1 : Int32)))))))
noncomputable def g_X12_layCall (ν : Mm) (a1 : Int32) (a2 : Int32) (a3 : Int32) (a4 : Int32) (a5 : Int32) : Option (Mm) := (g_X12_layCall_L13 ν a1 a2 a3 a4 a5 10000 ν (0 : Int32))
set_option maxRecDepth 20000 in
set_option maxHeartbeats 4000000 in
theorem k_X12_layCall (l : Launch) (D : va_G) (cA : Nat → ClassId) (s0 : State) (z : Nat) (b : Nat) (ν : Mm) (sz : Nat) (hG : xG l D cA s0) (a1 : Int32) (a2 : Int32) (a3 : Int32) (a4 : Int32) (a5 : Int32) (r : Mm) (hF : g_X12_layCall ν a1 a2 a3 a4 a5 = some r) : Met l yX12_layCall (wsG yX12_layCall cX12_layCall 8 none) { frames := 0, cells := 0, slots := 0, locals := 0 } (xP D cA s0 [.ref b, .int a1, .int a2, .int a3, .int a4, .int a5] (fun H => H.size = sz ∧ RX D cA s0 z b ν H)) (xQm none (fun H => RX D cA s0 z b r H) (xA b 8 sz)) 0 0 (xA b 8 sz) := by
  refine x_start (own := RX12) [(0, .ref b), (1, .int a1), (2, .int a2), (3, .int a3), (4, .int a4), (5, .int a5)] rfl rfl (by decide) (nb rfl) ?_
  intro p e s m args below meth c C hw
  obtain ⟨hsz, hw⟩ := hw
  subst hsz
  have hS : va_S (xA b 8 s.heap.size) s.heap s.heap [] := va_S.rf
  have h_L13 : ∀ (n : Nat) (μ0 : Mm) (x7 : Int32) (H : Heap) (locs : List Loc) (hw : RX D cA s0 z b μ0 H) (hS : va_S (xA b 8 s.heap.size) s.heap H locs), g_X12_layCall_L13 ν a1 a2 a3 a4 a5 n μ0 x7 = some r → xW p l e { frames := 0, cells := 0, slots := 0, locals := 0 } s m args below meth c 8 (MQ below (xQm none (fun H => RX D cA s0 z b r H) (xA b 8 s.heap.size)) args s 0 0 (xA b 8 s.heap.size)) H locs 0 0 13 [(0, .ref b), (2, .int a2), (3, .int a3), (4, .int a4), (5, .int a5), (6, .int ((330 : Int32) + ((7 : Int32) * a1))), (7, .int x7)] [] := by
    intro n
    induction n with
    | zero =>
      intro μ0 x7 H locs hw hS hF
      exact no_some hF
    | succ n ih =>
      intro μ0 x7 H locs hw hS hF
      have ih13 := ih
      refine x_iload C dX12_layCall_13 rfl ?_
      refine x_bipush (7 : Int32) C dX12_layCall_15 rfl ?_
      refine x_icmp_ge 37 C dX12_layCall_17 (by decide) (fun c1 => ?_) (fun c1 => ?_)
      · have hF := ite_t hF c1
        refine x_aload_n C dX12_layCall_37 rfl ?_
        obtain ⟨h2, hF⟩ := asr_e hF
        refine x_get (.ref (b + μ0.2.2 0 3)) C fl_X12_24 (M_obj hw.2.2.2.2) rfl dX12_layCall_38 ?_
        refine x_iload C dX12_layCall_41 rfl ?_
        refine x_iconst (0 : Int32) C dX12_layCall_43 rfl ?_
        refine x_iadd C dX12_layCall_44 ?_
        refine x_iload_n C dX12_layCall_45 rfl ?_
        obtain ⟨h3, hF⟩ := asr_e hF
        obtain ⟨hn4, hl5⟩ := vpn h3 (by decide)
        refine m_iastRow h2 C hw hn4 hl5 dX12_layCall_46 hS (fun H locs hw hS => ?_)
        obtain ⟨μ6, hm7, hF⟩ := bnd_e hF
        have hw : RX D cA s0 z b μ6 H := rv_m (W := fun m => RX D cA s0 z b m _) hm7 hw
        refine x_aload_n C dX12_layCall_47 rfl ?_
        obtain ⟨h8, hF⟩ := asr_e hF
        refine x_get (.ref (b + μ6.2.2 0 3)) C fl_X12_24 (M_obj hw.2.2.2.2) rfl dX12_layCall_48 ?_
        refine x_iload C dX12_layCall_51 rfl ?_
        refine x_iconst (1 : Int32) C dX12_layCall_53 rfl ?_
        refine x_iadd C dX12_layCall_54 ?_
        refine x_iload_n C dX12_layCall_55 rfl ?_
        obtain ⟨h9, hF⟩ := asr_e hF
        obtain ⟨hn10, hl11⟩ := vpn h9 (by decide)
        refine m_iastRow h8 C hw hn10 hl11 dX12_layCall_56 hS (fun H locs hw hS => ?_)
        obtain ⟨μ12, hm13, hF⟩ := bnd_e hF
        have hw : RX D cA s0 z b μ12 H := rv_m (W := fun m => RX D cA s0 z b m _) hm13 hw
        refine x_aload_n C dX12_layCall_57 rfl ?_
        obtain ⟨h14, hF⟩ := asr_e hF
        refine x_get (.ref (b + μ12.2.2 0 3)) C fl_X12_24 (M_obj hw.2.2.2.2) rfl dX12_layCall_58 ?_
        refine x_iload C dX12_layCall_61 rfl ?_
        refine x_iconst (2 : Int32) C dX12_layCall_63 rfl ?_
        refine x_iadd C dX12_layCall_64 ?_
        refine x_iload C dX12_layCall_65 rfl ?_
        obtain ⟨h15, hF⟩ := asr_e hF
        obtain ⟨hn16, hl17⟩ := vpn h15 (by decide)
        refine m_iastRow h14 C hw hn16 hl17 dX12_layCall_67 hS (fun H locs hw hS => ?_)
        obtain ⟨μ18, hm19, hF⟩ := bnd_e hF
        have hw : RX D cA s0 z b μ18 H := rv_m (W := fun m => RX D cA s0 z b m _) hm19 hw
        refine x_aload_n C dX12_layCall_68 rfl ?_
        obtain ⟨h20, hF⟩ := asr_e hF
        refine x_get (.ref (b + μ18.2.2 0 3)) C fl_X12_24 (M_obj hw.2.2.2.2) rfl dX12_layCall_69 ?_
        refine x_iload C dX12_layCall_72 rfl ?_
        refine x_iconst (3 : Int32) C dX12_layCall_74 rfl ?_
        refine x_iadd C dX12_layCall_75 ?_
        refine x_iload C dX12_layCall_76 rfl ?_
        obtain ⟨h21, hF⟩ := asr_e hF
        obtain ⟨hn22, hl23⟩ := vpn h21 (by decide)
        refine m_iastRow h20 C hw hn22 hl23 dX12_layCall_78 hS (fun H locs hw hS => ?_)
        obtain ⟨μ24, hm25, hF⟩ := bnd_e hF
        have hw : RX D cA s0 z b μ24 H := rv_m (W := fun m => RX D cA s0 z b m _) hm25 hw
        exact x_vretM2 C rfl dX12_layCall_79 rfl (rv_m (W := fun m => RX D cA s0 z b m _) hF hw) hS (nb rfl) (nb rfl)
      · have hF := ite_f hF c1
        refine x_aload_n C dX12_layCall_20 rfl ?_
        obtain ⟨h26, hF⟩ := asr_e hF
        refine x_get (.ref (b + μ0.2.2 0 3)) C fl_X12_24 (M_obj hw.2.2.2.2) rfl dX12_layCall_21 ?_
        refine x_iload C dX12_layCall_24 rfl ?_
        refine x_iload C dX12_layCall_26 rfl ?_
        refine x_iadd C dX12_layCall_28 ?_
        refine x_iconst (0 : Int32) C dX12_layCall_29 rfl ?_
        obtain ⟨h27, hF⟩ := asr_e hF
        obtain ⟨hn28, hl29⟩ := vpn h27 (by decide)
        refine m_iastRow h26 C hw hn28 hl29 dX12_layCall_30 hS (fun H locs hw hS => ?_)
        obtain ⟨μ30, hm31, hF⟩ := bnd_e hF
        have hw : RX D cA s0 z b μ30 H := rv_m (W := fun m => RX D cA s0 z b m _) hm31 hw
        refine x_iinc (x7 + (1 : Int32)) [(7, .int (x7 + (1 : Int32))), (0, .ref b), (2, .int a2), (3, .int a3), (4, .int a4), (5, .int a5), (6, .int ((330 : Int32) + ((7 : Int32) * a1)))] C dX12_layCall_31 rfl rfl (by decide) rfl ?_
        refine x_goto 13 C dX12_layCall_34 (by decide) ?_
        refine x_sub [(0, .ref b), (2, .int a2), (3, .int a3), (4, .int a4), (5, .int a5), (6, .int ((330 : Int32) + ((7 : Int32) * a1))), (7, .int (x7 + (1 : Int32)))] [1, 2, 3, 4, 5, 6, 0] rfl ?_
        exact ih13 μ30 (x7 + (1 : Int32)) _ _ hw hS hF
  refine x_sipush (330 : Int32) C dX12_layCall_0 rfl ?_
  refine x_bipush (7 : Int32) C dX12_layCall_3 rfl ?_
  refine x_iload_n C dX12_layCall_5 rfl ?_
  refine x_imul C dX12_layCall_6 ?_
  refine x_iadd C dX12_layCall_7 ?_
  refine x_istore [(6, .int ((330 : Int32) + ((7 : Int32) * a1))), (0, .ref b), (1, .int a1), (2, .int a2), (3, .int a3), (4, .int a4), (5, .int a5)] C dX12_layCall_8 (by decide) rfl ?_
  refine x_iconst (0 : Int32) C dX12_layCall_10 rfl ?_
  refine x_istore [(7, .int (0 : Int32)), (6, .int ((330 : Int32) + ((7 : Int32) * a1))), (0, .ref b), (1, .int a1), (2, .int a2), (3, .int a3), (4, .int a4), (5, .int a5)] C dX12_layCall_11 (by decide) rfl ?_
  refine x_sub [(0, .ref b), (2, .int a2), (3, .int a3), (4, .int a4), (5, .int a5), (6, .int ((330 : Int32) + ((7 : Int32) * a1))), (7, .int (0 : Int32))] [2, 4, 5, 6, 7, 1, 0] rfl ?_
  exact h_L13 10000 ν (0 : Int32) _ _ hw hS hF
noncomputable def g_X12_parseCall_J52 (ν : Mm) (μ0 : Mm) (x1 : Int32) (x2 : Int32) : Option (Mm) := bnd (g_X12_goOn μ0) (fun q12 => bnd (g_X12_number q12 (0 : Int32) (3599 : Int32)) (fun q14 => bnd (g_X12_word q14.2 28532) (fun q18 => bnd (g_X12_number q18 q14.1 (q14.1 + (29 : Int32))) (fun q20 => bnd (g_X12_numberAfter q20.2 435745415543 (0 : Int32) (999 : Int32)) (fun q24 => bnd (some (f_X12_good q24.2)) (fun q26 => (if q26 = true then bnd (g_X12_layCall q24.2 x1 x2 q14.1 q20.1 q24.1) (fun q30 => asr (isRow (q30.2.2 0 3)) (bnd (some (uI q30 (q30.2.2 0 3) 1 ((q30.1 (q30.2.2 0 3) 1) + (1 : Int32)))) (fun μ33 => some μ33))) else some q24.2)))))))
noncomputable def g_X12_parseCall_J41 (ν : Mm) (μ0 : Mm) (x1 : Int32) (y0 : Int32) : Option (Mm) := (if y0 = (-1 : Int32) then bnd (g_X12_errs μ0 (3 : Int32)) (fun q35 => (g_X12_parseCall_J52 ν q35 x1 y0)) else (g_X12_parseCall_J52 ν μ0 x1 y0))
noncomputable def g_X12_parseCall_J18 (ν : Mm) (μ0 : Mm) (x1 : Int32) : Option (Mm) := bnd (g_X12_goOn μ0) (fun q3 => bnd (g_X12_checkName q3) (fun q5 => bnd (some (f_X12_good q5)) (fun q7 => (if q7 = true then bnd (g_X12_named q5) (fun q37 => (g_X12_parseCall_J41 ν q5 x1 q37)) else (g_X12_parseCall_J41 ν q5 x1 (-1 : Int32))))))
noncomputable def g_X12_parseCall (ν : Mm) : Option (Mm) := asr (isRow (ν.2.2 0 3)) ((if (ν.1 (ν.2.2 0 3) 1) = (20 : Int32) then bnd (g_X12_errs ν (4 : Int32)) (fun q39 => (g_X12_parseCall_J18 ν q39 (ν.1 (ν.2.2 0 3) 1))) else (g_X12_parseCall_J18 ν ν (ν.1 (ν.2.2 0 3) 1))))
set_option maxRecDepth 20000 in
set_option maxHeartbeats 4000000 in
theorem k_X12_parseCall (l : Launch) (D : va_G) (cA : Nat → ClassId) (s0 : State) (z : Nat) (b : Nat) (ν : Mm) (sz : Nat) (hG : xG l D cA s0) (r : Mm) (hF : g_X12_parseCall ν = some r) : Met l yX12_parseCall (wsG yX12_parseCall cX12_parseCall 6 none) { frames := 8, cells := 0, slots := 0, locals := 173 } (xP D cA s0 [.ref b] (fun H => H.size = sz ∧ RX D cA s0 z b ν H)) (xQm none (fun H => RX D cA s0 z b r H) (xA b 8 sz)) 0 0 (xA b 8 sz) := by
  refine x_start (own := RX12) [(0, .ref b)] rfl rfl (by decide) (nb rfl) ?_
  intro p e s m args below meth c C hw
  obtain ⟨hsz, hw⟩ := hw
  subst hsz
  have hS : va_S (xA b 8 s.heap.size) s.heap s.heap [] := va_S.rf
  have h_J52 : ∀ (μ0 : Mm) (x1 : Int32) (x2 : Int32) (H : Heap) (locs : List Loc) (hw : RX D cA s0 z b μ0 H) (hS : va_S (xA b 8 s.heap.size) s.heap H locs), g_X12_parseCall_J52 ν μ0 x1 x2 = some r → xW p l e { frames := 8, cells := 0, slots := 0, locals := 173 } s m args below meth c 6 (MQ below (xQm none (fun H => RX D cA s0 z b r H) (xA b 8 s.heap.size)) args s 0 0 (xA b 8 s.heap.size)) H locs 0 0 52 [(0, .ref b), (1, .int x1), (2, .int x2)] [] := by
    intro μ0 x1 x2 H locs hw hS hF
    refine x_aload_n C dX12_parseCall_52 rfl ?_
    obtain ⟨q12, hq13, hF⟩ := bnd_e hF
    refine x_goM (fun ls h => x_runV (As := []) [] h C ml_X12_164 (k_X12_goOn l D cA s0 z b μ0 _ hG q12 hq13) ⟨rfl, rfl, nb rfl, nb rfl⟩ rfl (M_obj hw.2.2.2.2) rfl ⟨rfl, hw⟩ (nb rfl) ⟨Nat.zero_le _, Nat.zero_le _⟩ dX12_parseCall_53) hS (xA_le hS) (fun H locs hw hz hk hS => ?_)
    have hw : RX D cA s0 z b q12 H := hw
    refine x_aload_n C dX12_parseCall_56 rfl ?_
    refine x_iconst (0 : Int32) C dX12_parseCall_57 rfl ?_
    refine x_sipush (3599 : Int32) C dX12_parseCall_58 rfl ?_
    obtain ⟨q14, hq15, hF⟩ := bnd_e hF
    refine x_goM (fun ls h => x_runV (As := [.int (0 : Int32), .int (3599 : Int32)]) [] h C ml_X12_171 (k_X12_number l D cA s0 z b q12 _ hG (0 : Int32) (3599 : Int32) q14 hq15) ⟨rfl, rfl, nb rfl, nb rfl⟩ rfl (M_obj hw.2.2.2.2) rfl ⟨rfl, hw⟩ (nb rfl) ⟨Nat.zero_le _, Nat.zero_le _⟩ dX12_parseCall_61) hS (xA_le hS) (fun H locs hw hz hk hS => ?_)
    have hw : RX D cA s0 z b q14.2 H := hw
    refine x_istore_n [(3, .int q14.1), (0, .ref b), (1, .int x1), (2, .int x2)] C dX12_parseCall_64 rfl (by decide) rfl ?_
    refine x_aload_n C dX12_parseCall_65 rfl ?_
    refine x_ldcS (z := z) 28532 C hG.2.2.2 xl_X12_156 hw.2.2.2.1 dX12_parseCall_66 (fun ra16 hst17 => ?_)
    obtain ⟨q18, hq19, hF⟩ := bnd_e hF
    refine x_goM (fun ls h => x_runV (As := [.ref ra16]) [] h C ml_X12_167 (k_X12_word l D cA s0 z b q14.2 _ hG ra16 28532 q18 hq19) ⟨rfl, rfl, nb rfl, nb rfl⟩ rfl (M_obj hw.2.2.2.2) rfl ⟨rfl, hw, hst17⟩ (nb rfl) ⟨Nat.zero_le _, Nat.zero_le _⟩ dX12_parseCall_68) hS (xA_le hS) (fun H locs hw hz hk hS => ?_)
    have hw : RX D cA s0 z b q18 H := hw
    refine x_aload_n C dX12_parseCall_71 rfl ?_
    refine x_iload_n C dX12_parseCall_72 rfl ?_
    refine x_iload_n C dX12_parseCall_73 rfl ?_
    refine x_bipush (29 : Int32) C dX12_parseCall_74 rfl ?_
    refine x_iadd C dX12_parseCall_76 ?_
    obtain ⟨q20, hq21, hF⟩ := bnd_e hF
    refine x_goM (fun ls h => x_runV (As := [.int q14.1, .int (q14.1 + (29 : Int32))]) [] h C ml_X12_171 (k_X12_number l D cA s0 z b q18 _ hG q14.1 (q14.1 + (29 : Int32)) q20 hq21) ⟨rfl, rfl, nb rfl, nb rfl⟩ rfl (M_obj hw.2.2.2.2) rfl ⟨rfl, hw⟩ (nb rfl) ⟨Nat.zero_le _, Nat.zero_le _⟩ dX12_parseCall_77) hS (xA_le hS) (fun H locs hw hz hk hS => ?_)
    have hw : RX D cA s0 z b q20.2 H := hw
    refine x_istore [(4, .int q20.1), (3, .int q14.1), (0, .ref b), (1, .int x1), (2, .int x2)] C dX12_parseCall_80 (by decide) rfl ?_
    refine x_aload_n C dX12_parseCall_82 rfl ?_
    refine x_ldcS (z := z) 435745415543 C hG.2.2.2 xl_X12_140 hw.2.2.2.1 dX12_parseCall_83 (fun ra22 hst23 => ?_)
    refine x_iconst (0 : Int32) C dX12_parseCall_85 rfl ?_
    refine x_sipush (999 : Int32) C dX12_parseCall_86 rfl ?_
    obtain ⟨q24, hq25, hF⟩ := bnd_e hF
    refine x_goM (fun ls h => x_runV (As := [.ref ra22, .int (0 : Int32), .int (999 : Int32)]) [] h C ml_X12_184 (k_X12_numberAfter l D cA s0 z b q20.2 _ hG ra22 435745415543 (0 : Int32) (999 : Int32) q24 hq25) ⟨rfl, rfl, nb rfl, nb rfl⟩ rfl (M_obj hw.2.2.2.2) rfl ⟨rfl, hw, hst23⟩ (nb rfl) ⟨Nat.zero_le _, Nat.zero_le _⟩ dX12_parseCall_89) hS (xA_le hS) (fun H locs hw hz hk hS => ?_)
    have hw : RX D cA s0 z b q24.2 H := hw
    refine x_istore [(5, .int q24.1), (4, .int q20.1), (3, .int q14.1), (0, .ref b), (1, .int x1), (2, .int x2)] C dX12_parseCall_92 (by decide) rfl ?_
    refine x_aload_n C dX12_parseCall_94 rfl ?_
    obtain ⟨q26, hq27, hF⟩ := bnd_e hF
    have hq27 := Option.some.inj hq27
    have K28 := c_X12_good l D cA s0 b q24.2 
    rw [hq27] at K28
    refine x_goR (fun ls h => x_runV (As := []) [] h C ml_X12_73 K28 ⟨rfl, rfl, nb rfl, nb rfl⟩ rfl (M_obj hw.2.2.2.2) rfl hw.2.2.2.2 (nb rfl) ⟨Nat.zero_le _, Nat.zero_le _⟩ dX12_parseCall_95) ?_
    refine x_ifB_ne 102 C dX12_parseCall_98 (by decide) (fun c29 => ?_) (fun c29 => ?_)
    · have hF := ite_t hF c29
      refine x_aload_n C dX12_parseCall_102 rfl ?_
      refine x_iload_n C dX12_parseCall_103 rfl ?_
      refine x_iload_n C dX12_parseCall_104 rfl ?_
      refine x_iload_n C dX12_parseCall_105 rfl ?_
      refine x_iload C dX12_parseCall_106 rfl ?_
      refine x_iload C dX12_parseCall_108 rfl ?_
      obtain ⟨q30, hq31, hF⟩ := bnd_e hF
      refine x_goM (fun ls h => x_runV (As := [.int x1, .int x2, .int q14.1, .int q20.1, .int q24.1]) [] h C ml_X12_200 (k_X12_layCall l D cA s0 z b q24.2 _ hG x1 x2 q14.1 q20.1 q24.1 q30 hq31) ⟨rfl, rfl, nb rfl, nb rfl⟩ rfl (M_obj hw.2.2.2.2) rfl ⟨rfl, hw⟩ (nb rfl) ⟨Nat.zero_le _, Nat.zero_le _⟩ dX12_parseCall_110) hS (xA_le hS) (fun H locs hw hz hk hS => ?_)
      have hw : RX D cA s0 z b q30 H := hw
      refine x_aload_n C dX12_parseCall_113 rfl ?_
      obtain ⟨h32, hF⟩ := asr_e hF
      refine x_get (.ref (b + q30.2.2 0 3)) C fl_X12_24 (M_obj hw.2.2.2.2) rfl dX12_parseCall_114 ?_
      refine x_iconst (1 : Int32) C dX12_parseCall_117 rfl ?_
      refine x_dup2_11 C dX12_parseCall_118 rfl rfl ?_
      refine x_ialdN C (M_row h32 hw.2.2.2.2) (ixl (x := (1 : Int32)) 1 rfl) (by decide) (by decide) dX12_parseCall_119 ?_
      refine x_iconst (1 : Int32) C dX12_parseCall_120 rfl ?_
      refine x_iadd C dX12_parseCall_121 ?_
      refine m_iastRow h32 C hw (ixl (x := (1 : Int32)) 1 rfl) (by decide) dX12_parseCall_122 hS (fun H locs hw hS => ?_)
      obtain ⟨μ33, hm34, hF⟩ := bnd_e hF
      have hw : RX D cA s0 z b μ33 H := rv_m (W := fun m => RX D cA s0 z b m _) hm34 hw
      exact x_vretM2 C rfl dX12_parseCall_123 rfl (rv_m (W := fun m => RX D cA s0 z b m _) hF hw) hS (nb rfl) (nb rfl)
    · have hF := ite_f hF (nbt c29)
      exact x_vretM2 C rfl dX12_parseCall_101 rfl (rv_m (W := fun m => RX D cA s0 z b m _) hF hw) hS (nb rfl) (nb rfl)
  have h_J41 : ∀ (μ0 : Mm) (x1 : Int32) (y0 : Int32) (H : Heap) (locs : List Loc) (hw : RX D cA s0 z b μ0 H) (hS : va_S (xA b 8 s.heap.size) s.heap H locs), g_X12_parseCall_J41 ν μ0 x1 y0 = some r → xW p l e { frames := 8, cells := 0, slots := 0, locals := 173 } s m args below meth c 6 (MQ below (xQm none (fun H => RX D cA s0 z b r H) (xA b 8 s.heap.size)) args s 0 0 (xA b 8 s.heap.size)) H locs 0 0 41 [(0, .ref b), (1, .int x1)] [.int y0] := by
    intro μ0 x1 y0 H locs hw hS hF
    refine x_istore_n [(2, .int y0), (0, .ref b), (1, .int x1)] C dX12_parseCall_41 rfl (by decide) rfl ?_
    refine x_iload_n C dX12_parseCall_42 rfl ?_
    refine x_iconst (-1 : Int32) C dX12_parseCall_43 rfl ?_
    refine x_icmp_ne 52 C dX12_parseCall_44 (by decide) (fun c11 => ?_) (fun c11 => ?_)
    · have hF := ite_f hF c11
      refine x_sub [(0, .ref b), (1, .int x1), (2, .int y0)] [1, 2, 0] rfl ?_
      exact h_J52 μ0 x1 y0 _ _ hw hS hF
    · have hF := ite_t hF c11
      refine x_aload_n C dX12_parseCall_47 rfl ?_
      refine x_iconst (3 : Int32) C dX12_parseCall_48 rfl ?_
      obtain ⟨q35, hq36, hF⟩ := bnd_e hF
      refine x_goM (fun ls h => x_runV (As := [.int (3 : Int32)]) [] h C ml_X12_161 (k_X12_errs l D cA s0 z b μ0 _ hG (3 : Int32) q35 hq36) ⟨rfl, rfl, nb rfl, nb rfl⟩ rfl (M_obj hw.2.2.2.2) rfl ⟨rfl, hw⟩ (nb rfl) ⟨Nat.zero_le _, Nat.zero_le _⟩ dX12_parseCall_49) hS (xA_le hS) (fun H locs hw hz hk hS => ?_)
      have hw : RX D cA s0 z b q35 H := hw
      refine x_sub [(0, .ref b), (1, .int x1), (2, .int y0)] [1, 2, 0] rfl ?_
      exact h_J52 q35 x1 y0 _ _ hw hS hF
  have h_J18 : ∀ (μ0 : Mm) (x1 : Int32) (H : Heap) (locs : List Loc) (hw : RX D cA s0 z b μ0 H) (hS : va_S (xA b 8 s.heap.size) s.heap H locs), g_X12_parseCall_J18 ν μ0 x1 = some r → xW p l e { frames := 8, cells := 0, slots := 0, locals := 173 } s m args below meth c 6 (MQ below (xQm none (fun H => RX D cA s0 z b r H) (xA b 8 s.heap.size)) args s 0 0 (xA b 8 s.heap.size)) H locs 0 0 18 [(0, .ref b), (1, .int x1)] [] := by
    intro μ0 x1 H locs hw hS hF
    refine x_aload_n C dX12_parseCall_18 rfl ?_
    obtain ⟨q3, hq4, hF⟩ := bnd_e hF
    refine x_goM (fun ls h => x_runV (As := []) [] h C ml_X12_164 (k_X12_goOn l D cA s0 z b μ0 _ hG q3 hq4) ⟨rfl, rfl, nb rfl, nb rfl⟩ rfl (M_obj hw.2.2.2.2) rfl ⟨rfl, hw⟩ (nb rfl) ⟨Nat.zero_le _, Nat.zero_le _⟩ dX12_parseCall_19) hS (xA_le hS) (fun H locs hw hz hk hS => ?_)
    have hw : RX D cA s0 z b q3 H := hw
    refine x_aload_n C dX12_parseCall_22 rfl ?_
    obtain ⟨q5, hq6, hF⟩ := bnd_e hF
    refine x_goM (fun ls h => x_runV (As := []) [] h C ml_X12_194 (k_X12_checkName l D cA s0 z b q3 _ hG q5 hq6) ⟨rfl, rfl, nb rfl, nb rfl⟩ rfl (M_obj hw.2.2.2.2) rfl ⟨rfl, hw⟩ (nb rfl) ⟨Nat.zero_le _, Nat.zero_le _⟩ dX12_parseCall_23) hS (xA_le hS) (fun H locs hw hz hk hS => ?_)
    have hw : RX D cA s0 z b q5 H := hw
    refine x_aload_n C dX12_parseCall_26 rfl ?_
    obtain ⟨q7, hq8, hF⟩ := bnd_e hF
    have hq8 := Option.some.inj hq8
    have K9 := c_X12_good l D cA s0 b q5 
    rw [hq8] at K9
    refine x_goR (fun ls h => x_runV (As := []) [] h C ml_X12_73 K9 ⟨rfl, rfl, nb rfl, nb rfl⟩ rfl (M_obj hw.2.2.2.2) rfl hw.2.2.2.2 (nb rfl) ⟨Nat.zero_le _, Nat.zero_le _⟩ dX12_parseCall_27) ?_
    refine x_ifB_eq 40 C dX12_parseCall_30 (by decide) (fun c10 => ?_) (fun c10 => ?_)
    · have hF := ite_f hF (nbt c10)
      refine x_iconst (-1 : Int32) C dX12_parseCall_40 rfl ?_
      exact h_J41 q5 x1 (-1 : Int32) _ _ hw hS hF
    · have hF := ite_t hF c10
      refine x_aload_n C dX12_parseCall_33 rfl ?_
      obtain ⟨q37, hq38, hF⟩ := bnd_e hF
      refine x_goR (fun ls h => x_runV (As := []) [] h C ml_X12_197 (k_X12_named l D cA s0 z b q5 hG q37 hq38) ⟨rfl, rfl, nb rfl, nb rfl⟩ rfl (M_obj hw.2.2.2.2) rfl hw (nb rfl) ⟨Nat.zero_le _, Nat.zero_le _⟩ dX12_parseCall_34) ?_
      refine x_goto 41 C dX12_parseCall_37 (by decide) ?_
      exact h_J41 q5 x1 q37 _ _ hw hS hF
  refine x_aload_n C dX12_parseCall_0 rfl ?_
  obtain ⟨h1, hF⟩ := asr_e hF
  refine x_get (.ref (b + ν.2.2 0 3)) C fl_X12_24 (M_obj hw.2.2.2.2) rfl dX12_parseCall_1 ?_
  refine x_iconst (1 : Int32) C dX12_parseCall_4 rfl ?_
  refine x_ialdN C (M_row h1 hw.2.2.2.2) (ixl (x := (1 : Int32)) 1 rfl) (by decide) (by decide) dX12_parseCall_5 ?_
  refine x_istore_n [(1, .int (ν.1 (ν.2.2 0 3) 1)), (0, .ref b)] C dX12_parseCall_6 rfl (by decide) rfl ?_
  refine x_iload_n C dX12_parseCall_7 rfl ?_
  refine x_bipush (20 : Int32) C dX12_parseCall_8 rfl ?_
  refine x_icmp_ne 18 C dX12_parseCall_10 (by decide) (fun c2 => ?_) (fun c2 => ?_)
  · have hF := ite_f hF c2
    refine x_sub [(0, .ref b), (1, .int (ν.1 (ν.2.2 0 3) 1))] [1, 0] rfl ?_
    exact h_J18 ν (ν.1 (ν.2.2 0 3) 1) _ _ hw hS hF
  · have hF := ite_t hF c2
    refine x_aload_n C dX12_parseCall_13 rfl ?_
    refine x_iconst (4 : Int32) C dX12_parseCall_14 rfl ?_
    obtain ⟨q39, hq40, hF⟩ := bnd_e hF
    refine x_goM (fun ls h => x_runV (As := [.int (4 : Int32)]) [] h C ml_X12_161 (k_X12_errs l D cA s0 z b ν _ hG (4 : Int32) q39 hq40) ⟨rfl, rfl, nb rfl, nb rfl⟩ rfl (M_obj hw.2.2.2.2) rfl ⟨rfl, hw⟩ (nb rfl) ⟨Nat.zero_le _, Nat.zero_le _⟩ dX12_parseCall_15) hS (xA_le hS) (fun H locs hw hz hk hS => ?_)
    have hw : RX D cA s0 z b q39 H := hw
    refine x_sub [(0, .ref b), (1, .int (ν.1 (ν.2.2 0 3) 1))] [1, 0] rfl ?_
    exact h_J18 q39 (ν.1 (ν.2.2 0 3) 1) _ _ hw hS hF
noncomputable def g_X12_parseStatement (ν : Mm) : Option (Mm) := bnd (g_X12_isText ν 126879296744563) (fun q3 => (if q3 = true then bnd (g_X12_parseMode ν (0 : Int32)) (fun q73 => bnd (g_X12_semicolon q73) (fun q75 => some q75)) else bnd (g_X12_isText ν 1650551923) (fun q8 => (if q8 = true then bnd (g_X12_parseMode ν (1 : Int32)) (fun q69 => bnd (g_X12_semicolon q69) (fun q71 => some q71)) else bnd (g_X12_isText ν 1684955490) (fun q13 => (if q13 = true then bnd (g_X12_parseBand ν) (fun q65 => bnd (g_X12_semicolon q65) (fun q67 => some q67)) else bnd (g_X12_isText ν 111550524450162) (fun q18 => (if q18 = true then bnd (g_X12_parseRebate ν) (fun q61 => bnd (g_X12_semicolon q61) (fun q63 => some q63)) else bnd (g_X12_isText ν 435745415543) (fun q23 => (if q23 = true then bnd (g_X12_parseWaste ν) (fun q57 => bnd (g_X12_semicolon q57) (fun q59 => some q59)) else bnd (g_X12_isText ν 7954796) (fun q28 => (if q28 = true then bnd (g_X12_parseLay ν) (fun q53 => bnd (g_X12_semicolon q53) (fun q55 => some q55)) else bnd (g_X12_isText ν 1885956211) (fun q33 => (if q33 = true then bnd (g_X12_parseShip ν) (fun q49 => bnd (g_X12_semicolon q49) (fun q51 => some q51)) else bnd (g_X12_isText ν 1819042147) (fun q38 => (if q38 = true then bnd (g_X12_parseCall ν) (fun q45 => bnd (g_X12_semicolon q45) (fun q47 => some q47)) else bnd (g_X12_errs ν (1 : Int32)) (fun q41 => bnd (g_X12_semicolon q41) (fun q43 => some q43))))))))))))))))))
set_option maxRecDepth 20000 in
set_option maxHeartbeats 4000000 in
theorem k_X12_parseStatement (l : Launch) (D : va_G) (cA : Nat → ClassId) (s0 : State) (z : Nat) (b : Nat) (ν : Mm) (sz : Nat) (hG : xG l D cA s0) (r : Mm) (hF : g_X12_parseStatement ν = some r) : Met l yX12_parseStatement (wsG yX12_parseStatement cX12_parseStatement 1 none) { frames := 9, cells := 0, slots := 0, locals := 198 } (xP D cA s0 [.ref b] (fun H => H.size = sz ∧ RX D cA s0 z b ν H)) (xQm none (fun H => RX D cA s0 z b r H) (xA b 8 sz)) 0 0 (xA b 8 sz) := by
  refine x_start (own := RX12) [(0, .ref b)] rfl rfl (by decide) (nb rfl) ?_
  intro p e s m args below meth c C hw
  obtain ⟨hsz, hw⟩ := hw
  subst hsz
  have hS : va_S (xA b 8 s.heap.size) s.heap s.heap [] := va_S.rf
  refine x_aload_n C dX12_parseStatement_0 rfl ?_
  refine x_ldcS (z := z) 126879296744563 C hG.2.2.2 xl_X12_128 hw.2.2.2.1 dX12_parseStatement_1 (fun ra1 hst2 => ?_)
  obtain ⟨q3, hq4, hF⟩ := bnd_e hF
  refine x_goR (fun ls h => x_runV (As := [.ref ra1]) [] h C ml_X12_158 (k_X12_isText l D cA s0 z b ν hG ra1 126879296744563 q3 hq4) ⟨rfl, rfl, nb rfl, nb rfl⟩ rfl (M_obj hw.2.2.2.2) rfl ⟨hw, hst2⟩ (nb rfl) ⟨Nat.zero_le _, Nat.zero_le _⟩ dX12_parseStatement_3) ?_
  refine x_ifB_eq 17 C dX12_parseStatement_6 (by decide) (fun c5 => ?_) (fun c5 => ?_)
  · have hF := ite_f hF (nbt c5)
    refine x_aload_n C dX12_parseStatement_17 rfl ?_
    refine x_ldcS (z := z) 1650551923 C hG.2.2.2 xl_X12_130 hw.2.2.2.1 dX12_parseStatement_18 (fun ra6 hst7 => ?_)
    obtain ⟨q8, hq9, hF⟩ := bnd_e hF
    refine x_goR (fun ls h => x_runV (As := [.ref ra6]) [] h C ml_X12_158 (k_X12_isText l D cA s0 z b ν hG ra6 1650551923 q8 hq9) ⟨rfl, rfl, nb rfl, nb rfl⟩ rfl (M_obj hw.2.2.2.2) rfl ⟨hw, hst7⟩ (nb rfl) ⟨Nat.zero_le _, Nat.zero_le _⟩ dX12_parseStatement_20) ?_
    refine x_ifB_eq 34 C dX12_parseStatement_23 (by decide) (fun c10 => ?_) (fun c10 => ?_)
    · have hF := ite_f hF (nbt c10)
      refine x_aload_n C dX12_parseStatement_34 rfl ?_
      refine x_ldcS (z := z) 1684955490 C hG.2.2.2 xl_X12_132 hw.2.2.2.1 dX12_parseStatement_35 (fun ra11 hst12 => ?_)
      obtain ⟨q13, hq14, hF⟩ := bnd_e hF
      refine x_goR (fun ls h => x_runV (As := [.ref ra11]) [] h C ml_X12_158 (k_X12_isText l D cA s0 z b ν hG ra11 1684955490 q13 hq14) ⟨rfl, rfl, nb rfl, nb rfl⟩ rfl (M_obj hw.2.2.2.2) rfl ⟨hw, hst12⟩ (nb rfl) ⟨Nat.zero_le _, Nat.zero_le _⟩ dX12_parseStatement_37) ?_
      refine x_ifB_eq 50 C dX12_parseStatement_40 (by decide) (fun c15 => ?_) (fun c15 => ?_)
      · have hF := ite_f hF (nbt c15)
        refine x_aload_n C dX12_parseStatement_50 rfl ?_
        refine x_ldcS (z := z) 111550524450162 C hG.2.2.2 xl_X12_136 hw.2.2.2.1 dX12_parseStatement_51 (fun ra16 hst17 => ?_)
        obtain ⟨q18, hq19, hF⟩ := bnd_e hF
        refine x_goR (fun ls h => x_runV (As := [.ref ra16]) [] h C ml_X12_158 (k_X12_isText l D cA s0 z b ν hG ra16 111550524450162 q18 hq19) ⟨rfl, rfl, nb rfl, nb rfl⟩ rfl (M_obj hw.2.2.2.2) rfl ⟨hw, hst17⟩ (nb rfl) ⟨Nat.zero_le _, Nat.zero_le _⟩ dX12_parseStatement_53) ?_
        refine x_ifB_eq 66 C dX12_parseStatement_56 (by decide) (fun c20 => ?_) (fun c20 => ?_)
        · have hF := ite_f hF (nbt c20)
          refine x_aload_n C dX12_parseStatement_66 rfl ?_
          refine x_ldcS (z := z) 435745415543 C hG.2.2.2 xl_X12_140 hw.2.2.2.1 dX12_parseStatement_67 (fun ra21 hst22 => ?_)
          obtain ⟨q23, hq24, hF⟩ := bnd_e hF
          refine x_goR (fun ls h => x_runV (As := [.ref ra21]) [] h C ml_X12_158 (k_X12_isText l D cA s0 z b ν hG ra21 435745415543 q23 hq24) ⟨rfl, rfl, nb rfl, nb rfl⟩ rfl (M_obj hw.2.2.2.2) rfl ⟨hw, hst22⟩ (nb rfl) ⟨Nat.zero_le _, Nat.zero_le _⟩ dX12_parseStatement_69) ?_
          refine x_ifB_eq 82 C dX12_parseStatement_72 (by decide) (fun c25 => ?_) (fun c25 => ?_)
          · have hF := ite_f hF (nbt c25)
            refine x_aload_n C dX12_parseStatement_82 rfl ?_
            refine x_ldcS (z := z) 7954796 C hG.2.2.2 xl_X12_148 hw.2.2.2.1 dX12_parseStatement_83 (fun ra26 hst27 => ?_)
            obtain ⟨q28, hq29, hF⟩ := bnd_e hF
            refine x_goR (fun ls h => x_runV (As := [.ref ra26]) [] h C ml_X12_158 (k_X12_isText l D cA s0 z b ν hG ra26 7954796 q28 hq29) ⟨rfl, rfl, nb rfl, nb rfl⟩ rfl (M_obj hw.2.2.2.2) rfl ⟨hw, hst27⟩ (nb rfl) ⟨Nat.zero_le _, Nat.zero_le _⟩ dX12_parseStatement_85) ?_
            refine x_ifB_eq 98 C dX12_parseStatement_88 (by decide) (fun c30 => ?_) (fun c30 => ?_)
            · have hF := ite_f hF (nbt c30)
              refine x_aload_n C dX12_parseStatement_98 rfl ?_
              refine x_ldcS (z := z) 1885956211 C hG.2.2.2 xl_X12_150 hw.2.2.2.1 dX12_parseStatement_99 (fun ra31 hst32 => ?_)
              obtain ⟨q33, hq34, hF⟩ := bnd_e hF
              refine x_goR (fun ls h => x_runV (As := [.ref ra31]) [] h C ml_X12_158 (k_X12_isText l D cA s0 z b ν hG ra31 1885956211 q33 hq34) ⟨rfl, rfl, nb rfl, nb rfl⟩ rfl (M_obj hw.2.2.2.2) rfl ⟨hw, hst32⟩ (nb rfl) ⟨Nat.zero_le _, Nat.zero_le _⟩ dX12_parseStatement_101) ?_
              refine x_ifB_eq 114 C dX12_parseStatement_104 (by decide) (fun c35 => ?_) (fun c35 => ?_)
              · have hF := ite_f hF (nbt c35)
                refine x_aload_n C dX12_parseStatement_114 rfl ?_
                refine x_ldcS (z := z) 1819042147 C hG.2.2.2 xl_X12_154 hw.2.2.2.1 dX12_parseStatement_115 (fun ra36 hst37 => ?_)
                obtain ⟨q38, hq39, hF⟩ := bnd_e hF
                refine x_goR (fun ls h => x_runV (As := [.ref ra36]) [] h C ml_X12_158 (k_X12_isText l D cA s0 z b ν hG ra36 1819042147 q38 hq39) ⟨rfl, rfl, nb rfl, nb rfl⟩ rfl (M_obj hw.2.2.2.2) rfl ⟨hw, hst37⟩ (nb rfl) ⟨Nat.zero_le _, Nat.zero_le _⟩ dX12_parseStatement_117) ?_
                refine x_ifB_eq 130 C dX12_parseStatement_120 (by decide) (fun c40 => ?_) (fun c40 => ?_)
                · have hF := ite_f hF (nbt c40)
                  refine x_aload_n C dX12_parseStatement_130 rfl ?_
                  refine x_iconst (1 : Int32) C dX12_parseStatement_131 rfl ?_
                  obtain ⟨q41, hq42, hF⟩ := bnd_e hF
                  refine x_goM (fun ls h => x_runV (As := [.int (1 : Int32)]) [] h C ml_X12_161 (k_X12_errs l D cA s0 z b ν _ hG (1 : Int32) q41 hq42) ⟨rfl, rfl, nb rfl, nb rfl⟩ rfl (M_obj hw.2.2.2.2) rfl ⟨rfl, hw⟩ (nb rfl) ⟨Nat.zero_le _, Nat.zero_le _⟩ dX12_parseStatement_132) hS (xA_le hS) (fun H locs hw hz hk hS => ?_)
                  have hw : RX D cA s0 z b q41 H := hw
                  refine x_aload_n C dX12_parseStatement_135 rfl ?_
                  obtain ⟨q43, hq44, hF⟩ := bnd_e hF
                  refine x_goM (fun ls h => x_runV (As := []) [] h C ml_X12_225 (k_X12_semicolon l D cA s0 z b q41 _ hG q43 hq44) ⟨rfl, rfl, nb rfl, nb rfl⟩ rfl (M_obj hw.2.2.2.2) rfl ⟨rfl, hw⟩ (nb rfl) ⟨Nat.zero_le _, Nat.zero_le _⟩ dX12_parseStatement_136) hS (xA_le hS) (fun H locs hw hz hk hS => ?_)
                  have hw : RX D cA s0 z b q43 H := hw
                  exact x_vretM2 C rfl dX12_parseStatement_139 rfl (rv_m (W := fun m => RX D cA s0 z b m _) hF hw) hS (nb rfl) (nb rfl)
                · have hF := ite_t hF c40
                  refine x_aload_n C dX12_parseStatement_123 rfl ?_
                  obtain ⟨q45, hq46, hF⟩ := bnd_e hF
                  refine x_goM (fun ls h => x_runV (As := []) [] h C ml_X12_222 (k_X12_parseCall l D cA s0 z b ν _ hG q45 hq46) ⟨rfl, rfl, nb rfl, nb rfl⟩ rfl (M_obj hw.2.2.2.2) rfl ⟨rfl, hw⟩ (nb rfl) ⟨Nat.zero_le _, Nat.zero_le _⟩ dX12_parseStatement_124) hS (xA_le hS) (fun H locs hw hz hk hS => ?_)
                  have hw : RX D cA s0 z b q45 H := hw
                  refine x_goto 135 C dX12_parseStatement_127 (by decide) ?_
                  refine x_aload_n C dX12_parseStatement_135 rfl ?_
                  obtain ⟨q47, hq48, hF⟩ := bnd_e hF
                  refine x_goM (fun ls h => x_runV (As := []) [] h C ml_X12_225 (k_X12_semicolon l D cA s0 z b q45 _ hG q47 hq48) ⟨rfl, rfl, nb rfl, nb rfl⟩ rfl (M_obj hw.2.2.2.2) rfl ⟨rfl, hw⟩ (nb rfl) ⟨Nat.zero_le _, Nat.zero_le _⟩ dX12_parseStatement_136) hS (xA_le hS) (fun H locs hw hz hk hS => ?_)
                  have hw : RX D cA s0 z b q47 H := hw
                  exact x_vretM2 C rfl dX12_parseStatement_139 rfl (rv_m (W := fun m => RX D cA s0 z b m _) hF hw) hS (nb rfl) (nb rfl)
              · have hF := ite_t hF c35
                refine x_aload_n C dX12_parseStatement_107 rfl ?_
                obtain ⟨q49, hq50, hF⟩ := bnd_e hF
                refine x_goM (fun ls h => x_runV (As := []) [] h C ml_X12_219 (k_X12_parseShip l D cA s0 z b ν _ hG q49 hq50) ⟨rfl, rfl, nb rfl, nb rfl⟩ rfl (M_obj hw.2.2.2.2) rfl ⟨rfl, hw⟩ (nb rfl) ⟨Nat.zero_le _, Nat.zero_le _⟩ dX12_parseStatement_108) hS (xA_le hS) (fun H locs hw hz hk hS => ?_)
                have hw : RX D cA s0 z b q49 H := hw
                refine x_goto 135 C dX12_parseStatement_111 (by decide) ?_
                refine x_aload_n C dX12_parseStatement_135 rfl ?_
                obtain ⟨q51, hq52, hF⟩ := bnd_e hF
                refine x_goM (fun ls h => x_runV (As := []) [] h C ml_X12_225 (k_X12_semicolon l D cA s0 z b q49 _ hG q51 hq52) ⟨rfl, rfl, nb rfl, nb rfl⟩ rfl (M_obj hw.2.2.2.2) rfl ⟨rfl, hw⟩ (nb rfl) ⟨Nat.zero_le _, Nat.zero_le _⟩ dX12_parseStatement_136) hS (xA_le hS) (fun H locs hw hz hk hS => ?_)
                have hw : RX D cA s0 z b q51 H := hw
                exact x_vretM2 C rfl dX12_parseStatement_139 rfl (rv_m (W := fun m => RX D cA s0 z b m _) hF hw) hS (nb rfl) (nb rfl)
            · have hF := ite_t hF c30
              refine x_aload_n C dX12_parseStatement_91 rfl ?_
              obtain ⟨q53, hq54, hF⟩ := bnd_e hF
              refine x_goM (fun ls h => x_runV (As := []) [] h C ml_X12_216 (k_X12_parseLay l D cA s0 z b ν _ hG q53 hq54) ⟨rfl, rfl, nb rfl, nb rfl⟩ rfl (M_obj hw.2.2.2.2) rfl ⟨rfl, hw⟩ (nb rfl) ⟨Nat.zero_le _, Nat.zero_le _⟩ dX12_parseStatement_92) hS (xA_le hS) (fun H locs hw hz hk hS => ?_)
              have hw : RX D cA s0 z b q53 H := hw
              refine x_goto 135 C dX12_parseStatement_95 (by decide) ?_
              refine x_aload_n C dX12_parseStatement_135 rfl ?_
              obtain ⟨q55, hq56, hF⟩ := bnd_e hF
              refine x_goM (fun ls h => x_runV (As := []) [] h C ml_X12_225 (k_X12_semicolon l D cA s0 z b q53 _ hG q55 hq56) ⟨rfl, rfl, nb rfl, nb rfl⟩ rfl (M_obj hw.2.2.2.2) rfl ⟨rfl, hw⟩ (nb rfl) ⟨Nat.zero_le _, Nat.zero_le _⟩ dX12_parseStatement_136) hS (xA_le hS) (fun H locs hw hz hk hS => ?_)
              have hw : RX D cA s0 z b q55 H := hw
              exact x_vretM2 C rfl dX12_parseStatement_139 rfl (rv_m (W := fun m => RX D cA s0 z b m _) hF hw) hS (nb rfl) (nb rfl)
          · have hF := ite_t hF c25
            refine x_aload_n C dX12_parseStatement_75 rfl ?_
            obtain ⟨q57, hq58, hF⟩ := bnd_e hF
            refine x_goM (fun ls h => x_runV (As := []) [] h C ml_X12_213 (k_X12_parseWaste l D cA s0 z b ν _ hG q57 hq58) ⟨rfl, rfl, nb rfl, nb rfl⟩ rfl (M_obj hw.2.2.2.2) rfl ⟨rfl, hw⟩ (nb rfl) ⟨Nat.zero_le _, Nat.zero_le _⟩ dX12_parseStatement_76) hS (xA_le hS) (fun H locs hw hz hk hS => ?_)
            have hw : RX D cA s0 z b q57 H := hw
            refine x_goto 135 C dX12_parseStatement_79 (by decide) ?_
            refine x_aload_n C dX12_parseStatement_135 rfl ?_
            obtain ⟨q59, hq60, hF⟩ := bnd_e hF
            refine x_goM (fun ls h => x_runV (As := []) [] h C ml_X12_225 (k_X12_semicolon l D cA s0 z b q57 _ hG q59 hq60) ⟨rfl, rfl, nb rfl, nb rfl⟩ rfl (M_obj hw.2.2.2.2) rfl ⟨rfl, hw⟩ (nb rfl) ⟨Nat.zero_le _, Nat.zero_le _⟩ dX12_parseStatement_136) hS (xA_le hS) (fun H locs hw hz hk hS => ?_)
            have hw : RX D cA s0 z b q59 H := hw
            exact x_vretM2 C rfl dX12_parseStatement_139 rfl (rv_m (W := fun m => RX D cA s0 z b m _) hF hw) hS (nb rfl) (nb rfl)
        · have hF := ite_t hF c20
          refine x_aload_n C dX12_parseStatement_59 rfl ?_
          obtain ⟨q61, hq62, hF⟩ := bnd_e hF
          refine x_goM (fun ls h => x_runV (As := []) [] h C ml_X12_210 (k_X12_parseRebate l D cA s0 z b ν _ hG q61 hq62) ⟨rfl, rfl, nb rfl, nb rfl⟩ rfl (M_obj hw.2.2.2.2) rfl ⟨rfl, hw⟩ (nb rfl) ⟨Nat.zero_le _, Nat.zero_le _⟩ dX12_parseStatement_60) hS (xA_le hS) (fun H locs hw hz hk hS => ?_)
          have hw : RX D cA s0 z b q61 H := hw
          refine x_goto 135 C dX12_parseStatement_63 (by decide) ?_
          refine x_aload_n C dX12_parseStatement_135 rfl ?_
          obtain ⟨q63, hq64, hF⟩ := bnd_e hF
          refine x_goM (fun ls h => x_runV (As := []) [] h C ml_X12_225 (k_X12_semicolon l D cA s0 z b q61 _ hG q63 hq64) ⟨rfl, rfl, nb rfl, nb rfl⟩ rfl (M_obj hw.2.2.2.2) rfl ⟨rfl, hw⟩ (nb rfl) ⟨Nat.zero_le _, Nat.zero_le _⟩ dX12_parseStatement_136) hS (xA_le hS) (fun H locs hw hz hk hS => ?_)
          have hw : RX D cA s0 z b q63 H := hw
          exact x_vretM2 C rfl dX12_parseStatement_139 rfl (rv_m (W := fun m => RX D cA s0 z b m _) hF hw) hS (nb rfl) (nb rfl)
      · have hF := ite_t hF c15
        refine x_aload_n C dX12_parseStatement_43 rfl ?_
        obtain ⟨q65, hq66, hF⟩ := bnd_e hF
        refine x_goM (fun ls h => x_runV (As := []) [] h C ml_X12_207 (k_X12_parseBand l D cA s0 z b ν _ hG q65 hq66) ⟨rfl, rfl, nb rfl, nb rfl⟩ rfl (M_obj hw.2.2.2.2) rfl ⟨rfl, hw⟩ (nb rfl) ⟨Nat.zero_le _, Nat.zero_le _⟩ dX12_parseStatement_44) hS (xA_le hS) (fun H locs hw hz hk hS => ?_)
        have hw : RX D cA s0 z b q65 H := hw
        refine x_goto 135 C dX12_parseStatement_47 (by decide) ?_
        refine x_aload_n C dX12_parseStatement_135 rfl ?_
        obtain ⟨q67, hq68, hF⟩ := bnd_e hF
        refine x_goM (fun ls h => x_runV (As := []) [] h C ml_X12_225 (k_X12_semicolon l D cA s0 z b q65 _ hG q67 hq68) ⟨rfl, rfl, nb rfl, nb rfl⟩ rfl (M_obj hw.2.2.2.2) rfl ⟨rfl, hw⟩ (nb rfl) ⟨Nat.zero_le _, Nat.zero_le _⟩ dX12_parseStatement_136) hS (xA_le hS) (fun H locs hw hz hk hS => ?_)
        have hw : RX D cA s0 z b q67 H := hw
        exact x_vretM2 C rfl dX12_parseStatement_139 rfl (rv_m (W := fun m => RX D cA s0 z b m _) hF hw) hS (nb rfl) (nb rfl)
    · have hF := ite_t hF c10
      refine x_aload_n C dX12_parseStatement_26 rfl ?_
      refine x_iconst (1 : Int32) C dX12_parseStatement_27 rfl ?_
      obtain ⟨q69, hq70, hF⟩ := bnd_e hF
      refine x_goM (fun ls h => x_runV (As := [.int (1 : Int32)]) [] h C ml_X12_204 (k_X12_parseMode l D cA s0 z b ν _ hG (1 : Int32) q69 hq70) ⟨rfl, rfl, nb rfl, nb rfl⟩ rfl (M_obj hw.2.2.2.2) rfl ⟨rfl, hw⟩ (nb rfl) ⟨Nat.zero_le _, Nat.zero_le _⟩ dX12_parseStatement_28) hS (xA_le hS) (fun H locs hw hz hk hS => ?_)
      have hw : RX D cA s0 z b q69 H := hw
      refine x_goto 135 C dX12_parseStatement_31 (by decide) ?_
      refine x_aload_n C dX12_parseStatement_135 rfl ?_
      obtain ⟨q71, hq72, hF⟩ := bnd_e hF
      refine x_goM (fun ls h => x_runV (As := []) [] h C ml_X12_225 (k_X12_semicolon l D cA s0 z b q69 _ hG q71 hq72) ⟨rfl, rfl, nb rfl, nb rfl⟩ rfl (M_obj hw.2.2.2.2) rfl ⟨rfl, hw⟩ (nb rfl) ⟨Nat.zero_le _, Nat.zero_le _⟩ dX12_parseStatement_136) hS (xA_le hS) (fun H locs hw hz hk hS => ?_)
      have hw : RX D cA s0 z b q71 H := hw
      exact x_vretM2 C rfl dX12_parseStatement_139 rfl (rv_m (W := fun m => RX D cA s0 z b m _) hF hw) hS (nb rfl) (nb rfl)
  · have hF := ite_t hF c5
    refine x_aload_n C dX12_parseStatement_9 rfl ?_
    refine x_iconst (0 : Int32) C dX12_parseStatement_10 rfl ?_
    obtain ⟨q73, hq74, hF⟩ := bnd_e hF
    refine x_goM (fun ls h => x_runV (As := [.int (0 : Int32)]) [] h C ml_X12_204 (k_X12_parseMode l D cA s0 z b ν _ hG (0 : Int32) q73 hq74) ⟨rfl, rfl, nb rfl, nb rfl⟩ rfl (M_obj hw.2.2.2.2) rfl ⟨rfl, hw⟩ (nb rfl) ⟨Nat.zero_le _, Nat.zero_le _⟩ dX12_parseStatement_11) hS (xA_le hS) (fun H locs hw hz hk hS => ?_)
    have hw : RX D cA s0 z b q73 H := hw
    refine x_goto 135 C dX12_parseStatement_14 (by decide) ?_
    refine x_aload_n C dX12_parseStatement_135 rfl ?_
    obtain ⟨q75, hq76, hF⟩ := bnd_e hF
    refine x_goM (fun ls h => x_runV (As := []) [] h C ml_X12_225 (k_X12_semicolon l D cA s0 z b q73 _ hG q75 hq76) ⟨rfl, rfl, nb rfl, nb rfl⟩ rfl (M_obj hw.2.2.2.2) rfl ⟨rfl, hw⟩ (nb rfl) ⟨Nat.zero_le _, Nat.zero_le _⟩ dX12_parseStatement_136) hS (xA_le hS) (fun H locs hw hz hk hS => ?_)
    have hw : RX D cA s0 z b q75 H := hw
    exact x_vretM2 C rfl dX12_parseStatement_139 rfl (rv_m (W := fun m => RX D cA s0 z b m _) hF hw) hS (nb rfl) (nb rfl)
