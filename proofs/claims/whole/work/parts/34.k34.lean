noncomputable def g_X7_shipStatement (ν : Mm) : Option (Bool × Mm) := (if (ν.1 326 5) < (8 : Int32) then bnd (g_X7_readToken ν) (fun q2 => bnd (g_X7_tokenIsName q2) (fun q4 => (if q4 = true then bnd (g_X5_shipNamed q2 326 1 (q2.1 645 3) (q2.1 645 4)) (fun q7 => (if q7 = (-1 : Int32) then bnd (g_X7_readToken q2) (fun q10 => bnd (g_X7_word q10 1936617332) (fun q14 => (if q14.1 = true then bnd (g_X7_number q14.2 (1 : Int32) (9999 : Int32)) (fun q17 => (if q17.1 = true then bnd (g_X1_textAt q17.2 1 (q2.1 645 3) (q2.1 645 4)) (fun q20 => bnd (g_X5_newShip q20.2 326 q20.1 (q20.2.1 645 5)) (fun q24 => some (true, q24.2))) else some (false, q17.2))) else some (false, q14.2)))) else bnd (g_X7_fail q2 (3 : Int32)) (fun q26 => some (q26.1, q26.2)))) else bnd (g_X7_fail q2 (1 : Int32)) (fun q28 => some (q28.1, q28.2))))) else bnd (g_X7_fail ν (4 : Int32)) (fun q30 => some (q30.1, q30.2)))
set_option maxRecDepth 20000 in
set_option maxHeartbeats 4000000 in
theorem k_X7_shipStatement (l : Launch) (D : va_G) (cA : Nat → ClassId) (s0 : State) (z : Nat) (b : Nat) (ν : Mm) (sz : Nat) (hG : xG l D cA s0) (r : Bool × Mm) (hF : g_X7_shipStatement ν = some r) : Met l yX7_shipStatement (wsG yX7_shipStatement cX7_shipStatement 3 (some (FieldType.boolean))) { frames := 9, cells := 4, slots := 40, locals := 324 } (xP D cA s0 [.ref (b + 645)] (fun H => H.size = sz ∧ WC D cA s0 z b ν H)) (xQm (some (.int (bI r.1))) (fun H => WC D cA s0 z b r.2 H) (xA b 2564 sz)) 4 40 (xA b 2564 sz) := by
  refine x_start (own := RX7) [(0, .ref (b + 645))] rfl rfl (by decide) (nb rfl) ?_
  intro p e s m args below meth c C hw
  obtain ⟨hsz, hw⟩ := hw
  subst hsz
  have hS : va_S (xA b 2564 s.heap.size) s.heap s.heap [] := va_S.rf
  refine x_aload_n C dX7_shipStatement_0 rfl ?_
  refine x_get (.ref (b + 326)) C fl_X7_19 (C_Par hw) rfl dX7_shipStatement_1 ?_
  refine x_get (.int (ν.1 326 5)) C fl_X7_167 (C_Led led326 hw) rfl dX7_shipStatement_4 ?_
  refine x_bipush (8 : Int32) C dX7_shipStatement_7 rfl ?_
  refine x_icmp_lt 18 C dX7_shipStatement_9 (by decide) (fun c1 => ?_) (fun c1 => ?_)
  · have hF := ite_t hF c1
    refine x_aload_n C dX7_shipStatement_18 rfl ?_
    obtain ⟨q2, hq3, hF⟩ := bnd_e hF
    refine x_goM (fun ls h => x_runV (As := []) [] h C ml_X7_44 (k_X7_readToken l D cA s0 z b ν _ hG q2 hq3) ⟨rfl, rfl, nb rfl, nb rfl⟩ rfl (C_Par hw) rfl ⟨rfl, hw⟩ (nb rfl) ⟨Nat.zero_le _, Nat.zero_le _⟩ dX7_shipStatement_19) hS (xA_le hS) (fun H locs hw hz hk hS => ?_)
    have hw : WC D cA s0 z b q2 H := hw
    refine x_aload_n C dX7_shipStatement_22 rfl ?_
    obtain ⟨q4, hq5, hF⟩ := bnd_e hF
    refine x_goR (fun ls h => x_runV (As := []) [] h C ml_X7_170 (k_X7_tokenIsName l D cA s0 z b q2 hG q4 hq5) ⟨rfl, rfl, nb rfl, nb rfl⟩ rfl (C_Par hw) rfl hw (nb rfl) ⟨Nat.zero_le _, Nat.zero_le _⟩ dX7_shipStatement_23) ?_
    refine x_ifB_ne 35 C dX7_shipStatement_26 (by decide) (fun c6 => ?_) (fun c6 => ?_)
    · have hF := ite_t hF c6
      refine x_aload_n C dX7_shipStatement_35 rfl ?_
      refine x_get (.ref (b + 326)) C fl_X7_19 (C_Par hw) rfl dX7_shipStatement_36 ?_
      refine x_aload_n C dX7_shipStatement_39 rfl ?_
      refine x_get (.ref (b + 1)) C fl_X7_15 (C_Par hw) rfl dX7_shipStatement_40 ?_
      refine x_aload_n C dX7_shipStatement_43 rfl ?_
      refine x_get (.int (q2.1 645 3)) C fl_X7_173 (C_Par hw) rfl dX7_shipStatement_44 ?_
      refine x_aload_n C dX7_shipStatement_47 rfl ?_
      refine x_get (.int (q2.1 645 4)) C fl_X7_41 (C_Par hw) rfl dX7_shipStatement_48 ?_
      obtain ⟨q7, hq8, hF⟩ := bnd_e hF
      refine x_goR (fun ls h => x_runV (As := [.ref (b + 1), .int (q2.1 645 3), .int (q2.1 645 4)]) [] h C ml_X7_176 (k_X5_shipNamed l D cA s0 z b q2 hG 326 1 (q2.1 645 3) (q2.1 645 4) q7 hq8) ⟨rfl, rfl, nb rfl, nb rfl⟩ rfl (C_Led led326 hw) rfl hw (nb rfl) ⟨Nat.zero_le _, Nat.zero_le _⟩ dX7_shipStatement_51) ?_
      refine x_iconst (-1 : Int32) C dX7_shipStatement_54 rfl ?_
      refine x_icmp_eq 64 C dX7_shipStatement_55 (by decide) (fun c9 => ?_) (fun c9 => ?_)
      · have hF := ite_t hF c9
        refine x_aload_n C dX7_shipStatement_64 rfl ?_
        refine x_get (.int (q2.1 645 3)) C fl_X7_173 (C_Par hw) rfl dX7_shipStatement_65 ?_
        refine x_istore_n [(1, .int (q2.1 645 3)), (0, .ref (b + 645))] C dX7_shipStatement_68 rfl (by decide) rfl ?_
        refine x_aload_n C dX7_shipStatement_69 rfl ?_
        refine x_get (.int (q2.1 645 4)) C fl_X7_41 (C_Par hw) rfl dX7_shipStatement_70 ?_
        refine x_istore_n [(2, .int (q2.1 645 4)), (1, .int (q2.1 645 3)), (0, .ref (b + 645))] C dX7_shipStatement_73 rfl (by decide) rfl ?_
        refine x_aload_n C dX7_shipStatement_74 rfl ?_
        obtain ⟨q10, hq11, hF⟩ := bnd_e hF
        refine x_goM (fun ls h => x_runV (As := []) [] h C ml_X7_44 (k_X7_readToken l D cA s0 z b q2 _ hG q10 hq11) ⟨rfl, rfl, nb rfl, nb rfl⟩ rfl (C_Par hw) rfl ⟨rfl, hw⟩ (nb rfl) ⟨Nat.zero_le _, Nat.zero_le _⟩ dX7_shipStatement_75) hS (xA_le hS) (fun H locs hw hz hk hS => ?_)
        have hw : WC D cA s0 z b q10 H := hw
        refine x_aload_n C dX7_shipStatement_78 rfl ?_
        refine x_ldcS (z := z) 1936617332 C hG.2.2.2 xl_X7_180 hw.2.2.2.1 dX7_shipStatement_79 (fun ra12 hst13 => ?_)
        obtain ⟨q14, hq15, hF⟩ := bnd_e hF
        refine x_goM (fun ls h => x_runV (As := [.ref ra12]) [] h C ml_X7_129 (k_X7_word l D cA s0 z b q10 _ hG ra12 1936617332 q14 hq15) ⟨rfl, rfl, nb rfl, nb rfl⟩ rfl (C_Par hw) rfl ⟨rfl, hw, hst13⟩ (nb rfl) ⟨Nat.zero_le _, Nat.zero_le _⟩ dX7_shipStatement_81) hS (xA_le hS) (fun H locs hw hz hk hS => ?_)
        have hw : WC D cA s0 z b q14.2 H := hw
        refine x_ifB_eq 98 C dX7_shipStatement_84 (by decide) (fun c16 => ?_) (fun c16 => ?_)
        · have hF := ite_f hF (nbt c16)
          refine x_iconst (0 : Int32) C dX7_shipStatement_98 rfl ?_
          exact x_zretM2 C rfl dX7_shipStatement_99 rfl (rm_b0 hF) (rm_m (W := fun m => WC D cA s0 z b m _) hF hw) hS (nb rfl) (nb rfl)
        · have hF := ite_t hF c16
          refine x_aload_n C dX7_shipStatement_87 rfl ?_
          refine x_iconst (1 : Int32) C dX7_shipStatement_88 rfl ?_
          refine x_sipush (9999 : Int32) C dX7_shipStatement_89 rfl ?_
          obtain ⟨q17, hq18, hF⟩ := bnd_e hF
          refine x_goM (fun ls h => x_runV (As := [.int (1 : Int32), .int (9999 : Int32)]) [] h C ml_X7_120 (k_X7_number l D cA s0 z b q14.2 _ hG (1 : Int32) (9999 : Int32) q17 hq18) ⟨rfl, rfl, nb rfl, nb rfl⟩ rfl (C_Par hw) rfl ⟨rfl, hw⟩ (nb rfl) ⟨Nat.zero_le _, Nat.zero_le _⟩ dX7_shipStatement_92) hS (xA_le hS) (fun H locs hw hz hk hS => ?_)
          have hw : WC D cA s0 z b q17.2 H := hw
          refine x_ifB_ne 100 C dX7_shipStatement_95 (by decide) (fun c19 => ?_) (fun c19 => ?_)
          · have hF := ite_t hF c19
            refine x_aload_n C dX7_shipStatement_100 rfl ?_
            refine x_get (.ref (b + 326)) C fl_X7_19 (C_Par hw) rfl dX7_shipStatement_101 ?_
            refine x_aload_n C dX7_shipStatement_104 rfl ?_
            refine x_get (.ref (b + 1)) C fl_X7_15 (C_Par hw) rfl dX7_shipStatement_105 ?_
            refine x_iload_n C dX7_shipStatement_108 rfl ?_
            refine x_iload_n C dX7_shipStatement_109 rfl ?_
            obtain ⟨q20, hq21, hF⟩ := bnd_e hF
            refine x_goMS (fun ls h => x_runV (As := [.int (q2.1 645 3), .int (q2.1 645 4)]) [.ref (b + 326)] h C ml_X7_182 (k_X1_textAt l D cA s0 z b q17.2 _ hG 1 (q2.1 645 3) (q2.1 645 4) q20 hq21) ⟨rfl, rfl, nb rfl, nb rfl⟩ rfl (C_Byt byt1 hw) rfl ⟨rfl, hw⟩ (nb rfl) ⟨nb rfl, nb rfl⟩ dX7_shipStatement_110) hS (xA_le hS) (fun H locs hw hS ra22 hst23 => ?_)
            refine x_widen (k := 4) (n := 40) (nb rfl) (nb rfl) ?_
            have hw : WC D cA s0 z b q20.2 H := hw
            refine x_aload_n C dX7_shipStatement_113 rfl ?_
            refine x_get (.int (q20.2.1 645 5)) C fl_X7_124 (C_Par hw) rfl dX7_shipStatement_114 ?_
            obtain ⟨q24, hq25, hF⟩ := bnd_e hF
            refine x_goM (fun ls h => x_runV (As := [.ref ra22, .int (q20.2.1 645 5)]) [] h C ml_X7_188 (k_X5_newShip l D cA s0 z b q20.2 _ hG ra22 326 q20.1 (q20.2.1 645 5) q24 hq25) ⟨rfl, rfl, nb rfl, nb rfl⟩ rfl (C_Led led326 hw) rfl ⟨rfl, hw, hst23⟩ (nb rfl) ⟨nb rfl, nb rfl⟩ dX7_shipStatement_117) hS (xA_le hS) (fun H locs hw hz hk hS => ?_)
            have hw : WC D cA s0 z b q24.2 H := hw
            refine x_pop C dX7_shipStatement_120 rfl ?_
            refine x_iconst (1 : Int32) C dX7_shipStatement_121 rfl ?_
            exact x_zretM2 C rfl dX7_shipStatement_122 rfl (rm_b1 hF) (rm_m (W := fun m => WC D cA s0 z b m _) hF hw) hS (nb rfl) (nb rfl)
          · have hF := ite_f hF (nbt c19)
            refine x_iconst (0 : Int32) C dX7_shipStatement_98 rfl ?_
            exact x_zretM2 C rfl dX7_shipStatement_99 rfl (rm_b0 hF) (rm_m (W := fun m => WC D cA s0 z b m _) hF hw) hS (nb rfl) (nb rfl)
      · have hF := ite_f hF c9
        refine x_aload_n C dX7_shipStatement_58 rfl ?_
        refine x_iconst (3 : Int32) C dX7_shipStatement_59 rfl ?_
        obtain ⟨q26, hq27, hF⟩ := bnd_e hF
        refine x_goM (fun ls h => x_runV (As := [.int (3 : Int32)]) [] h C ml_X7_50 (k_X7_fail l D cA s0 z b q2 _ hG (3 : Int32) q26 hq27) ⟨rfl, rfl, nb rfl, nb rfl⟩ rfl (C_Par hw) rfl ⟨rfl, hw⟩ (nb rfl) ⟨Nat.zero_le _, Nat.zero_le _⟩ dX7_shipStatement_60) hS (xA_le hS) (fun H locs hw hz hk hS => ?_)
        have hw : WC D cA s0 z b q26.2 H := hw
        exact x_zretM2 C rfl dX7_shipStatement_63 (bI_nar _) (rm_b hF) (rm_m (W := fun m => WC D cA s0 z b m _) hF hw) hS (nb rfl) (nb rfl)
    · have hF := ite_f hF (nbt c6)
      refine x_aload_n C dX7_shipStatement_29 rfl ?_
      refine x_iconst (1 : Int32) C dX7_shipStatement_30 rfl ?_
      obtain ⟨q28, hq29, hF⟩ := bnd_e hF
      refine x_goM (fun ls h => x_runV (As := [.int (1 : Int32)]) [] h C ml_X7_50 (k_X7_fail l D cA s0 z b q2 _ hG (1 : Int32) q28 hq29) ⟨rfl, rfl, nb rfl, nb rfl⟩ rfl (C_Par hw) rfl ⟨rfl, hw⟩ (nb rfl) ⟨Nat.zero_le _, Nat.zero_le _⟩ dX7_shipStatement_31) hS (xA_le hS) (fun H locs hw hz hk hS => ?_)
      have hw : WC D cA s0 z b q28.2 H := hw
      exact x_zretM2 C rfl dX7_shipStatement_34 (bI_nar _) (rm_b hF) (rm_m (W := fun m => WC D cA s0 z b m _) hF hw) hS (nb rfl) (nb rfl)
  · have hF := ite_f hF c1
    refine x_aload_n C dX7_shipStatement_12 rfl ?_
    refine x_iconst (4 : Int32) C dX7_shipStatement_13 rfl ?_
    obtain ⟨q30, hq31, hF⟩ := bnd_e hF
    refine x_goM (fun ls h => x_runV (As := [.int (4 : Int32)]) [] h C ml_X7_50 (k_X7_fail l D cA s0 z b ν _ hG (4 : Int32) q30 hq31) ⟨rfl, rfl, nb rfl, nb rfl⟩ rfl (C_Par hw) rfl ⟨rfl, hw⟩ (nb rfl) ⟨Nat.zero_le _, Nat.zero_le _⟩ dX7_shipStatement_14) hS (xA_le hS) (fun H locs hw hz hk hS => ?_)
    have hw : WC D cA s0 z b q30.2 H := hw
    exact x_zretM2 C rfl dX7_shipStatement_17 (bI_nar _) (rm_b hF) (rm_m (W := fun m => WC D cA s0 z b m _) hF hw) hS (nb rfl) (nb rfl)
noncomputable def g_X7_callStatement (ν : Mm) : Option (Bool × Mm) := (if (ν.1 326 6) < (20 : Int32) then bnd (g_X7_readToken ν) (fun q2 => bnd (g_X7_tokenIsName q2) (fun q4 => (if q4 = true then bnd (g_X5_shipNamed q2 326 1 (q2.1 645 3) (q2.1 645 4)) (fun q7 => (if q7 = (-1 : Int32) then bnd (g_X7_fail q2 (3 : Int32)) (fun q33 => some (q33.1, q33.2)) else bnd (g_X7_readToken q2) (fun q10 => bnd (g_X7_number q10 (0 : Int32) (3599 : Int32)) (fun q12 => (if q12.1 = true then bnd (g_X7_word q12.2 28532) (fun q17 => (if q17.1 = true then bnd (g_X7_number q17.2 (q12.2.1 645 5) (((q12.2.1 645 5) + (30 : Int32)) - (1 : Int32))) (fun q20 => (if q20.1 = true then bnd (g_X7_word q20.2 435745415543) (fun q25 => (if q25.1 = true then bnd (g_X7_number q25.2 (0 : Int32) (999 : Int32)) (fun q28 => (if q28.1 = true then bnd (g_X5_newCall q28.2 326 q7 (q12.2.1 645 5) (q20.2.1 645 5) (q28.2.1 645 5)) (fun q31 => some (true, q31.2)) else some (false, q28.2))) else some (false, q25.2))) else some (false, q20.2))) else some (false, q17.2))) else some (false, q12.2)))))) else bnd (g_X7_fail q2 (1 : Int32)) (fun q35 => some (q35.1, q35.2))))) else bnd (g_X7_fail ν (4 : Int32)) (fun q37 => some (q37.1, q37.2)))
set_option maxRecDepth 20000 in
set_option maxHeartbeats 4000000 in
theorem k_X7_callStatement (l : Launch) (D : va_G) (cA : Nat → ClassId) (s0 : State) (z : Nat) (b : Nat) (ν : Mm) (sz : Nat) (hG : xG l D cA s0) (r : Bool × Mm) (hF : g_X7_callStatement ν = some r) : Met l yX7_callStatement (wsG yX7_callStatement cX7_callStatement 4 (some (FieldType.boolean))) { frames := 7, cells := 0, slots := 0, locals := 151 } (xP D cA s0 [.ref (b + 645)] (fun H => H.size = sz ∧ WC D cA s0 z b ν H)) (xQm (some (.int (bI r.1))) (fun H => WC D cA s0 z b r.2 H) (xA b 2564 sz)) 0 0 (xA b 2564 sz) := by
  refine x_start (own := RX7) [(0, .ref (b + 645))] rfl rfl (by decide) (nb rfl) ?_
  intro p e s m args below meth c C hw
  obtain ⟨hsz, hw⟩ := hw
  subst hsz
  have hS : va_S (xA b 2564 s.heap.size) s.heap s.heap [] := va_S.rf
  refine x_aload_n C dX7_callStatement_0 rfl ?_
  refine x_get (.ref (b + 326)) C fl_X7_19 (C_Par hw) rfl dX7_callStatement_1 ?_
  refine x_get (.int (ν.1 326 6)) C fl_X7_192 (C_Led led326 hw) rfl dX7_callStatement_4 ?_
  refine x_bipush (20 : Int32) C dX7_callStatement_7 rfl ?_
  refine x_icmp_lt 18 C dX7_callStatement_9 (by decide) (fun c1 => ?_) (fun c1 => ?_)
  · have hF := ite_t hF c1
    refine x_aload_n C dX7_callStatement_18 rfl ?_
    obtain ⟨q2, hq3, hF⟩ := bnd_e hF
    refine x_goM (fun ls h => x_runV (As := []) [] h C ml_X7_44 (k_X7_readToken l D cA s0 z b ν _ hG q2 hq3) ⟨rfl, rfl, nb rfl, nb rfl⟩ rfl (C_Par hw) rfl ⟨rfl, hw⟩ (nb rfl) ⟨Nat.zero_le _, Nat.zero_le _⟩ dX7_callStatement_19) hS (xA_le hS) (fun H locs hw hz hk hS => ?_)
    have hw : WC D cA s0 z b q2 H := hw
    refine x_aload_n C dX7_callStatement_22 rfl ?_
    obtain ⟨q4, hq5, hF⟩ := bnd_e hF
    refine x_goR (fun ls h => x_runV (As := []) [] h C ml_X7_170 (k_X7_tokenIsName l D cA s0 z b q2 hG q4 hq5) ⟨rfl, rfl, nb rfl, nb rfl⟩ rfl (C_Par hw) rfl hw (nb rfl) ⟨Nat.zero_le _, Nat.zero_le _⟩ dX7_callStatement_23) ?_
    refine x_ifB_ne 35 C dX7_callStatement_26 (by decide) (fun c6 => ?_) (fun c6 => ?_)
    · have hF := ite_t hF c6
      refine x_aload_n C dX7_callStatement_35 rfl ?_
      refine x_get (.ref (b + 326)) C fl_X7_19 (C_Par hw) rfl dX7_callStatement_36 ?_
      refine x_aload_n C dX7_callStatement_39 rfl ?_
      refine x_get (.ref (b + 1)) C fl_X7_15 (C_Par hw) rfl dX7_callStatement_40 ?_
      refine x_aload_n C dX7_callStatement_43 rfl ?_
      refine x_get (.int (q2.1 645 3)) C fl_X7_173 (C_Par hw) rfl dX7_callStatement_44 ?_
      refine x_aload_n C dX7_callStatement_47 rfl ?_
      refine x_get (.int (q2.1 645 4)) C fl_X7_41 (C_Par hw) rfl dX7_callStatement_48 ?_
      obtain ⟨q7, hq8, hF⟩ := bnd_e hF
      refine x_goR (fun ls h => x_runV (As := [.ref (b + 1), .int (q2.1 645 3), .int (q2.1 645 4)]) [] h C ml_X7_176 (k_X5_shipNamed l D cA s0 z b q2 hG 326 1 (q2.1 645 3) (q2.1 645 4) q7 hq8) ⟨rfl, rfl, nb rfl, nb rfl⟩ rfl (C_Led led326 hw) rfl hw (nb rfl) ⟨Nat.zero_le _, Nat.zero_le _⟩ dX7_callStatement_51) ?_
      refine x_istore_n [(1, .int q7), (0, .ref (b + 645))] C dX7_callStatement_54 rfl (by decide) rfl ?_
      refine x_iload_n C dX7_callStatement_55 rfl ?_
      refine x_iconst (-1 : Int32) C dX7_callStatement_56 rfl ?_
      refine x_icmp_ne 66 C dX7_callStatement_57 (by decide) (fun c9 => ?_) (fun c9 => ?_)
      · have hF := ite_f hF c9
        refine x_aload_n C dX7_callStatement_66 rfl ?_
        obtain ⟨q10, hq11, hF⟩ := bnd_e hF
        refine x_goM (fun ls h => x_runV (As := []) [] h C ml_X7_44 (k_X7_readToken l D cA s0 z b q2 _ hG q10 hq11) ⟨rfl, rfl, nb rfl, nb rfl⟩ rfl (C_Par hw) rfl ⟨rfl, hw⟩ (nb rfl) ⟨Nat.zero_le _, Nat.zero_le _⟩ dX7_callStatement_67) hS (xA_le hS) (fun H locs hw hz hk hS => ?_)
        have hw : WC D cA s0 z b q10 H := hw
        refine x_aload_n C dX7_callStatement_70 rfl ?_
        refine x_iconst (0 : Int32) C dX7_callStatement_71 rfl ?_
        refine x_sipush (3599 : Int32) C dX7_callStatement_72 rfl ?_
        obtain ⟨q12, hq13, hF⟩ := bnd_e hF
        refine x_goM (fun ls h => x_runV (As := [.int (0 : Int32), .int (3599 : Int32)]) [] h C ml_X7_120 (k_X7_number l D cA s0 z b q10 _ hG (0 : Int32) (3599 : Int32) q12 hq13) ⟨rfl, rfl, nb rfl, nb rfl⟩ rfl (C_Par hw) rfl ⟨rfl, hw⟩ (nb rfl) ⟨Nat.zero_le _, Nat.zero_le _⟩ dX7_callStatement_75) hS (xA_le hS) (fun H locs hw hz hk hS => ?_)
        have hw : WC D cA s0 z b q12.2 H := hw
        refine x_ifB_ne 83 C dX7_callStatement_78 (by decide) (fun c14 => ?_) (fun c14 => ?_)
        · have hF := ite_t hF c14
          refine x_aload_n C dX7_callStatement_83 rfl ?_
          refine x_get (.int (q12.2.1 645 5)) C fl_X7_124 (C_Par hw) rfl dX7_callStatement_84 ?_
          refine x_istore_n [(2, .int (q12.2.1 645 5)), (1, .int q7), (0, .ref (b + 645))] C dX7_callStatement_87 rfl (by decide) rfl ?_
          refine x_aload_n C dX7_callStatement_88 rfl ?_
          refine x_ldcS (z := z) 28532 C hG.2.2.2 xl_X7_195 hw.2.2.2.1 dX7_callStatement_89 (fun ra15 hst16 => ?_)
          obtain ⟨q17, hq18, hF⟩ := bnd_e hF
          refine x_goM (fun ls h => x_runV (As := [.ref ra15]) [] h C ml_X7_129 (k_X7_word l D cA s0 z b q12.2 _ hG ra15 28532 q17 hq18) ⟨rfl, rfl, nb rfl, nb rfl⟩ rfl (C_Par hw) rfl ⟨rfl, hw, hst16⟩ (nb rfl) ⟨Nat.zero_le _, Nat.zero_le _⟩ dX7_callStatement_91) hS (xA_le hS) (fun H locs hw hz hk hS => ?_)
          have hw : WC D cA s0 z b q17.2 H := hw
          refine x_ifB_eq 111 C dX7_callStatement_94 (by decide) (fun c19 => ?_) (fun c19 => ?_)
          · have hF := ite_f hF (nbt c19)
            refine x_iconst (0 : Int32) C dX7_callStatement_111 rfl ?_
            exact x_zretM2 C rfl dX7_callStatement_112 rfl (rm_b0 hF) (rm_m (W := fun m => WC D cA s0 z b m _) hF hw) hS (nb rfl) (nb rfl)
          · have hF := ite_t hF c19
            refine x_aload_n C dX7_callStatement_97 rfl ?_
            refine x_iload_n C dX7_callStatement_98 rfl ?_
            refine x_iload_n C dX7_callStatement_99 rfl ?_
            refine x_bipush (30 : Int32) C dX7_callStatement_100 rfl ?_
            refine x_iadd C dX7_callStatement_102 ?_
            refine x_iconst (1 : Int32) C dX7_callStatement_103 rfl ?_
            refine x_isub C dX7_callStatement_104 ?_
            obtain ⟨q20, hq21, hF⟩ := bnd_e hF
            refine x_goM (fun ls h => x_runV (As := [.int (q12.2.1 645 5), .int (((q12.2.1 645 5) + (30 : Int32)) - (1 : Int32))]) [] h C ml_X7_120 (k_X7_number l D cA s0 z b q17.2 _ hG (q12.2.1 645 5) (((q12.2.1 645 5) + (30 : Int32)) - (1 : Int32)) q20 hq21) ⟨rfl, rfl, nb rfl, nb rfl⟩ rfl (C_Par hw) rfl ⟨rfl, hw⟩ (nb rfl) ⟨Nat.zero_le _, Nat.zero_le _⟩ dX7_callStatement_105) hS (xA_le hS) (fun H locs hw hz hk hS => ?_)
            have hw : WC D cA s0 z b q20.2 H := hw
            refine x_ifB_ne 113 C dX7_callStatement_108 (by decide) (fun c22 => ?_) (fun c22 => ?_)
            · have hF := ite_t hF c22
              refine x_aload_n C dX7_callStatement_113 rfl ?_
              refine x_get (.int (q20.2.1 645 5)) C fl_X7_124 (C_Par hw) rfl dX7_callStatement_114 ?_
              refine x_istore_n [(3, .int (q20.2.1 645 5)), (2, .int (q12.2.1 645 5)), (1, .int q7), (0, .ref (b + 645))] C dX7_callStatement_117 rfl (by decide) rfl ?_
              refine x_aload_n C dX7_callStatement_118 rfl ?_
              refine x_ldcS (z := z) 435745415543 C hG.2.2.2 xl_X7_89 hw.2.2.2.1 dX7_callStatement_119 (fun ra23 hst24 => ?_)
              obtain ⟨q25, hq26, hF⟩ := bnd_e hF
              refine x_goM (fun ls h => x_runV (As := [.ref ra23]) [] h C ml_X7_129 (k_X7_word l D cA s0 z b q20.2 _ hG ra23 435745415543 q25 hq26) ⟨rfl, rfl, nb rfl, nb rfl⟩ rfl (C_Par hw) rfl ⟨rfl, hw, hst24⟩ (nb rfl) ⟨Nat.zero_le _, Nat.zero_le _⟩ dX7_callStatement_121) hS (xA_le hS) (fun H locs hw hz hk hS => ?_)
              have hw : WC D cA s0 z b q25.2 H := hw
              refine x_ifB_eq 138 C dX7_callStatement_124 (by decide) (fun c27 => ?_) (fun c27 => ?_)
              · have hF := ite_f hF (nbt c27)
                refine x_iconst (0 : Int32) C dX7_callStatement_138 rfl ?_
                exact x_zretM2 C rfl dX7_callStatement_139 rfl (rm_b0 hF) (rm_m (W := fun m => WC D cA s0 z b m _) hF hw) hS (nb rfl) (nb rfl)
              · have hF := ite_t hF c27
                refine x_aload_n C dX7_callStatement_127 rfl ?_
                refine x_iconst (0 : Int32) C dX7_callStatement_128 rfl ?_
                refine x_sipush (999 : Int32) C dX7_callStatement_129 rfl ?_
                obtain ⟨q28, hq29, hF⟩ := bnd_e hF
                refine x_goM (fun ls h => x_runV (As := [.int (0 : Int32), .int (999 : Int32)]) [] h C ml_X7_120 (k_X7_number l D cA s0 z b q25.2 _ hG (0 : Int32) (999 : Int32) q28 hq29) ⟨rfl, rfl, nb rfl, nb rfl⟩ rfl (C_Par hw) rfl ⟨rfl, hw⟩ (nb rfl) ⟨Nat.zero_le _, Nat.zero_le _⟩ dX7_callStatement_132) hS (xA_le hS) (fun H locs hw hz hk hS => ?_)
                have hw : WC D cA s0 z b q28.2 H := hw
                refine x_ifB_ne 140 C dX7_callStatement_135 (by decide) (fun c30 => ?_) (fun c30 => ?_)
                · have hF := ite_t hF c30
                  refine x_aload_n C dX7_callStatement_140 rfl ?_
                  refine x_get (.ref (b + 326)) C fl_X7_19 (C_Par hw) rfl dX7_callStatement_141 ?_
                  refine x_iload_n C dX7_callStatement_144 rfl ?_
                  refine x_iload_n C dX7_callStatement_145 rfl ?_
                  refine x_iload_n C dX7_callStatement_146 rfl ?_
                  refine x_aload_n C dX7_callStatement_147 rfl ?_
                  refine x_get (.int (q28.2.1 645 5)) C fl_X7_124 (C_Par hw) rfl dX7_callStatement_148 ?_
                  obtain ⟨q31, hq32, hF⟩ := bnd_e hF
                  refine x_goM (fun ls h => x_runV (As := [.int q7, .int (q12.2.1 645 5), .int (q20.2.1 645 5), .int (q28.2.1 645 5)]) [] h C ml_X7_197 (k_X5_newCall l D cA s0 z b q28.2 _ hG 326 q7 (q12.2.1 645 5) (q20.2.1 645 5) (q28.2.1 645 5) q31 hq32) ⟨rfl, rfl, nb rfl, nb rfl⟩ rfl (C_Led led326 hw) rfl ⟨rfl, hw⟩ (nb rfl) ⟨Nat.zero_le _, Nat.zero_le _⟩ dX7_callStatement_151) hS (xA_le hS) (fun H locs hw hz hk hS => ?_)
                  have hw : WC D cA s0 z b q31.2 H := hw
                  refine x_pop C dX7_callStatement_154 rfl ?_
                  refine x_iconst (1 : Int32) C dX7_callStatement_155 rfl ?_
                  exact x_zretM2 C rfl dX7_callStatement_156 rfl (rm_b1 hF) (rm_m (W := fun m => WC D cA s0 z b m _) hF hw) hS (nb rfl) (nb rfl)
                · have hF := ite_f hF (nbt c30)
                  refine x_iconst (0 : Int32) C dX7_callStatement_138 rfl ?_
                  exact x_zretM2 C rfl dX7_callStatement_139 rfl (rm_b0 hF) (rm_m (W := fun m => WC D cA s0 z b m _) hF hw) hS (nb rfl) (nb rfl)
            · have hF := ite_f hF (nbt c22)
              refine x_iconst (0 : Int32) C dX7_callStatement_111 rfl ?_
              exact x_zretM2 C rfl dX7_callStatement_112 rfl (rm_b0 hF) (rm_m (W := fun m => WC D cA s0 z b m _) hF hw) hS (nb rfl) (nb rfl)
        · have hF := ite_f hF (nbt c14)
          refine x_iconst (0 : Int32) C dX7_callStatement_81 rfl ?_
          exact x_zretM2 C rfl dX7_callStatement_82 rfl (rm_b0 hF) (rm_m (W := fun m => WC D cA s0 z b m _) hF hw) hS (nb rfl) (nb rfl)
      · have hF := ite_t hF c9
        refine x_aload_n C dX7_callStatement_60 rfl ?_
        refine x_iconst (3 : Int32) C dX7_callStatement_61 rfl ?_
        obtain ⟨q33, hq34, hF⟩ := bnd_e hF
        refine x_goM (fun ls h => x_runV (As := [.int (3 : Int32)]) [] h C ml_X7_50 (k_X7_fail l D cA s0 z b q2 _ hG (3 : Int32) q33 hq34) ⟨rfl, rfl, nb rfl, nb rfl⟩ rfl (C_Par hw) rfl ⟨rfl, hw⟩ (nb rfl) ⟨Nat.zero_le _, Nat.zero_le _⟩ dX7_callStatement_62) hS (xA_le hS) (fun H locs hw hz hk hS => ?_)
        have hw : WC D cA s0 z b q33.2 H := hw
        exact x_zretM2 C rfl dX7_callStatement_65 (bI_nar _) (rm_b hF) (rm_m (W := fun m => WC D cA s0 z b m _) hF hw) hS (nb rfl) (nb rfl)
    · have hF := ite_f hF (nbt c6)
      refine x_aload_n C dX7_callStatement_29 rfl ?_
      refine x_iconst (1 : Int32) C dX7_callStatement_30 rfl ?_
      obtain ⟨q35, hq36, hF⟩ := bnd_e hF
      refine x_goM (fun ls h => x_runV (As := [.int (1 : Int32)]) [] h C ml_X7_50 (k_X7_fail l D cA s0 z b q2 _ hG (1 : Int32) q35 hq36) ⟨rfl, rfl, nb rfl, nb rfl⟩ rfl (C_Par hw) rfl ⟨rfl, hw⟩ (nb rfl) ⟨Nat.zero_le _, Nat.zero_le _⟩ dX7_callStatement_31) hS (xA_le hS) (fun H locs hw hz hk hS => ?_)
      have hw : WC D cA s0 z b q35.2 H := hw
      exact x_zretM2 C rfl dX7_callStatement_34 (bI_nar _) (rm_b hF) (rm_m (W := fun m => WC D cA s0 z b m _) hF hw) hS (nb rfl) (nb rfl)
  · have hF := ite_f hF c1
    refine x_aload_n C dX7_callStatement_12 rfl ?_
    refine x_iconst (4 : Int32) C dX7_callStatement_13 rfl ?_
    obtain ⟨q37, hq38, hF⟩ := bnd_e hF
    refine x_goM (fun ls h => x_runV (As := [.int (4 : Int32)]) [] h C ml_X7_50 (k_X7_fail l D cA s0 z b ν _ hG (4 : Int32) q37 hq38) ⟨rfl, rfl, nb rfl, nb rfl⟩ rfl (C_Par hw) rfl ⟨rfl, hw⟩ (nb rfl) ⟨Nat.zero_le _, Nat.zero_le _⟩ dX7_callStatement_14) hS (xA_le hS) (fun H locs hw hz hk hS => ?_)
    have hw : WC D cA s0 z b q37.2 H := hw
    exact x_zretM2 C rfl dX7_callStatement_17 (bI_nar _) (rm_b hF) (rm_m (W := fun m => WC D cA s0 z b m _) hF hw) hS (nb rfl) (nb rfl)
noncomputable def g_X7_statement (ν : Mm) : Option (Bool × Mm) := bnd (g_X7_tokenIs ν 126879296744563) (fun q3 => (if q3 = true then bnd (g_X7_modeStatement ν false) (fun q69 => some (q69.1, q69.2)) else bnd (g_X7_tokenIs ν 1650551923) (fun q8 => (if q8 = true then bnd (g_X7_modeStatement ν true) (fun q67 => some (q67.1, q67.2)) else bnd (g_X7_tokenIs ν 1684955490) (fun q13 => (if q13 = true then bnd (g_X5_present ν 326) (fun q62 => asr (isTar q62) (bnd (g_X7_bandStatement ν q62) (fun q65 => some (q65.1, q65.2)))) else bnd (g_X7_tokenIs ν 111550524450162) (fun q18 => (if q18 = true then bnd (g_X5_present ν 326) (fun q57 => asr (isTar q57) (bnd (g_X7_rebateStatement ν q57) (fun q60 => some (q60.1, q60.2)))) else bnd (g_X7_tokenIs ν 435745415543) (fun q23 => (if q23 = true then bnd (g_X5_present ν 326) (fun q52 => asr (isTar q52) (bnd (g_X7_wasteStatement ν q52) (fun q55 => some (q55.1, q55.2)))) else bnd (g_X7_tokenIs ν 7954796) (fun q28 => (if q28 = true then bnd (g_X5_present ν 326) (fun q47 => asr (isTar q47) (bnd (g_X7_layStatement ν q47) (fun q50 => some (q50.1, q50.2)))) else bnd (g_X7_tokenIs ν 1885956211) (fun q33 => (if q33 = true then bnd (g_X7_shipStatement ν) (fun q45 => some (q45.1, q45.2)) else bnd (g_X7_tokenIs ν 1819042147) (fun q38 => (if q38 = true then bnd (g_X7_callStatement ν) (fun q43 => some (q43.1, q43.2)) else bnd (g_X7_fail ν (1 : Int32)) (fun q41 => some (q41.1, q41.2))))))))))))))))))
set_option maxRecDepth 20000 in
set_option maxHeartbeats 4000000 in
theorem k_X7_statement (l : Launch) (D : va_G) (cA : Nat → ClassId) (s0 : State) (z : Nat) (b : Nat) (ν : Mm) (sz : Nat) (hG : xG l D cA s0) (r : Bool × Mm) (hF : g_X7_statement ν = some r) : Met l yX7_statement (wsG yX7_statement cX7_statement 1 (some (FieldType.boolean))) { frames := 10, cells := 4, slots := 40, locals := 346 } (xP D cA s0 [.ref (b + 645)] (fun H => H.size = sz ∧ WC D cA s0 z b ν H)) (xQm (some (.int (bI r.1))) (fun H => WC D cA s0 z b r.2 H) (xA b 2564 sz)) 4 40 (xA b 2564 sz) := by
  refine x_start (own := RX7) [(0, .ref (b + 645))] rfl rfl (by decide) (nb rfl) ?_
  intro p e s m args below meth c C hw
  obtain ⟨hsz, hw⟩ := hw
  subst hsz
  have hS : va_S (xA b 2564 s.heap.size) s.heap s.heap [] := va_S.rf
  refine x_aload_n C dX7_statement_0 rfl ?_
  refine x_ldcS (z := z) 126879296744563 C hG.2.2.2 xl_X7_62 hw.2.2.2.1 dX7_statement_1 (fun ra1 hst2 => ?_)
  obtain ⟨q3, hq4, hF⟩ := bnd_e hF
  refine x_goR (fun ls h => x_runV (As := [.ref ra1]) [] h C ml_X7_64 (k_X7_tokenIs l D cA s0 z b ν hG ra1 126879296744563 q3 hq4) ⟨rfl, rfl, nb rfl, nb rfl⟩ rfl (C_Par hw) rfl ⟨hw, hst2⟩ (nb rfl) ⟨Nat.zero_le _, Nat.zero_le _⟩ dX7_statement_3) ?_
  refine x_ifB_eq 15 C dX7_statement_6 (by decide) (fun c5 => ?_) (fun c5 => ?_)
  · have hF := ite_f hF (nbt c5)
    refine x_aload_n C dX7_statement_15 rfl ?_
    refine x_ldcS (z := z) 1650551923 C hG.2.2.2 xl_X7_72 hw.2.2.2.1 dX7_statement_16 (fun ra6 hst7 => ?_)
    obtain ⟨q8, hq9, hF⟩ := bnd_e hF
    refine x_goR (fun ls h => x_runV (As := [.ref ra6]) [] h C ml_X7_64 (k_X7_tokenIs l D cA s0 z b ν hG ra6 1650551923 q8 hq9) ⟨rfl, rfl, nb rfl, nb rfl⟩ rfl (C_Par hw) rfl ⟨hw, hst7⟩ (nb rfl) ⟨Nat.zero_le _, Nat.zero_le _⟩ dX7_statement_18) ?_
    refine x_ifB_eq 30 C dX7_statement_21 (by decide) (fun c10 => ?_) (fun c10 => ?_)
    · have hF := ite_f hF (nbt c10)
      refine x_aload_n C dX7_statement_30 rfl ?_
      refine x_ldcS (z := z) 1684955490 C hG.2.2.2 xl_X7_74 hw.2.2.2.1 dX7_statement_31 (fun ra11 hst12 => ?_)
      obtain ⟨q13, hq14, hF⟩ := bnd_e hF
      refine x_goR (fun ls h => x_runV (As := [.ref ra11]) [] h C ml_X7_64 (k_X7_tokenIs l D cA s0 z b ν hG ra11 1684955490 q13 hq14) ⟨rfl, rfl, nb rfl, nb rfl⟩ rfl (C_Par hw) rfl ⟨hw, hst12⟩ (nb rfl) ⟨Nat.zero_le _, Nat.zero_le _⟩ dX7_statement_33) ?_
      refine x_ifB_eq 51 C dX7_statement_36 (by decide) (fun c15 => ?_) (fun c15 => ?_)
      · have hF := ite_f hF (nbt c15)
        refine x_aload_n C dX7_statement_51 rfl ?_
        refine x_ldcS (z := z) 111550524450162 C hG.2.2.2 xl_X7_84 hw.2.2.2.1 dX7_statement_52 (fun ra16 hst17 => ?_)
        obtain ⟨q18, hq19, hF⟩ := bnd_e hF
        refine x_goR (fun ls h => x_runV (As := [.ref ra16]) [] h C ml_X7_64 (k_X7_tokenIs l D cA s0 z b ν hG ra16 111550524450162 q18 hq19) ⟨rfl, rfl, nb rfl, nb rfl⟩ rfl (C_Par hw) rfl ⟨hw, hst17⟩ (nb rfl) ⟨Nat.zero_le _, Nat.zero_le _⟩ dX7_statement_54) ?_
        refine x_ifB_eq 72 C dX7_statement_57 (by decide) (fun c20 => ?_) (fun c20 => ?_)
        · have hF := ite_f hF (nbt c20)
          refine x_aload_n C dX7_statement_72 rfl ?_
          refine x_ldcS (z := z) 435745415543 C hG.2.2.2 xl_X7_89 hw.2.2.2.1 dX7_statement_73 (fun ra21 hst22 => ?_)
          obtain ⟨q23, hq24, hF⟩ := bnd_e hF
          refine x_goR (fun ls h => x_runV (As := [.ref ra21]) [] h C ml_X7_64 (k_X7_tokenIs l D cA s0 z b ν hG ra21 435745415543 q23 hq24) ⟨rfl, rfl, nb rfl, nb rfl⟩ rfl (C_Par hw) rfl ⟨hw, hst22⟩ (nb rfl) ⟨Nat.zero_le _, Nat.zero_le _⟩ dX7_statement_75) ?_
          refine x_ifB_eq 93 C dX7_statement_78 (by decide) (fun c25 => ?_) (fun c25 => ?_)
          · have hF := ite_f hF (nbt c25)
            refine x_aload_n C dX7_statement_93 rfl ?_
            refine x_ldcS (z := z) 7954796 C hG.2.2.2 xl_X7_94 hw.2.2.2.1 dX7_statement_94 (fun ra26 hst27 => ?_)
            obtain ⟨q28, hq29, hF⟩ := bnd_e hF
            refine x_goR (fun ls h => x_runV (As := [.ref ra26]) [] h C ml_X7_64 (k_X7_tokenIs l D cA s0 z b ν hG ra26 7954796 q28 hq29) ⟨rfl, rfl, nb rfl, nb rfl⟩ rfl (C_Par hw) rfl ⟨hw, hst27⟩ (nb rfl) ⟨Nat.zero_le _, Nat.zero_le _⟩ dX7_statement_96) ?_
            refine x_ifB_eq 114 C dX7_statement_99 (by decide) (fun c30 => ?_) (fun c30 => ?_)
            · have hF := ite_f hF (nbt c30)
              refine x_aload_n C dX7_statement_114 rfl ?_
              refine x_ldcS (z := z) 1885956211 C hG.2.2.2 xl_X7_99 hw.2.2.2.1 dX7_statement_115 (fun ra31 hst32 => ?_)
              obtain ⟨q33, hq34, hF⟩ := bnd_e hF
              refine x_goR (fun ls h => x_runV (As := [.ref ra31]) [] h C ml_X7_64 (k_X7_tokenIs l D cA s0 z b ν hG ra31 1885956211 q33 hq34) ⟨rfl, rfl, nb rfl, nb rfl⟩ rfl (C_Par hw) rfl ⟨hw, hst32⟩ (nb rfl) ⟨Nat.zero_le _, Nat.zero_le _⟩ dX7_statement_117) ?_
              refine x_ifB_eq 128 C dX7_statement_120 (by decide) (fun c35 => ?_) (fun c35 => ?_)
              · have hF := ite_f hF (nbt c35)
                refine x_aload_n C dX7_statement_128 rfl ?_
                refine x_ldcS (z := z) 1819042147 C hG.2.2.2 xl_X7_104 hw.2.2.2.1 dX7_statement_129 (fun ra36 hst37 => ?_)
                obtain ⟨q38, hq39, hF⟩ := bnd_e hF
                refine x_goR (fun ls h => x_runV (As := [.ref ra36]) [] h C ml_X7_64 (k_X7_tokenIs l D cA s0 z b ν hG ra36 1819042147 q38 hq39) ⟨rfl, rfl, nb rfl, nb rfl⟩ rfl (C_Par hw) rfl ⟨hw, hst37⟩ (nb rfl) ⟨Nat.zero_le _, Nat.zero_le _⟩ dX7_statement_131) ?_
                refine x_ifB_eq 142 C dX7_statement_134 (by decide) (fun c40 => ?_) (fun c40 => ?_)
                · have hF := ite_f hF (nbt c40)
                  refine x_aload_n C dX7_statement_142 rfl ?_
                  refine x_iconst (1 : Int32) C dX7_statement_143 rfl ?_
                  obtain ⟨q41, hq42, hF⟩ := bnd_e hF
                  refine x_goM (fun ls h => x_runV (As := [.int (1 : Int32)]) [] h C ml_X7_50 (k_X7_fail l D cA s0 z b ν _ hG (1 : Int32) q41 hq42) ⟨rfl, rfl, nb rfl, nb rfl⟩ rfl (C_Par hw) rfl ⟨rfl, hw⟩ (nb rfl) ⟨Nat.zero_le _, Nat.zero_le _⟩ dX7_statement_144) hS (xA_le hS) (fun H locs hw hz hk hS => ?_)
                  have hw : WC D cA s0 z b q41.2 H := hw
                  exact x_zretM2 C rfl dX7_statement_147 (bI_nar _) (rm_b hF) (rm_m (W := fun m => WC D cA s0 z b m _) hF hw) hS (nb rfl) (nb rfl)
                · have hF := ite_t hF c40
                  refine x_aload_n C dX7_statement_137 rfl ?_
                  obtain ⟨q43, hq44, hF⟩ := bnd_e hF
                  refine x_goM (fun ls h => x_runV (As := []) [] h C ml_X7_106 (k_X7_callStatement l D cA s0 z b ν _ hG q43 hq44) ⟨rfl, rfl, nb rfl, nb rfl⟩ rfl (C_Par hw) rfl ⟨rfl, hw⟩ (nb rfl) ⟨Nat.zero_le _, Nat.zero_le _⟩ dX7_statement_138) hS (xA_le hS) (fun H locs hw hz hk hS => ?_)
                  have hw : WC D cA s0 z b q43.2 H := hw
                  exact x_zretM2 C rfl dX7_statement_141 (bI_nar _) (rm_b hF) (rm_m (W := fun m => WC D cA s0 z b m _) hF hw) hS (nb rfl) (nb rfl)
              · have hF := ite_t hF c35
                refine x_aload_n C dX7_statement_123 rfl ?_
                obtain ⟨q45, hq46, hF⟩ := bnd_e hF
                refine x_goM (fun ls h => x_runV (As := []) [] h C ml_X7_101 (k_X7_shipStatement l D cA s0 z b ν _ hG q45 hq46) ⟨rfl, rfl, nb rfl, nb rfl⟩ rfl (C_Par hw) rfl ⟨rfl, hw⟩ (nb rfl) ⟨nb rfl, nb rfl⟩ dX7_statement_124) hS (xA_le hS) (fun H locs hw hz hk hS => ?_)
                refine x_widen (k := 4) (n := 40) (nb rfl) (nb rfl) ?_
                have hw : WC D cA s0 z b q45.2 H := hw
                exact x_zretM2 C rfl dX7_statement_127 (bI_nar _) (rm_b hF) (rm_m (W := fun m => WC D cA s0 z b m _) hF hw) hS (nb rfl) (nb rfl)
            · have hF := ite_t hF c30
              refine x_aload_n C dX7_statement_102 rfl ?_
              refine x_aload_n C dX7_statement_103 rfl ?_
              refine x_get (.ref (b + 326)) C fl_X7_19 (C_Par hw) rfl dX7_statement_104 ?_
              obtain ⟨q47, hq48, hF⟩ := bnd_e hF
              refine x_goR (fun ls h => x_runV (As := []) [.ref (b + 645)] h C ml_X7_76 (k_X5_present l D cA s0 z b ν hG 326 q47 hq48) ⟨rfl, rfl, nb rfl, nb rfl⟩ rfl (C_Led led326 hw) rfl hw (nb rfl) ⟨Nat.zero_le _, Nat.zero_le _⟩ dX7_statement_107) ?_
              obtain ⟨h49, hF⟩ := asr_e hF
              obtain ⟨q50, hq51, hF⟩ := bnd_e hF
              refine x_goM (fun ls h => x_runV (As := [.ref (b + q47)]) [] h C ml_X7_96 (k_X7_layStatement l D cA s0 z b ν _ hG q47 q50 hq51) ⟨rfl, rfl, nb rfl, nb rfl⟩ rfl (C_Par hw) rfl ⟨rfl, hw⟩ (nb rfl) ⟨Nat.zero_le _, Nat.zero_le _⟩ dX7_statement_110) hS (xA_le hS) (fun H locs hw hz hk hS => ?_)
              have hw : WC D cA s0 z b q50.2 H := hw
              exact x_zretM2 C rfl dX7_statement_113 (bI_nar _) (rm_b hF) (rm_m (W := fun m => WC D cA s0 z b m _) hF hw) hS (nb rfl) (nb rfl)
          · have hF := ite_t hF c25
            refine x_aload_n C dX7_statement_81 rfl ?_
            refine x_aload_n C dX7_statement_82 rfl ?_
            refine x_get (.ref (b + 326)) C fl_X7_19 (C_Par hw) rfl dX7_statement_83 ?_
            obtain ⟨q52, hq53, hF⟩ := bnd_e hF
            refine x_goR (fun ls h => x_runV (As := []) [.ref (b + 645)] h C ml_X7_76 (k_X5_present l D cA s0 z b ν hG 326 q52 hq53) ⟨rfl, rfl, nb rfl, nb rfl⟩ rfl (C_Led led326 hw) rfl hw (nb rfl) ⟨Nat.zero_le _, Nat.zero_le _⟩ dX7_statement_86) ?_
            obtain ⟨h54, hF⟩ := asr_e hF
            obtain ⟨q55, hq56, hF⟩ := bnd_e hF
            refine x_goM (fun ls h => x_runV (As := [.ref (b + q52)]) [] h C ml_X7_91 (k_X7_wasteStatement l D cA s0 z b ν _ hG q52 q55 hq56) ⟨rfl, rfl, nb rfl, nb rfl⟩ rfl (C_Par hw) rfl ⟨rfl, hw⟩ (nb rfl) ⟨Nat.zero_le _, Nat.zero_le _⟩ dX7_statement_89) hS (xA_le hS) (fun H locs hw hz hk hS => ?_)
            have hw : WC D cA s0 z b q55.2 H := hw
            exact x_zretM2 C rfl dX7_statement_92 (bI_nar _) (rm_b hF) (rm_m (W := fun m => WC D cA s0 z b m _) hF hw) hS (nb rfl) (nb rfl)
        · have hF := ite_t hF c20
          refine x_aload_n C dX7_statement_60 rfl ?_
          refine x_aload_n C dX7_statement_61 rfl ?_
          refine x_get (.ref (b + 326)) C fl_X7_19 (C_Par hw) rfl dX7_statement_62 ?_
          obtain ⟨q57, hq58, hF⟩ := bnd_e hF
          refine x_goR (fun ls h => x_runV (As := []) [.ref (b + 645)] h C ml_X7_76 (k_X5_present l D cA s0 z b ν hG 326 q57 hq58) ⟨rfl, rfl, nb rfl, nb rfl⟩ rfl (C_Led led326 hw) rfl hw (nb rfl) ⟨Nat.zero_le _, Nat.zero_le _⟩ dX7_statement_65) ?_
          obtain ⟨h59, hF⟩ := asr_e hF
          obtain ⟨q60, hq61, hF⟩ := bnd_e hF
          refine x_goM (fun ls h => x_runV (As := [.ref (b + q57)]) [] h C ml_X7_86 (k_X7_rebateStatement l D cA s0 z b ν _ hG q57 q60 hq61) ⟨rfl, rfl, nb rfl, nb rfl⟩ rfl (C_Par hw) rfl ⟨rfl, hw⟩ (nb rfl) ⟨Nat.zero_le _, Nat.zero_le _⟩ dX7_statement_68) hS (xA_le hS) (fun H locs hw hz hk hS => ?_)
          have hw : WC D cA s0 z b q60.2 H := hw
          exact x_zretM2 C rfl dX7_statement_71 (bI_nar _) (rm_b hF) (rm_m (W := fun m => WC D cA s0 z b m _) hF hw) hS (nb rfl) (nb rfl)
      · have hF := ite_t hF c15
        refine x_aload_n C dX7_statement_39 rfl ?_
        refine x_aload_n C dX7_statement_40 rfl ?_
        refine x_get (.ref (b + 326)) C fl_X7_19 (C_Par hw) rfl dX7_statement_41 ?_
        obtain ⟨q62, hq63, hF⟩ := bnd_e hF
        refine x_goR (fun ls h => x_runV (As := []) [.ref (b + 645)] h C ml_X7_76 (k_X5_present l D cA s0 z b ν hG 326 q62 hq63) ⟨rfl, rfl, nb rfl, nb rfl⟩ rfl (C_Led led326 hw) rfl hw (nb rfl) ⟨Nat.zero_le _, Nat.zero_le _⟩ dX7_statement_44) ?_
        obtain ⟨h64, hF⟩ := asr_e hF
        obtain ⟨q65, hq66, hF⟩ := bnd_e hF
        refine x_goM (fun ls h => x_runV (As := [.ref (b + q62)]) [] h C ml_X7_80 (k_X7_bandStatement l D cA s0 z b ν _ hG q62 q65 hq66) ⟨rfl, rfl, nb rfl, nb rfl⟩ rfl (C_Par hw) rfl ⟨rfl, hw⟩ (nb rfl) ⟨Nat.zero_le _, Nat.zero_le _⟩ dX7_statement_47) hS (xA_le hS) (fun H locs hw hz hk hS => ?_)
        have hw : WC D cA s0 z b q65.2 H := hw
        exact x_zretM2 C rfl dX7_statement_50 (bI_nar _) (rm_b hF) (rm_m (W := fun m => WC D cA s0 z b m _) hF hw) hS (nb rfl) (nb rfl)
    · have hF := ite_t hF c10
      refine x_aload_n C dX7_statement_24 rfl ?_
      refine x_iconst (1 : Int32) C dX7_statement_25 rfl ?_
      obtain ⟨q67, hq68, hF⟩ := bnd_e hF
      refine x_goM (fun ls h => x_runV (As := [.int (bI true)]) [] h C ml_X7_68 (k_X7_modeStatement l D cA s0 z b ν _ hG true q67 hq68) ⟨rfl, rfl, nb rfl, nb rfl⟩ rfl (C_Par hw) rfl ⟨rfl, hw⟩ (nb rfl) ⟨Nat.zero_le _, Nat.zero_le _⟩ dX7_statement_26) hS (xA_le hS) (fun H locs hw hz hk hS => ?_)
      have hw : WC D cA s0 z b q67.2 H := hw
      exact x_zretM2 C rfl dX7_statement_29 (bI_nar _) (rm_b hF) (rm_m (W := fun m => WC D cA s0 z b m _) hF hw) hS (nb rfl) (nb rfl)
  · have hF := ite_t hF c5
    refine x_aload_n C dX7_statement_9 rfl ?_
    refine x_iconst (0 : Int32) C dX7_statement_10 rfl ?_
    obtain ⟨q69, hq70, hF⟩ := bnd_e hF
    refine x_goM (fun ls h => x_runV (As := [.int (bI false)]) [] h C ml_X7_68 (k_X7_modeStatement l D cA s0 z b ν _ hG false q69 hq70) ⟨rfl, rfl, nb rfl, nb rfl⟩ rfl (C_Par hw) rfl ⟨rfl, hw⟩ (nb rfl) ⟨Nat.zero_le _, Nat.zero_le _⟩ dX7_statement_11) hS (xA_le hS) (fun H locs hw hz hk hS => ?_)
    have hw : WC D cA s0 z b q69.2 H := hw
    exact x_zretM2 C rfl dX7_statement_14 (bI_nar _) (rm_b hF) (rm_m (W := fun m => WC D cA s0 z b m _) hF hw) hS (nb rfl) (nb rfl)
noncomputable def g_X7_symbol (ν : Mm) (a1 : Int32) : Option (Bool × Mm) := (if (ν.1 645 2) = (3 : Int32) then bnd (g_X1_byteAt ν 1 (ν.1 645 3)) (fun q4 => (if q4 = a1 then bnd (g_X7_readToken ν) (fun q7 => some (true, q7)) else bnd (g_X7_fail ν (1 : Int32)) (fun q9 => some (q9.1, q9.2)))) else bnd (g_X7_fail ν (1 : Int32)) (fun q2 => some (q2.1, q2.2)))
set_option maxRecDepth 20000 in
set_option maxHeartbeats 4000000 in
theorem k_X7_symbol (l : Launch) (D : va_G) (cA : Nat → ClassId) (s0 : State) (z : Nat) (b : Nat) (ν : Mm) (sz : Nat) (hG : xG l D cA s0) (a1 : Int32) (r : Bool × Mm) (hF : g_X7_symbol ν a1 = some r) : Met l yX7_symbol (wsG yX7_symbol cX7_symbol 2 (some (FieldType.boolean))) { frames := 3, cells := 0, slots := 0, locals := 63 } (xP D cA s0 [.ref (b + 645), .int a1] (fun H => H.size = sz ∧ WC D cA s0 z b ν H)) (xQm (some (.int (bI r.1))) (fun H => WC D cA s0 z b r.2 H) (xA b 2564 sz)) 0 0 (xA b 2564 sz) := by
  refine x_start (own := RX7) [(0, .ref (b + 645)), (1, .int a1)] rfl rfl (by decide) (nb rfl) ?_
  intro p e s m args below meth c C hw
  obtain ⟨hsz, hw⟩ := hw
  subst hsz
  have hS : va_S (xA b 2564 s.heap.size) s.heap s.heap [] := va_S.rf
  refine x_aload_n C dX7_symbol_0 rfl ?_
  refine x_get (.int (ν.1 645 2)) C fl_X7_47 (C_Par hw) rfl dX7_symbol_1 ?_
  refine x_iconst (3 : Int32) C dX7_symbol_4 rfl ?_
  refine x_icmp_ne 23 C dX7_symbol_5 (by decide) (fun c1 => ?_) (fun c1 => ?_)
  · have hF := ite_f hF c1
    refine x_aload_n C dX7_symbol_23 rfl ?_
    refine x_iconst (1 : Int32) C dX7_symbol_24 rfl ?_
    obtain ⟨q2, hq3, hF⟩ := bnd_e hF
    refine x_goM (fun ls h => x_runV (As := [.int (1 : Int32)]) [] h C ml_X7_50 (k_X7_fail l D cA s0 z b ν _ hG (1 : Int32) q2 hq3) ⟨rfl, rfl, nb rfl, nb rfl⟩ rfl (C_Par hw) rfl ⟨rfl, hw⟩ (nb rfl) ⟨Nat.zero_le _, Nat.zero_le _⟩ dX7_symbol_25) hS (xA_le hS) (fun H locs hw hz hk hS => ?_)
    have hw : WC D cA s0 z b q2.2 H := hw
    exact x_zretM2 C rfl dX7_symbol_28 (bI_nar _) (rm_b hF) (rm_m (W := fun m => WC D cA s0 z b m _) hF hw) hS (nb rfl) (nb rfl)
  · have hF := ite_t hF c1
    refine x_aload_n C dX7_symbol_8 rfl ?_
    refine x_get (.ref (b + 1)) C fl_X7_15 (C_Par hw) rfl dX7_symbol_9 ?_
    refine x_aload_n C dX7_symbol_12 rfl ?_
    refine x_get (.int (ν.1 645 3)) C fl_X7_173 (C_Par hw) rfl dX7_symbol_13 ?_
    obtain ⟨q4, hq5, hF⟩ := bnd_e hF
    refine x_goR (fun ls h => x_runV (As := [.int (ν.1 645 3)]) [] h C ml_X7_201 (k_X1_byteAt l D cA s0 z b ν hG 1 (ν.1 645 3) q4 hq5) ⟨rfl, rfl, nb rfl, nb rfl⟩ rfl (C_Byt byt1 hw) rfl hw (nb rfl) ⟨Nat.zero_le _, Nat.zero_le _⟩ dX7_symbol_16) ?_
    refine x_iload_n C dX7_symbol_19 rfl ?_
    refine x_icmp_eq 29 C dX7_symbol_20 (by decide) (fun c6 => ?_) (fun c6 => ?_)
    · have hF := ite_t hF c6
      refine x_aload_n C dX7_symbol_29 rfl ?_
      obtain ⟨q7, hq8, hF⟩ := bnd_e hF
      refine x_goM (fun ls h => x_runV (As := []) [] h C ml_X7_44 (k_X7_readToken l D cA s0 z b ν _ hG q7 hq8) ⟨rfl, rfl, nb rfl, nb rfl⟩ rfl (C_Par hw) rfl ⟨rfl, hw⟩ (nb rfl) ⟨Nat.zero_le _, Nat.zero_le _⟩ dX7_symbol_30) hS (xA_le hS) (fun H locs hw hz hk hS => ?_)
      have hw : WC D cA s0 z b q7 H := hw
      refine x_iconst (1 : Int32) C dX7_symbol_33 rfl ?_
      exact x_zretM2 C rfl dX7_symbol_34 rfl (rm_b1 hF) (rm_m (W := fun m => WC D cA s0 z b m _) hF hw) hS (nb rfl) (nb rfl)
    · have hF := ite_f hF c6
      refine x_aload_n C dX7_symbol_23 rfl ?_
      refine x_iconst (1 : Int32) C dX7_symbol_24 rfl ?_
      obtain ⟨q9, hq10, hF⟩ := bnd_e hF
      refine x_goM (fun ls h => x_runV (As := [.int (1 : Int32)]) [] h C ml_X7_50 (k_X7_fail l D cA s0 z b ν _ hG (1 : Int32) q9 hq10) ⟨rfl, rfl, nb rfl, nb rfl⟩ rfl (C_Par hw) rfl ⟨rfl, hw⟩ (nb rfl) ⟨Nat.zero_le _, Nat.zero_le _⟩ dX7_symbol_25) hS (xA_le hS) (fun H locs hw hz hk hS => ?_)
      have hw : WC D cA s0 z b q9.2 H := hw
      exact x_zretM2 C rfl dX7_symbol_28 (bI_nar _) (rm_b hF) (rm_m (W := fun m => WC D cA s0 z b m _) hF hw) hS (nb rfl) (nb rfl)
noncomputable def g_X7_parseText_L56 (ν : Mm) : Nat → Mm → Int32 → Option (Bool × Mm)
  | 0, _, _ => none
  | n + 1, μ0, x1 => (if (800 : Int32) ≤ x1 then some (true, μ0) else (if (μ0.1 645 2) = 0 then some (true, μ0) else bnd (g_X7_statement μ0) (fun q20 => (if q20.1 = true then bnd (g_X7_symbol q20.2 (59 : Int32)) (fun q23 => (if q23.1 = true then (g_X7_parseText_L56 ν n q23.2 (x1 + (1 : Int32))) else some (false, q23.2))) else some (false, q20.2)))))
noncomputable def g_X7_parseText (ν : Mm) : Option (Bool × Mm) := bnd (g_X5_clear ν 326) (fun q1 => bnd (some (uI q1 645 6 (0 : Int32))) (fun μ3 => bnd (some (uI μ3 645 7 (0 : Int32))) (fun μ5 => bnd (some (uI μ5 645 8 (0 : Int32))) (fun μ7 => bnd (some (uI μ7 645 9 (0 : Int32))) (fun μ9 => bnd (some (uI μ9 645 10 (-1 : Int32))) (fun μ11 => bnd (some (uI μ11 645 4 (0 : Int32))) (fun μ13 => bnd (g_X7_readToken μ13) (fun q15 => (if (q15.1 645 2) = 0 then bnd (g_X7_fail q15 (1 : Int32)) (fun q26 => some (q26.1, q26.2)) else (g_X7_parseText_L56 ν 45 q15 (0 : Int32)))))))))))
set_option maxRecDepth 20000 in
set_option maxHeartbeats 4000000 in
theorem k_X7_parseText (l : Launch) (D : va_G) (cA : Nat → ClassId) (s0 : State) (z : Nat) (b : Nat) (ν : Mm) (sz : Nat) (hG : xG l D cA s0) (r : Bool × Mm) (hF : g_X7_parseText ν = some r) : Met l yX7_parseText (wsG yX7_parseText cX7_parseText 2 (some (FieldType.boolean))) { frames := 11, cells := 180, slots := 1800, locals := 366 } (xP D cA s0 [.ref (b + 645)] (fun H => H.size = sz ∧ WC D cA s0 z b ν H)) (xQm (some (.int (bI r.1))) (fun H => WC D cA s0 z b r.2 H) (xA b 2564 sz)) 180 1800 (xA b 2564 sz) := by
  refine x_start (own := RX7) [(0, .ref (b + 645))] rfl rfl (by decide) (nb rfl) ?_
  intro p e s m args below meth c C hw
  obtain ⟨hsz, hw⟩ := hw
  subst hsz
  have hS : va_S (xA b 2564 s.heap.size) s.heap s.heap [] := va_S.rf
  have h_L56 : ∀ (n : Nat) (μ0 : Mm) (x1 : Int32) (hn45 : n ≤ 45) (H : Heap) (locs : List Loc) (hw : WC D cA s0 z b μ0 H) (hS : va_S (xA b 2564 s.heap.size) s.heap H locs), g_X7_parseText_L56 ν n μ0 x1 = some r → xW p l e { frames := 11, cells := 180, slots := 1800, locals := 366 } s m args below meth c 2 (MQ below (xQm (some (.int (bI r.1))) (fun H => WC D cA s0 z b r.2 H) (xA b 2564 s.heap.size)) args s 180 1800 (xA b 2564 s.heap.size)) H locs (4 * (45 - n)) (40 * (45 - n)) 56 [(0, .ref (b + 645)), (1, .int x1)] [] := by
    intro n
    induction n with
    | zero =>
      intro μ0 x1 hn45 H locs hw hS hF
      exact no_some hF
    | succ n ih =>
      intro μ0 x1 hn45 H locs hw hS hF
      have ih56 := ih
      refine x_iload_n C dX7_parseText_56 rfl ?_
      refine x_sipush (800 : Int32) C dX7_parseText_57 rfl ?_
      refine x_icmp_ge 94 C dX7_parseText_60 (by decide) (fun c18 => ?_) (fun c18 => ?_)
      · have hF := ite_t hF c18
        refine x_iconst (1 : Int32) C dX7_parseText_94 rfl ?_
        exact x_zretM2 C rfl dX7_parseText_95 rfl (rm_b1 hF) (rm_m (W := fun m => WC D cA s0 z b m _) hF hw) hS (by omega) (by omega)
      · have hF := ite_f hF c18
        refine x_aload_n C dX7_parseText_63 rfl ?_
        refine x_get (.int (μ0.1 645 2)) C fl_X7_47 (C_Par hw) rfl dX7_parseText_64 ?_
        refine x_if_eq 94 C dX7_parseText_67 (by decide) (fun c19 => ?_) (fun c19 => ?_)
        · have hF := ite_t hF c19
          refine x_iconst (1 : Int32) C dX7_parseText_94 rfl ?_
          exact x_zretM2 C rfl dX7_parseText_95 rfl (rm_b1 hF) (rm_m (W := fun m => WC D cA s0 z b m _) hF hw) hS (by omega) (by omega)
        · have hF := ite_f hF c19
          refine x_aload_n C dX7_parseText_70 rfl ?_
          obtain ⟨q20, hq21, hF⟩ := bnd_e hF
          refine x_goM (fun ls h => x_runV (As := []) [] h C ml_X7_54 (k_X7_statement l D cA s0 z b μ0 _ hG q20 hq21) ⟨rfl, rfl, nb rfl, nb rfl⟩ rfl (C_Par hw) rfl ⟨rfl, hw⟩ (nb rfl) ⟨(by show _ ≤ 180; omega), (by show _ ≤ 1800; omega)⟩ dX7_parseText_71) hS (xA_le hS) (fun H locs hw hz hk hS => ?_)
          refine x_widen (k := 4 * (45 - (n + 1)) + 4) (n := 40 * (45 - (n + 1)) + 40) (by omega) (by omega) ?_
          have hw : WC D cA s0 z b q20.2 H := hw
          refine x_ifB_eq 86 C dX7_parseText_74 (by decide) (fun c22 => ?_) (fun c22 => ?_)
          · have hF := ite_f hF (nbt c22)
            refine x_iconst (0 : Int32) C dX7_parseText_86 rfl ?_
            exact x_zretM2 C rfl dX7_parseText_87 rfl (rm_b0 hF) (rm_m (W := fun m => WC D cA s0 z b m _) hF hw) hS (by omega) (by omega)
          · have hF := ite_t hF c22
            refine x_aload_n C dX7_parseText_77 rfl ?_
            refine x_bipush (59 : Int32) C dX7_parseText_78 rfl ?_
            obtain ⟨q23, hq24, hF⟩ := bnd_e hF
            refine x_goM (fun ls h => x_runV (As := [.int (59 : Int32)]) [] h C ml_X7_58 (k_X7_symbol l D cA s0 z b q20.2 _ hG (59 : Int32) q23 hq24) ⟨rfl, rfl, nb rfl, nb rfl⟩ rfl (C_Par hw) rfl ⟨rfl, hw⟩ (nb rfl) ⟨(by show _ ≤ 180; omega), (by show _ ≤ 1800; omega)⟩ dX7_parseText_80) hS (xA_le hS) (fun H locs hw hz hk hS => ?_)
            have hw : WC D cA s0 z b q23.2 H := hw
            refine x_ifB_ne 88 C dX7_parseText_83 (by decide) (fun c25 => ?_) (fun c25 => ?_)
            · have hF := ite_t hF c25
              refine x_iinc (x1 + (1 : Int32)) [(1, .int (x1 + (1 : Int32))), (0, .ref (b + 645))] C dX7_parseText_88 rfl rfl (by decide) rfl ?_
              refine x_goto 56 C dX7_parseText_91 (by decide) ?_
              refine x_sub [(0, .ref (b + 645)), (1, .int (x1 + (1 : Int32)))] [1, 0] rfl ?_
              refine x_widen (k := 4 * (45 - n)) (n := 40 * (45 - n)) (by omega) (by omega) ?_
              exact ih56 q23.2 (x1 + (1 : Int32)) (by omega) _ _ hw hS hF
            · have hF := ite_f hF (nbt c25)
              refine x_iconst (0 : Int32) C dX7_parseText_86 rfl ?_
              exact x_zretM2 C rfl dX7_parseText_87 rfl (rm_b0 hF) (rm_m (W := fun m => WC D cA s0 z b m _) hF hw) hS (by omega) (by omega)
  refine x_aload_n C dX7_parseText_0 rfl ?_
  refine x_get (.ref (b + 326)) C fl_X7_19 (C_Par hw) rfl dX7_parseText_1 ?_
  obtain ⟨q1, hq2, hF⟩ := bnd_e hF
  refine x_goM (fun ls h => x_runV (As := []) [] h C ml_X7_23 (k_X5_clear l D cA s0 z b ν _ hG 326 q1 hq2) ⟨rfl, rfl, nb rfl, nb rfl⟩ rfl (C_Led led326 hw) rfl ⟨rfl, hw⟩ (nb rfl) ⟨Nat.zero_le _, Nat.zero_le _⟩ dX7_parseText_4) hS (xA_le hS) (fun H locs hw hz hk hS => ?_)
  have hw : WC D cA s0 z b q1 H := hw
  refine x_aload_n C dX7_parseText_7 rfl ?_
  refine x_iconst (0 : Int32) C dX7_parseText_8 rfl ?_
  refine y_putZ (kk0 := 6) 645 C fl_X7_28 hw (by decide) (fun nm => S_Par) (fun nm => S_Par) rfl rfl rfl (fun _ => nb rfl) dX7_parseText_9 hS (xA_in (by decide)) (fun H locs hw hS => ?_)
  obtain ⟨μ3, hm4, hF⟩ := bnd_e hF
  have hw : WC D cA s0 z b μ3 H := rv_m (W := fun m => WC D cA s0 z b m _) hm4 hw
  refine x_aload_n C dX7_parseText_12 rfl ?_
  refine x_iconst (0 : Int32) C dX7_parseText_13 rfl ?_
  refine y_putZ (kk0 := 7) 645 C fl_X7_32 hw (by decide) (fun nm => S_Par) (fun nm => S_Par) rfl rfl rfl (fun _ => nb rfl) dX7_parseText_14 hS (xA_in (by decide)) (fun H locs hw hS => ?_)
  obtain ⟨μ5, hm6, hF⟩ := bnd_e hF
  have hw : WC D cA s0 z b μ5 H := rv_m (W := fun m => WC D cA s0 z b m _) hm6 hw
  refine x_aload_n C dX7_parseText_17 rfl ?_
  refine x_iconst (0 : Int32) C dX7_parseText_18 rfl ?_
  refine y_putZ (kk0 := 8) 645 C fl_X7_35 hw (by decide) (fun nm => S_Par) (fun nm => S_Par) rfl rfl rfl (fun _ => nb rfl) dX7_parseText_19 hS (xA_in (by decide)) (fun H locs hw hS => ?_)
  obtain ⟨μ7, hm8, hF⟩ := bnd_e hF
  have hw : WC D cA s0 z b μ7 H := rv_m (W := fun m => WC D cA s0 z b m _) hm8 hw
  refine x_aload_n C dX7_parseText_22 rfl ?_
  refine x_iconst (0 : Int32) C dX7_parseText_23 rfl ?_
  refine y_putI (kk0 := 9) 645 C fl_X7_38 hw (by decide) (fun nm => S_Par) (fun nm => S_Par) rfl rfl (fun _ => nb rfl) dX7_parseText_24 hS (xA_in (by decide)) (fun H locs hw hS => ?_)
  obtain ⟨μ9, hm10, hF⟩ := bnd_e hF
  have hw : WC D cA s0 z b μ9 H := rv_m (W := fun m => WC D cA s0 z b m _) hm10 hw
  refine x_aload_n C dX7_parseText_27 rfl ?_
  refine x_iconst (-1 : Int32) C dX7_parseText_28 rfl ?_
  refine y_putI (kk0 := 10) 645 C fl_X7_9 hw (by decide) (fun nm => S_Par) (fun nm => S_Par) rfl rfl (fun _ => nb rfl) dX7_parseText_29 hS (xA_in (by decide)) (fun H locs hw hS => ?_)
  obtain ⟨μ11, hm12, hF⟩ := bnd_e hF
  have hw : WC D cA s0 z b μ11 H := rv_m (W := fun m => WC D cA s0 z b m _) hm12 hw
  refine x_aload_n C dX7_parseText_32 rfl ?_
  refine x_iconst (0 : Int32) C dX7_parseText_33 rfl ?_
  refine y_putI (kk0 := 4) 645 C fl_X7_41 hw (by decide) (fun nm => S_Par) (fun nm => S_Par) rfl rfl (fun _ => nb rfl) dX7_parseText_34 hS (xA_in (by decide)) (fun H locs hw hS => ?_)
  obtain ⟨μ13, hm14, hF⟩ := bnd_e hF
  have hw : WC D cA s0 z b μ13 H := rv_m (W := fun m => WC D cA s0 z b m _) hm14 hw
  refine x_aload_n C dX7_parseText_37 rfl ?_
  obtain ⟨q15, hq16, hF⟩ := bnd_e hF
  refine x_goM (fun ls h => x_runV (As := []) [] h C ml_X7_44 (k_X7_readToken l D cA s0 z b μ13 _ hG q15 hq16) ⟨rfl, rfl, nb rfl, nb rfl⟩ rfl (C_Par hw) rfl ⟨rfl, hw⟩ (nb rfl) ⟨Nat.zero_le _, Nat.zero_le _⟩ dX7_parseText_38) hS (xA_le hS) (fun H locs hw hz hk hS => ?_)
  have hw : WC D cA s0 z b q15 H := hw
  refine x_aload_n C dX7_parseText_41 rfl ?_
  refine x_get (.int (q15.1 645 2)) C fl_X7_47 (C_Par hw) rfl dX7_parseText_42 ?_
  refine x_if_ne 54 C dX7_parseText_45 (by decide) (fun c17 => ?_) (fun c17 => ?_)
  · have hF := ite_f hF c17
    refine x_iconst (0 : Int32) C dX7_parseText_54 rfl ?_
    refine x_istore_n [(1, .int (0 : Int32)), (0, .ref (b + 645))] C dX7_parseText_55 rfl (by decide) rfl ?_
    refine x_sub [(0, .ref (b + 645)), (1, .int (0 : Int32))] [1, 0] rfl ?_
    exact h_L56 45 q15 (0 : Int32) (by omega) _ _ hw hS hF
  · have hF := ite_t hF c17
    refine x_aload_n C dX7_parseText_48 rfl ?_
    refine x_iconst (1 : Int32) C dX7_parseText_49 rfl ?_
    obtain ⟨q26, hq27, hF⟩ := bnd_e hF
    refine x_goM (fun ls h => x_runV (As := [.int (1 : Int32)]) [] h C ml_X7_50 (k_X7_fail l D cA s0 z b q15 _ hG (1 : Int32) q26 hq27) ⟨rfl, rfl, nb rfl, nb rfl⟩ rfl (C_Par hw) rfl ⟨rfl, hw⟩ (nb rfl) ⟨Nat.zero_le _, Nat.zero_le _⟩ dX7_parseText_50) hS (xA_le hS) (fun H locs hw hz hk hS => ?_)
    have hw : WC D cA s0 z b q26.2 H := hw
    exact x_zretM2 C rfl dX7_parseText_53 (bI_nar _) (rm_b hF) (rm_m (W := fun m => WC D cA s0 z b m _) hF hw) hS (nb rfl) (nb rfl)
noncomputable def g_X8_wordAndNumber (ν : Mm) (a1 : Nat) (a2 : Int64) : Option (Mm) := bnd (g_X1_putText ν 4 a1) (fun q1 => bnd (g_X1_putNumber q1 4 a2) (fun q3 => some q3))
set_option maxRecDepth 20000 in
set_option maxHeartbeats 4000000 in
theorem k_X8_wordAndNumber (l : Launch) (D : va_G) (cA : Nat → ClassId) (s0 : State) (z : Nat) (b : Nat) (ν : Mm) (sz : Nat) (hG : xG l D cA s0) (a1r : Nat) (a1 : Nat) (a2 : Int64) (r : Mm) (hF : g_X8_wordAndNumber ν a1 a2 = some r) : Met l yX8_wordAndNumber (wsG yX8_wordAndNumber cX8_wordAndNumber 4 none) { frames := 5, cells := 0, slots := 0, locals := 107 } (xP D cA s0 [.ref (b + 2563), .ref a1r, .long a2] (fun H => H.size = sz ∧ WC D cA s0 z b ν H ∧ Str D cA s0 z a1r a1 H)) (xQm none (fun H => WC D cA s0 z b r H) (xA b 2564 sz)) 0 0 (xA b 2564 sz) := by
  refine x_start (own := RX8) [(0, .ref (b + 2563)), (1, .ref a1r), (2, .long a2)] rfl rfl (by decide) (nb rfl) ?_
  intro p e s m args below meth c C hw
  obtain ⟨hsz, hw, hst0_a1⟩ := hw
  subst hsz
  have hS : va_S (xA b 2564 s.heap.size) s.heap s.heap [] := va_S.rf
  refine x_aload_n C dX8_wordAndNumber_0 rfl ?_
  refine x_get (.ref (b + 4)) C fl_X8_19 (C_Rep hw) rfl dX8_wordAndNumber_1 ?_
  refine x_aload_n C dX8_wordAndNumber_4 rfl ?_
  obtain ⟨q1, hq2, hF⟩ := bnd_e hF
  refine x_goM (fun ls h => x_runV (As := [.ref a1r]) [] h C ml_X8_41 (k_X1_putText l D cA s0 z b ν _ hG a1r 4 a1 q1 hq2) ⟨rfl, rfl, nb rfl, nb rfl⟩ rfl (C_Byt byt4 hw) rfl ⟨rfl, hw, (Str.now hst0_a1 hw.1 hw.2.1 hS)⟩ (nb rfl) ⟨Nat.zero_le _, Nat.zero_le _⟩ dX8_wordAndNumber_5) hS (xA_le hS) (fun H locs hw hz hk hS => ?_)
  have hw : WC D cA s0 z b q1 H := hw
  refine x_aload_n C dX8_wordAndNumber_8 rfl ?_
  refine x_get (.ref (b + 4)) C fl_X8_19 (C_Rep hw) rfl dX8_wordAndNumber_9 ?_
  refine x_lload_n C dX8_wordAndNumber_12 rfl ?_
  obtain ⟨q3, hq4, hF⟩ := bnd_e hF
  refine x_goM (fun ls h => x_runV (As := [.long a2]) [] h C ml_X8_58 (k_X1_putNumber l D cA s0 z b q1 _ hG 4 a2 q3 hq4) ⟨rfl, rfl, nb rfl, nb rfl⟩ rfl (C_Byt byt4 hw) rfl ⟨rfl, hw⟩ (nb rfl) ⟨Nat.zero_le _, Nat.zero_le _⟩ dX8_wordAndNumber_13) hS (xA_le hS) (fun H locs hw hz hk hS => ?_)
  have hw : WC D cA s0 z b q3 H := hw
  exact x_vretM2 C rfl dX8_wordAndNumber_16 rfl (rv_m (W := fun m => WC D cA s0 z b m _) hF hw) hS (nb rfl) (nb rfl)
noncomputable def g_X8_statement_L38 (ν : Mm) (a1 : Int32) : Nat → Mm → Int32 → Option (Mm)
  | 0, _, _ => none
  | n + 1, μ0, x2 => (if (μ0.1 7 7) ≤ x2 then bnd (g_X0_balanceOf μ0 a1) (fun q14 => bnd (g_X1_putNumber μ0 4 q14) (fun q16 => bnd (g_X1_put q16 4 (10 : Int32)) (fun q18 => some q18))) else bnd (g_X0_shipOf μ0 x2) (fun q20 => (if q20 = a1 then bnd (g_X1_putNumber μ0 4 x2.toInt64) (fun q23 => asr (vp_in x2 60) (bnd (g_X4_netAmount q23 (7 + (54 + 2 * (cl x2)))) (fun q30 => bnd (g_X8_wordAndNumber q23 32 q30.toInt64) (fun q32 => bnd (g_X0_openAmount q32 x2) (fun q36 => bnd (g_X8_wordAndNumber q32 32 q36.toInt64) (fun q38 => bnd (g_X1_put q38 4 (10 : Int32)) (fun q40 => (g_X8_statement_L38 ν a1 n q40 (x2 + (1 : Int32)))))))))) else (g_X8_statement_L38 ν a1 n μ0 (x2 + (1 : Int32))))))
noncomputable def g_X8_statement (ν : Mm) (a1 : Int32) : Option (Mm) := bnd (some (uI ν 4 2 (0 : Int32))) (fun μ1 => asr (vp_in a1 8) (bnd (g_X1_putText μ1 4 (μ1.2.2 (7 + (6 + (cl a1))) 0)) (fun q9 => bnd (g_X1_put q9 4 (10 : Int32)) (fun q11 => (g_X8_statement_L38 ν a1 10000 q11 (0 : Int32))))))
set_option maxRecDepth 20000 in
set_option maxHeartbeats 4000000 in
theorem k_X8_statement (l : Launch) (D : va_G) (cA : Nat → ClassId) (s0 : State) (z : Nat) (b : Nat) (ν : Mm) (sz : Nat) (hG : xG l D cA s0) (a1 : Int32) (r : Mm) (hF : g_X8_statement ν a1 = some r) : Met l yX8_statement (wsG yX8_statement cX8_statement 3 none) { frames := 6, cells := 0, slots := 0, locals := 130 } (xP D cA s0 [.ref (b + 2563), .int a1] (fun H => H.size = sz ∧ WC D cA s0 z b ν H)) (xQm none (fun H => WC D cA s0 z b r H) (xA b 2564 sz)) 0 0 (xA b 2564 sz) := by
  refine x_start (own := RX8) [(0, .ref (b + 2563)), (1, .int a1)] rfl rfl (by decide) (nb rfl) ?_
  intro p e s m args below meth c C hw
  obtain ⟨hsz, hw⟩ := hw
  subst hsz
  have hS : va_S (xA b 2564 s.heap.size) s.heap s.heap [] := va_S.rf
  have h_L38 : ∀ (n : Nat) (μ0 : Mm) (x2 : Int32) (H : Heap) (locs : List Loc) (hw : WC D cA s0 z b μ0 H) (hS : va_S (xA b 2564 s.heap.size) s.heap H locs), g_X8_statement_L38 ν a1 n μ0 x2 = some r → xW p l e { frames := 6, cells := 0, slots := 0, locals := 130 } s m args below meth c 3 (MQ below (xQm none (fun H => WC D cA s0 z b r H) (xA b 2564 s.heap.size)) args s 0 0 (xA b 2564 s.heap.size)) H locs 0 0 38 [(0, .ref (b + 2563)), (1, .int a1), (2, .int x2)] [] := by
    intro n
    induction n with
    | zero =>
      intro μ0 x2 H locs hw hS hF
      exact no_some hF
    | succ n ih =>
      intro μ0 x2 H locs hw hS hF
      have ih38 := ih
      refine x_iload_n C dX8_statement_38 rfl ?_
      refine x_aload_n C dX8_statement_39 rfl ?_
      refine x_get (.ref (b + 7)) C fl_X8_9 (C_Rep hw) rfl dX8_statement_40 ?_
      refine x_get (.int (μ0.1 7 7)) C fl_X8_49 (C_Led led7 hw) rfl dX8_statement_43 ?_
      refine x_icmp_ge 119 C dX8_statement_46 (by decide) (fun c13 => ?_) (fun c13 => ?_)
      · have hF := ite_t hF c13
        refine x_aload_n C dX8_statement_119 rfl ?_
        refine x_get (.ref (b + 4)) C fl_X8_19 (C_Rep hw) rfl dX8_statement_120 ?_
        refine x_aload_n C dX8_statement_123 rfl ?_
        refine x_get (.ref (b + 2562)) C fl_X8_15 (C_Rep hw) rfl dX8_statement_124 ?_
        refine x_iload_n C dX8_statement_127 rfl ?_
        obtain ⟨q14, hq15, hF⟩ := bnd_e hF
        refine x_goR (fun ls h => x_runV (As := [.int a1]) [.ref (b + 4)] h C ml_X8_81 (k_X0_balanceOf l D cA s0 z b μ0 hG a1 q14 hq15) ⟨rfl, rfl, nb rfl, nb rfl⟩ rfl (C_Acc hw) rfl hw (nb rfl) ⟨Nat.zero_le _, Nat.zero_le _⟩ dX8_statement_128) ?_
        obtain ⟨q16, hq17, hF⟩ := bnd_e hF
        refine x_goM (fun ls h => x_runV (As := [.long q14]) [] h C ml_X8_58 (k_X1_putNumber l D cA s0 z b μ0 _ hG 4 q14 q16 hq17) ⟨rfl, rfl, nb rfl, nb rfl⟩ rfl (C_Byt byt4 hw) rfl ⟨rfl, hw⟩ (nb rfl) ⟨Nat.zero_le _, Nat.zero_le _⟩ dX8_statement_131) hS (xA_le hS) (fun H locs hw hz hk hS => ?_)
        have hw : WC D cA s0 z b q16 H := hw
        refine x_aload_n C dX8_statement_134 rfl ?_
        refine x_get (.ref (b + 4)) C fl_X8_19 (C_Rep hw) rfl dX8_statement_135 ?_
        refine x_bipush (10 : Int32) C dX8_statement_138 rfl ?_
        obtain ⟨q18, hq19, hF⟩ := bnd_e hF
        refine x_goM (fun ls h => x_runV (As := [.int (10 : Int32)]) [] h C ml_X8_45 (k_X1_put l D cA s0 z b q16 _ hG 4 (10 : Int32) q18 hq19) ⟨rfl, rfl, nb rfl, nb rfl⟩ rfl (C_Byt byt4 hw) rfl ⟨rfl, hw⟩ (nb rfl) ⟨Nat.zero_le _, Nat.zero_le _⟩ dX8_statement_140) hS (xA_le hS) (fun H locs hw hz hk hS => ?_)
        have hw : WC D cA s0 z b q18 H := hw
        exact x_vretM2 C rfl dX8_statement_143 rfl (rv_m (W := fun m => WC D cA s0 z b m _) hF hw) hS (nb rfl) (nb rfl)
      · have hF := ite_f hF c13
        refine x_aload_n C dX8_statement_49 rfl ?_
        refine x_get (.ref (b + 2562)) C fl_X8_15 (C_Rep hw) rfl dX8_statement_50 ?_
        refine x_iload_n C dX8_statement_53 rfl ?_
        obtain ⟨q20, hq21, hF⟩ := bnd_e hF
        refine x_goR (fun ls h => x_runV (As := [.int x2]) [] h C ml_X8_52 (k_X0_shipOf l D cA s0 z b μ0 hG x2 q20 hq21) ⟨rfl, rfl, nb rfl, nb rfl⟩ rfl (C_Acc hw) rfl hw (nb rfl) ⟨Nat.zero_le _, Nat.zero_le _⟩ dX8_statement_54) ?_
        refine x_iload_n C dX8_statement_57 rfl ?_
        refine x_icmp_ne 113 C dX8_statement_58 (by decide) (fun c22 => ?_) (fun c22 => ?_)
        · have hF := ite_f hF c22
          refine x_iinc (x2 + (1 : Int32)) [(2, .int (x2 + (1 : Int32))), (0, .ref (b + 2563)), (1, .int a1)] C dX8_statement_113 rfl rfl (by decide) rfl ?_
          refine x_goto 38 C dX8_statement_116 (by decide) ?_
          refine x_sub [(0, .ref (b + 2563)), (1, .int a1), (2, .int (x2 + (1 : Int32)))] [1, 2, 0] rfl ?_
          exact ih38 μ0 (x2 + (1 : Int32)) _ _ hw hS hF
        · have hF := ite_t hF c22
          refine x_aload_n C dX8_statement_61 rfl ?_
          refine x_get (.ref (b + 4)) C fl_X8_19 (C_Rep hw) rfl dX8_statement_62 ?_
          refine x_iload_n C dX8_statement_65 rfl ?_
          refine x_i2l C dX8_statement_66 ?_
          obtain ⟨q23, hq24, hF⟩ := bnd_e hF
          refine x_goM (fun ls h => x_runV (As := [.long x2.toInt64]) [] h C ml_X8_58 (k_X1_putNumber l D cA s0 z b μ0 _ hG 4 x2.toInt64 q23 hq24) ⟨rfl, rfl, nb rfl, nb rfl⟩ rfl (C_Byt byt4 hw) rfl ⟨rfl, hw⟩ (nb rfl) ⟨Nat.zero_le _, Nat.zero_le _⟩ dX8_statement_67) hS (xA_le hS) (fun H locs hw hz hk hS => ?_)
          have hw : WC D cA s0 z b q23 H := hw
          refine x_aload_n C dX8_statement_70 rfl ?_
          refine x_ldcS (z := z) 32 C hG.2.2.2 xl_X8_62 hw.2.2.2.1 dX8_statement_71 (fun ra25 hst26 => ?_)
          refine x_aload_n C dX8_statement_73 rfl ?_
          refine x_get (.ref (b + 7)) C fl_X8_9 (C_Rep hw) rfl dX8_statement_74 ?_
          refine x_get (.ref (b + (7 + 3))) C fl_X8_64 (C_Led led7 hw) rfl dX8_statement_77 ?_
          refine x_iload_n C dX8_statement_80 rfl ?_
          obtain ⟨h27, hF⟩ := asr_e hF
          obtain ⟨hn28, hl29⟩ := vpn h27 (by decide)
          refine x_aald 5 C (C_invoices led7 hw) rfl hn28 hl29 (by decide) rfl dX8_statement_81 ?_
          obtain ⟨q30, hq31, hF⟩ := bnd_e hF
          refine x_goR (fun ls h => x_runV (As := []) [.ref ra25, .ref (b + 2563)] h C ml_X8_68 (k_X4_netAmount l D cA s0 z b q23 hG (7 + (54 + 2 * (cl x2))) q30 hq31) ⟨rfl, rfl, nb rfl, nb rfl⟩ rfl (C_Inv (mk_Inv led7 hl29) hw) rfl hw (nb rfl) ⟨Nat.zero_le _, Nat.zero_le _⟩ dX8_statement_82) ?_
          refine x_i2l C dX8_statement_85 ?_
          obtain ⟨q32, hq33, hF⟩ := bnd_e hF
          refine x_goM (fun ls h => x_runV (As := [.ref ra25, .long q30.toInt64]) [] h C ml_X8_74 (k_X8_wordAndNumber l D cA s0 z b q23 _ hG ra25 32 q30.toInt64 q32 hq33) ⟨rfl, rfl, nb rfl, nb rfl⟩ rfl (C_Rep hw) rfl ⟨rfl, hw, hst26⟩ (nb rfl) ⟨Nat.zero_le _, Nat.zero_le _⟩ dX8_statement_86) hS (xA_le hS) (fun H locs hw hz hk hS => ?_)
          have hw : WC D cA s0 z b q32 H := hw
          refine x_aload_n C dX8_statement_89 rfl ?_
          refine x_ldcS (z := z) 32 C hG.2.2.2 xl_X8_62 hw.2.2.2.1 dX8_statement_90 (fun ra34 hst35 => ?_)
          refine x_aload_n C dX8_statement_92 rfl ?_
          refine x_get (.ref (b + 2562)) C fl_X8_15 (C_Rep hw) rfl dX8_statement_93 ?_
          refine x_iload_n C dX8_statement_96 rfl ?_
          obtain ⟨q36, hq37, hF⟩ := bnd_e hF
          refine x_goR (fun ls h => x_runV (As := [.int x2]) [.ref ra34, .ref (b + 2563)] h C ml_X8_78 (k_X0_openAmount l D cA s0 z b q32 hG x2 q36 hq37) ⟨rfl, rfl, nb rfl, nb rfl⟩ rfl (C_Acc hw) rfl hw (nb rfl) ⟨Nat.zero_le _, Nat.zero_le _⟩ dX8_statement_97) ?_
          refine x_i2l C dX8_statement_100 ?_
          obtain ⟨q38, hq39, hF⟩ := bnd_e hF
          refine x_goM (fun ls h => x_runV (As := [.ref ra34, .long q36.toInt64]) [] h C ml_X8_74 (k_X8_wordAndNumber l D cA s0 z b q32 _ hG ra34 32 q36.toInt64 q38 hq39) ⟨rfl, rfl, nb rfl, nb rfl⟩ rfl (C_Rep hw) rfl ⟨rfl, hw, hst35⟩ (nb rfl) ⟨Nat.zero_le _, Nat.zero_le _⟩ dX8_statement_101) hS (xA_le hS) (fun H locs hw hz hk hS => ?_)
          have hw : WC D cA s0 z b q38 H := hw
          refine x_aload_n C dX8_statement_104 rfl ?_
          refine x_get (.ref (b + 4)) C fl_X8_19 (C_Rep hw) rfl dX8_statement_105 ?_
          refine x_bipush (10 : Int32) C dX8_statement_108 rfl ?_
          obtain ⟨q40, hq41, hF⟩ := bnd_e hF
          refine x_goM (fun ls h => x_runV (As := [.int (10 : Int32)]) [] h C ml_X8_45 (k_X1_put l D cA s0 z b q38 _ hG 4 (10 : Int32) q40 hq41) ⟨rfl, rfl, nb rfl, nb rfl⟩ rfl (C_Byt byt4 hw) rfl ⟨rfl, hw⟩ (nb rfl) ⟨Nat.zero_le _, Nat.zero_le _⟩ dX8_statement_110) hS (xA_le hS) (fun H locs hw hz hk hS => ?_)
          have hw : WC D cA s0 z b q40 H := hw
          refine x_iinc (x2 + (1 : Int32)) [(2, .int (x2 + (1 : Int32))), (0, .ref (b + 2563)), (1, .int a1)] C dX8_statement_113 rfl rfl (by decide) rfl ?_
          refine x_goto 38 C dX8_statement_116 (by decide) ?_
          refine x_sub [(0, .ref (b + 2563)), (1, .int a1), (2, .int (x2 + (1 : Int32)))] [1, 2, 0] rfl ?_
          exact ih38 q40 (x2 + (1 : Int32)) _ _ hw hS hF
  refine x_aload_n C dX8_statement_0 rfl ?_
  refine x_get (.ref (b + 4)) C fl_X8_19 (C_Rep hw) rfl dX8_statement_1 ?_
  refine x_iconst (0 : Int32) C dX8_statement_4 rfl ?_
  refine y_putI (kk0 := 2) 4 C fl_X8_23 hw (l3 (lt_Byt byt4)) (fun nm => S_Byt byt4) (fun nm => S_Byt byt4) rfl rfl (fun _ => nb rfl) dX8_statement_5 hS (xA_in (l3 (lt_Byt byt4))) (fun H locs hw hS => ?_)
  obtain ⟨μ1, hm2, hF⟩ := bnd_e hF
  have hw : WC D cA s0 z b μ1 H := rv_m (W := fun m => WC D cA s0 z b m _) hm2 hw
  refine x_aload_n C dX8_statement_8 rfl ?_
  refine x_get (.ref (b + 4)) C fl_X8_19 (C_Rep hw) rfl dX8_statement_9 ?_
  refine x_aload_n C dX8_statement_12 rfl ?_
  refine x_get (.ref (b + 7)) C fl_X8_9 (C_Rep hw) rfl dX8_statement_13 ?_
  refine x_get (.ref (b + (7 + 1))) C fl_X8_29 (C_Led led7 hw) rfl dX8_statement_16 ?_
  refine x_iload_n C dX8_statement_19 rfl ?_
  obtain ⟨h3, hF⟩ := asr_e hF
  obtain ⟨hn4, hl5⟩ := vpn h3 (by decide)
  refine x_aald 3 C (C_ships led7 hw) rfl hn4 hl5 (by decide) rfl dX8_statement_20 ?_
  obtain ⟨nr6, hq7, hst8⟩ := C_Ship (mk_Ship led7 hl5) hw
  refine x_get (.ref nr6) C fl_X8_35 hq7 rfl dX8_statement_21 ?_
  obtain ⟨q9, hq10, hF⟩ := bnd_e hF
  refine x_goM (fun ls h => x_runV (As := [.ref nr6]) [] h C ml_X8_41 (k_X1_putText l D cA s0 z b μ1 _ hG nr6 4 (μ1.2.2 (7 + (6 + (cl a1))) 0) q9 hq10) ⟨rfl, rfl, nb rfl, nb rfl⟩ rfl (C_Byt byt4 hw) rfl ⟨rfl, hw, hst8⟩ (nb rfl) ⟨Nat.zero_le _, Nat.zero_le _⟩ dX8_statement_24) hS (xA_le hS) (fun H locs hw hz hk hS => ?_)
  have hw : WC D cA s0 z b q9 H := hw
  refine x_aload_n C dX8_statement_27 rfl ?_
  refine x_get (.ref (b + 4)) C fl_X8_19 (C_Rep hw) rfl dX8_statement_28 ?_
  refine x_bipush (10 : Int32) C dX8_statement_31 rfl ?_
  obtain ⟨q11, hq12, hF⟩ := bnd_e hF
  refine x_goM (fun ls h => x_runV (As := [.int (10 : Int32)]) [] h C ml_X8_45 (k_X1_put l D cA s0 z b q9 _ hG 4 (10 : Int32) q11 hq12) ⟨rfl, rfl, nb rfl, nb rfl⟩ rfl (C_Byt byt4 hw) rfl ⟨rfl, hw⟩ (nb rfl) ⟨Nat.zero_le _, Nat.zero_le _⟩ dX8_statement_33) hS (xA_le hS) (fun H locs hw hz hk hS => ?_)
  have hw : WC D cA s0 z b q11 H := hw
  refine x_iconst (0 : Int32) C dX8_statement_36 rfl ?_
  refine x_istore_n [(2, .int (0 : Int32)), (0, .ref (b + 2563)), (1, .int a1)] C dX8_statement_37 rfl (by decide) rfl ?_
  refine x_sub [(0, .ref (b + 2563)), (1, .int a1), (2, .int (0 : Int32))] [1, 2, 0] rfl ?_
  exact h_L38 10000 q11 (0 : Int32) _ _ hw hS hF
noncomputable def g_X8_invoiceDays_L24 (ν : Mm) (a1 : Nat) : Nat → Mm → Nat → Int32 → Option (Mm)
  | 0, _, _, _ => none
  | n + 1, μ0, x2, x3 => (if (30 : Int32) ≤ x3 then some μ0 else bnd (g_X11_contains (μ0.1 a1 6) x3) (fun q9 => (if q9 = true then bnd (g_X8_wordAndNumber μ0 32 x3.toInt64) (fun q14 => bnd (g_X11_contains (q14.1 x2 5) x3) (fun q16 => (if q16 = true then bnd (g_X1_put q14 4 (63 : Int32)) (fun q24 => (g_X8_invoiceDays_L24 ν a1 n q24 x2 (x3 + (1 : Int32)))) else bnd (g_X11_contains (q14.1 x2 6) x3) (fun q19 => (if q19 = true then bnd (g_X1_put q14 4 (45 : Int32)) (fun q22 => (g_X8_invoiceDays_L24 ν a1 n q22 x2 (x3 + (1 : Int32)))) else (g_X8_invoiceDays_L24 ν a1 n q14 x2 (x3 + (1 : Int32)))))))) else (g_X8_invoiceDays_L24 ν a1 n μ0 x2 (x3 + (1 : Int32))))))
noncomputable def g_X8_invoiceDays (ν : Mm) (a1 : Nat) : Option (Mm) := asr (isInv a1) (asr (vp_in (ν.1 a1 1) 40) (bnd (g_X1_putText ν 4 495957664800) (fun q6 => (g_X8_invoiceDays_L24 ν a1 10000 q6 (7 + (14 + (cl (ν.1 a1 1)))) (0 : Int32)))))
set_option maxRecDepth 20000 in
set_option maxHeartbeats 4000000 in
theorem k_X8_invoiceDays (l : Launch) (D : va_G) (cA : Nat → ClassId) (s0 : State) (z : Nat) (b : Nat) (ν : Mm) (sz : Nat) (hG : xG l D cA s0) (a1 : Nat) (r : Mm) (hF : g_X8_invoiceDays ν a1 = some r) : Met l yX8_invoiceDays (wsG yX8_invoiceDays cX8_invoiceDays 4 none) { frames := 6, cells := 0, slots := 0, locals := 130 } (xP D cA s0 [.ref (b + 2563), .ref (b + a1)] (fun H => H.size = sz ∧ WC D cA s0 z b ν H)) (xQm none (fun H => WC D cA s0 z b r H) (xA b 2564 sz)) 0 0 (xA b 2564 sz) := by
  refine x_start (own := RX8) [(0, .ref (b + 2563)), (1, .ref (b + a1))] rfl rfl (by decide) (nb rfl) ?_
  intro p e s m args below meth c C hw
  obtain ⟨hsz, hw⟩ := hw
  subst hsz
  have hS : va_S (xA b 2564 s.heap.size) s.heap s.heap [] := va_S.rf
  obtain ⟨hpa1, hF⟩ := asr_e hF
  have h_L24 : ∀ (n : Nat) (μ0 : Mm) (x2 : Nat) (x3 : Int32) (hpx2 : isCal x2) (H : Heap) (locs : List Loc) (hw : WC D cA s0 z b μ0 H) (hS : va_S (xA b 2564 s.heap.size) s.heap H locs), g_X8_invoiceDays_L24 ν a1 n μ0 x2 x3 = some r → xW p l e { frames := 6, cells := 0, slots := 0, locals := 130 } s m args below meth c 4 (MQ below (xQm none (fun H => WC D cA s0 z b r H) (xA b 2564 s.heap.size)) args s 0 0 (xA b 2564 s.heap.size)) H locs 0 0 24 [(0, .ref (b + 2563)), (1, .ref (b + a1)), (2, .ref (b + x2)), (3, .int x3)] [] := by
    intro n
    induction n with
    | zero =>
      intro μ0 x2 x3 hpx2 H locs hw hS hF
      exact no_some hF
    | succ n ih =>
      intro μ0 x2 x3 hpx2 H locs hw hS hF
      have ih24 := ih
      refine x_iload_n C dX8_invoiceDays_24 rfl ?_
      refine x_bipush (30 : Int32) C dX8_invoiceDays_25 rfl ?_
      refine x_icmp_ge 98 C dX8_invoiceDays_27 (by decide) (fun c8 => ?_) (fun c8 => ?_)
      · have hF := ite_t hF c8
        exact x_vretM2 C rfl dX8_invoiceDays_98 rfl (rv_m (W := fun m => WC D cA s0 z b m _) hF hw) hS (nb rfl) (nb rfl)
      · have hF := ite_f hF c8
        refine x_aload_n C dX8_invoiceDays_30 rfl ?_
        refine x_get (.int (μ0.1 a1 6)) C fl_X8_152 (C_Inv hpa1 hw) rfl dX8_invoiceDays_31 ?_
        refine x_iload_n C dX8_invoiceDays_34 rfl ?_
        obtain ⟨q9, hq10, hF⟩ := bnd_e hF
        refine x_goR (fun ls h => x_runN (As := [.int (μ0.1 a1 6), .int x3]) [] h C ml_X8_102 (k_X11_contains l D cA s0 z hG (μ0.1 a1 6) x3 q9 hq10) ⟨rfl, rfl, nb rfl, nb rfl⟩ rfl trivial (nb rfl) ⟨Nat.zero_le _, Nat.zero_le _⟩ dX8_invoiceDays_35) ?_
        refine x_ifB_eq 92 C dX8_invoiceDays_38 (by decide) (fun c11 => ?_) (fun c11 => ?_)
        · have hF := ite_f hF (nbt c11)
          refine x_iinc (x3 + (1 : Int32)) [(3, .int (x3 + (1 : Int32))), (0, .ref (b + 2563)), (1, .ref (b + a1)), (2, .ref (b + x2))] C dX8_invoiceDays_92 rfl rfl (by decide) rfl ?_
          refine x_goto 24 C dX8_invoiceDays_95 (by decide) ?_
          refine x_sub [(0, .ref (b + 2563)), (1, .ref (b + a1)), (2, .ref (b + x2)), (3, .int (x3 + (1 : Int32)))] [1, 2, 3, 0] rfl ?_
          exact ih24 μ0 x2 (x3 + (1 : Int32)) hpx2 _ _ hw hS hF
        · have hF := ite_t hF c11
          refine x_aload_n C dX8_invoiceDays_41 rfl ?_
          refine x_ldcS (z := z) 32 C hG.2.2.2 xl_X8_62 hw.2.2.2.1 dX8_invoiceDays_42 (fun ra12 hst13 => ?_)
          refine x_iload_n C dX8_invoiceDays_44 rfl ?_
          refine x_i2l C dX8_invoiceDays_45 ?_
          obtain ⟨q14, hq15, hF⟩ := bnd_e hF
          refine x_goM (fun ls h => x_runV (As := [.ref ra12, .long x3.toInt64]) [] h C ml_X8_74 (k_X8_wordAndNumber l D cA s0 z b μ0 _ hG ra12 32 x3.toInt64 q14 hq15) ⟨rfl, rfl, nb rfl, nb rfl⟩ rfl (C_Rep hw) rfl ⟨rfl, hw, hst13⟩ (nb rfl) ⟨Nat.zero_le _, Nat.zero_le _⟩ dX8_invoiceDays_46) hS (xA_le hS) (fun H locs hw hz hk hS => ?_)
          have hw : WC D cA s0 z b q14 H := hw
          refine x_aload_n C dX8_invoiceDays_49 rfl ?_
          refine x_get (.int (q14.1 x2 5)) C fl_X8_155 (C_Cal hpx2 hw) rfl dX8_invoiceDays_50 ?_
          refine x_iload_n C dX8_invoiceDays_53 rfl ?_
          obtain ⟨q16, hq17, hF⟩ := bnd_e hF
          refine x_goR (fun ls h => x_runN (As := [.int (q14.1 x2 5), .int x3]) [] h C ml_X8_102 (k_X11_contains l D cA s0 z hG (q14.1 x2 5) x3 q16 hq17) ⟨rfl, rfl, nb rfl, nb rfl⟩ rfl trivial (nb rfl) ⟨Nat.zero_le _, Nat.zero_le _⟩ dX8_invoiceDays_54) ?_
          refine x_ifB_eq 72 C dX8_invoiceDays_57 (by decide) (fun c18 => ?_) (fun c18 => ?_)
          · have hF := ite_f hF (nbt c18)
            refine x_aload_n C dX8_invoiceDays_72 rfl ?_
            refine x_get (.int (q14.1 x2 6)) C fl_X8_160 (C_Cal hpx2 hw) rfl dX8_invoiceDays_73 ?_
            refine x_iload_n C dX8_invoiceDays_76 rfl ?_
            obtain ⟨q19, hq20, hF⟩ := bnd_e hF
            refine x_goR (fun ls h => x_runN (As := [.int (q14.1 x2 6), .int x3]) [] h C ml_X8_102 (k_X11_contains l D cA s0 z hG (q14.1 x2 6) x3 q19 hq20) ⟨rfl, rfl, nb rfl, nb rfl⟩ rfl trivial (nb rfl) ⟨Nat.zero_le _, Nat.zero_le _⟩ dX8_invoiceDays_77) ?_
            refine x_ifB_eq 92 C dX8_invoiceDays_80 (by decide) (fun c21 => ?_) (fun c21 => ?_)
            · have hF := ite_f hF (nbt c21)
              refine x_iinc (x3 + (1 : Int32)) [(3, .int (x3 + (1 : Int32))), (0, .ref (b + 2563)), (1, .ref (b + a1)), (2, .ref (b + x2))] C dX8_invoiceDays_92 rfl rfl (by decide) rfl ?_
              refine x_goto 24 C dX8_invoiceDays_95 (by decide) ?_
              refine x_sub [(0, .ref (b + 2563)), (1, .ref (b + a1)), (2, .ref (b + x2)), (3, .int (x3 + (1 : Int32)))] [1, 2, 3, 0] rfl ?_
              exact ih24 q14 x2 (x3 + (1 : Int32)) hpx2 _ _ hw hS hF
            · have hF := ite_t hF c21
              refine x_aload_n C dX8_invoiceDays_83 rfl ?_
              refine x_get (.ref (b + 4)) C fl_X8_19 (C_Rep hw) rfl dX8_invoiceDays_84 ?_
              refine x_bipush (45 : Int32) C dX8_invoiceDays_87 rfl ?_
              obtain ⟨q22, hq23, hF⟩ := bnd_e hF
              refine x_goM (fun ls h => x_runV (As := [.int (45 : Int32)]) [] h C ml_X8_45 (k_X1_put l D cA s0 z b q14 _ hG 4 (45 : Int32) q22 hq23) ⟨rfl, rfl, nb rfl, nb rfl⟩ rfl (C_Byt byt4 hw) rfl ⟨rfl, hw⟩ (nb rfl) ⟨Nat.zero_le _, Nat.zero_le _⟩ dX8_invoiceDays_89) hS (xA_le hS) (fun H locs hw hz hk hS => ?_)
              have hw : WC D cA s0 z b q22 H := hw
              refine x_iinc (x3 + (1 : Int32)) [(3, .int (x3 + (1 : Int32))), (0, .ref (b + 2563)), (1, .ref (b + a1)), (2, .ref (b + x2))] C dX8_invoiceDays_92 rfl rfl (by decide) rfl ?_
              refine x_goto 24 C dX8_invoiceDays_95 (by decide) ?_
              refine x_sub [(0, .ref (b + 2563)), (1, .ref (b + a1)), (2, .ref (b + x2)), (3, .int (x3 + (1 : Int32)))] [1, 2, 3, 0] rfl ?_
              exact ih24 q22 x2 (x3 + (1 : Int32)) hpx2 _ _ hw hS hF
          · have hF := ite_t hF c18
            refine x_aload_n C dX8_invoiceDays_60 rfl ?_
            refine x_get (.ref (b + 4)) C fl_X8_19 (C_Rep hw) rfl dX8_invoiceDays_61 ?_
            refine x_bipush (63 : Int32) C dX8_invoiceDays_64 rfl ?_
            obtain ⟨q24, hq25, hF⟩ := bnd_e hF
            refine x_goM (fun ls h => x_runV (As := [.int (63 : Int32)]) [] h C ml_X8_45 (k_X1_put l D cA s0 z b q14 _ hG 4 (63 : Int32) q24 hq25) ⟨rfl, rfl, nb rfl, nb rfl⟩ rfl (C_Byt byt4 hw) rfl ⟨rfl, hw⟩ (nb rfl) ⟨Nat.zero_le _, Nat.zero_le _⟩ dX8_invoiceDays_66) hS (xA_le hS) (fun H locs hw hz hk hS => ?_)
            have hw : WC D cA s0 z b q24 H := hw
            refine x_goto 92 C dX8_invoiceDays_69 (by decide) ?_
            refine x_iinc (x3 + (1 : Int32)) [(3, .int (x3 + (1 : Int32))), (0, .ref (b + 2563)), (1, .ref (b + a1)), (2, .ref (b + x2))] C dX8_invoiceDays_92 rfl rfl (by decide) rfl ?_
            refine x_goto 24 C dX8_invoiceDays_95 (by decide) ?_
            refine x_sub [(0, .ref (b + 2563)), (1, .ref (b + a1)), (2, .ref (b + x2)), (3, .int (x3 + (1 : Int32)))] [1, 2, 3, 0] rfl ?_
            exact ih24 q24 x2 (x3 + (1 : Int32)) hpx2 _ _ hw hS hF
  refine x_aload_n C dX8_invoiceDays_0 rfl ?_
  refine x_get (.ref (b + 7)) C fl_X8_9 (C_Rep hw) rfl dX8_invoiceDays_1 ?_
  refine x_get (.ref (b + (7 + 2))) C fl_X8_146 (C_Led led7 hw) rfl dX8_invoiceDays_4 ?_
  refine x_aload_n C dX8_invoiceDays_7 rfl ?_
  refine x_get (.int (ν.1 a1 1)) C fl_X8_91 (C_Inv hpa1 hw) rfl dX8_invoiceDays_8 ?_
  obtain ⟨h1, hF⟩ := asr_e hF
  obtain ⟨hn2, hl3⟩ := vpn h1 (by decide)
  refine x_aald 4 C (C_calls led7 hw) rfl hn2 hl3 (by decide) rfl dX8_invoiceDays_11 ?_
  refine x_astore_n [(2, .ref (b + (7 + (14 + (cl (ν.1 a1 1)))))), (0, .ref (b + 2563)), (1, .ref (b + a1))] C dX8_invoiceDays_12 rfl (by decide) rfl ?_
  refine x_aload_n C dX8_invoiceDays_13 rfl ?_
  refine x_get (.ref (b + 4)) C fl_X8_19 (C_Rep hw) rfl dX8_invoiceDays_14 ?_
  refine x_ldcS (z := z) 495957664800 C hG.2.2.2 xl_X8_150 hw.2.2.2.1 dX8_invoiceDays_17 (fun ra4 hst5 => ?_)
  obtain ⟨q6, hq7, hF⟩ := bnd_e hF
  refine x_goM (fun ls h => x_runV (As := [.ref ra4]) [] h C ml_X8_41 (k_X1_putText l D cA s0 z b ν _ hG ra4 4 495957664800 q6 hq7) ⟨rfl, rfl, nb rfl, nb rfl⟩ rfl (C_Byt byt4 hw) rfl ⟨rfl, hw, hst5⟩ (nb rfl) ⟨Nat.zero_le _, Nat.zero_le _⟩ dX8_invoiceDays_19) hS (xA_le hS) (fun H locs hw hz hk hS => ?_)
  have hw : WC D cA s0 z b q6 H := hw
  refine x_iconst (0 : Int32) C dX8_invoiceDays_22 rfl ?_
  refine x_istore_n [(3, .int (0 : Int32)), (2, .ref (b + (7 + (14 + (cl (ν.1 a1 1)))))), (0, .ref (b + 2563)), (1, .ref (b + a1))] C dX8_invoiceDays_23 rfl (by decide) rfl ?_
  refine x_sub [(0, .ref (b + 2563)), (1, .ref (b + a1)), (2, .ref (b + (7 + (14 + (cl (ν.1 a1 1)))))), (3, .int (0 : Int32))] [2, 3, 1, 0] rfl ?_
  exact h_L24 10000 q6 (7 + (14 + (cl (ν.1 a1 1)))) (0 : Int32) (mk_Cal led7 hl3) _ _ hw hS hF
noncomputable def g_X8_invoiceLine_J25 (ν : Mm) (a1 : Nat) (a2 : Int32) (μ0 : Mm) : Option (Mm) := bnd (g_X0_rebuiltLine μ0 a1 a2) (fun q11 => bnd (g_X4_stands μ0 a1 a2) (fun q13 => (if q13 = true then asr (vp_in a2 4) ((if q11 = (μ0.1 (a1 + 1) (cl a2)) then bnd (g_X1_put μ0 4 (10 : Int32)) (fun q20 => some q20) else bnd (g_X8_wordAndNumber μ0 139442744864 q11.toInt64) (fun q24 => bnd (g_X1_put q24 4 (10 : Int32)) (fun q26 => some q26)))) else bnd (g_X1_putText μ0 4 1851984991346003960608) (fun q30 => bnd (g_X1_put q30 4 (10 : Int32)) (fun q32 => some q32)))))
noncomputable def g_X8_invoiceLine (ν : Mm) (a1 : Nat) (a2 : Int32) : Option (Mm) := asr (isInv a1) (bnd (g_X8_lineWord ν a2) (fun q1 => asr (vp_in a2 4) (bnd (g_X8_wordAndNumber ν q1 ((ν.1 (a1 + 1) (cl a2)).toInt64)) (fun q8 => (if a2 = (3 : Int32) then bnd (g_X8_invoiceDays q8 a1) (fun q34 => (g_X8_invoiceLine_J25 ν a1 a2 q34)) else (g_X8_invoiceLine_J25 ν a1 a2 q8))))))
set_option maxRecDepth 20000 in
set_option maxHeartbeats 4000000 in
theorem k_X8_invoiceLine (l : Launch) (D : va_G) (cA : Nat → ClassId) (s0 : State) (z : Nat) (b : Nat) (ν : Mm) (sz : Nat) (hG : xG l D cA s0) (a1 : Nat) (a2 : Int32) (r : Mm) (hF : g_X8_invoiceLine ν a1 a2 = some r) : Met l yX8_invoiceLine (wsG yX8_invoiceLine cX8_invoiceLine 4 none) { frames := 7, cells := 0, slots := 0, locals := 153 } (xP D cA s0 [.ref (b + 2563), .ref (b + a1), .int a2] (fun H => H.size = sz ∧ WC D cA s0 z b ν H)) (xQm none (fun H => WC D cA s0 z b r H) (xA b 2564 sz)) 0 0 (xA b 2564 sz) := by
  refine x_start (own := RX8) [(0, .ref (b + 2563)), (1, .ref (b + a1)), (2, .int a2)] rfl rfl (by decide) (nb rfl) ?_
  intro p e s m args below meth c C hw
  obtain ⟨hsz, hw⟩ := hw
  subst hsz
  have hS : va_S (xA b 2564 s.heap.size) s.heap s.heap [] := va_S.rf
  obtain ⟨hpa1, hF⟩ := asr_e hF
  have h_J25 : ∀ (μ0 : Mm) (H : Heap) (locs : List Loc) (hw : WC D cA s0 z b μ0 H) (hS : va_S (xA b 2564 s.heap.size) s.heap H locs), g_X8_invoiceLine_J25 ν a1 a2 μ0 = some r → xW p l e { frames := 7, cells := 0, slots := 0, locals := 153 } s m args below meth c 4 (MQ below (xQm none (fun H => WC D cA s0 z b r H) (xA b 2564 s.heap.size)) args s 0 0 (xA b 2564 s.heap.size)) H locs 0 0 25 [(0, .ref (b + 2563)), (1, .ref (b + a1)), (2, .int a2)] [] := by
    intro μ0 H locs hw hS hF
    refine x_aload_n C dX8_invoiceLine_25 rfl ?_
    refine x_get (.ref (b + 2562)) C fl_X8_15 (C_Rep hw) rfl dX8_invoiceLine_26 ?_
    refine x_aload_n C dX8_invoiceLine_29 rfl ?_
    refine x_iload_n C dX8_invoiceLine_30 rfl ?_
    obtain ⟨q11, hq12, hF⟩ := bnd_e hF
    refine x_goR (fun ls h => x_runV (As := [.ref (b + a1), .int a2]) [] h C ml_X8_126 (k_X0_rebuiltLine l D cA s0 z b μ0 hG a1 a2 q11 hq12) ⟨rfl, rfl, nb rfl, nb rfl⟩ rfl (C_Acc hw) rfl hw (nb rfl) ⟨Nat.zero_le _, Nat.zero_le _⟩ dX8_invoiceLine_31) ?_
    refine x_istore_n [(3, .int q11), (0, .ref (b + 2563)), (1, .ref (b + a1)), (2, .int a2)] C dX8_invoiceLine_34 rfl (by decide) rfl ?_
    refine x_aload_n C dX8_invoiceLine_35 rfl ?_
    refine x_iload_n C dX8_invoiceLine_36 rfl ?_
    obtain ⟨q13, hq14, hF⟩ := bnd_e hF
    refine x_goR (fun ls h => x_runV (As := [.int a2]) [] h C ml_X8_130 (k_X4_stands l D cA s0 z b μ0 hG a1 a2 q13 hq14) ⟨rfl, rfl, nb rfl, nb rfl⟩ rfl (C_Inv hpa1 hw) rfl hw (nb rfl) ⟨Nat.zero_le _, Nat.zero_le _⟩ dX8_invoiceLine_37) ?_
    refine x_ifB_ne 55 C dX8_invoiceLine_40 (by decide) (fun c15 => ?_) (fun c15 => ?_)
    · have hF := ite_t hF c15
      refine x_iload_n C dX8_invoiceLine_55 rfl ?_
      refine x_aload_n C dX8_invoiceLine_56 rfl ?_
      refine x_get (.ref (b + (a1 + 1))) C fl_X8_118 (C_Inv hpa1 hw) rfl dX8_invoiceLine_57 ?_
      refine x_iload_n C dX8_invoiceLine_60 rfl ?_
      obtain ⟨h16, hF⟩ := asr_e hF
      obtain ⟨hn17, hl18⟩ := vpn h16 (by decide)
      refine x_ialdN C (C_amounts hpa1 hw) hn17 hl18 (by decide) dX8_invoiceLine_61 ?_
      refine x_icmp_eq 73 C dX8_invoiceLine_62 (by decide) (fun c19 => ?_) (fun c19 => ?_)
      · have hF := ite_t hF c19
        refine x_aload_n C dX8_invoiceLine_73 rfl ?_
        refine x_get (.ref (b + 4)) C fl_X8_19 (C_Rep hw) rfl dX8_invoiceLine_74 ?_
        refine x_bipush (10 : Int32) C dX8_invoiceLine_77 rfl ?_
        obtain ⟨q20, hq21, hF⟩ := bnd_e hF
        refine x_goM (fun ls h => x_runV (As := [.int (10 : Int32)]) [] h C ml_X8_45 (k_X1_put l D cA s0 z b μ0 _ hG 4 (10 : Int32) q20 hq21) ⟨rfl, rfl, nb rfl, nb rfl⟩ rfl (C_Byt byt4 hw) rfl ⟨rfl, hw⟩ (nb rfl) ⟨Nat.zero_le _, Nat.zero_le _⟩ dX8_invoiceLine_79) hS (xA_le hS) (fun H locs hw hz hk hS => ?_)
        have hw : WC D cA s0 z b q20 H := hw
        exact x_vretM2 C rfl dX8_invoiceLine_82 rfl (rv_m (W := fun m => WC D cA s0 z b m _) hF hw) hS (nb rfl) (nb rfl)
      · have hF := ite_f hF c19
        refine x_aload_n C dX8_invoiceLine_65 rfl ?_
        refine x_ldcS (z := z) 139442744864 C hG.2.2.2 xl_X8_136 hw.2.2.2.1 dX8_invoiceLine_66 (fun ra22 hst23 => ?_)
        refine x_iload_n C dX8_invoiceLine_68 rfl ?_
        refine x_i2l C dX8_invoiceLine_69 ?_
        obtain ⟨q24, hq25, hF⟩ := bnd_e hF
        refine x_goM (fun ls h => x_runV (As := [.ref ra22, .long q11.toInt64]) [] h C ml_X8_74 (k_X8_wordAndNumber l D cA s0 z b μ0 _ hG ra22 139442744864 q11.toInt64 q24 hq25) ⟨rfl, rfl, nb rfl, nb rfl⟩ rfl (C_Rep hw) rfl ⟨rfl, hw, hst23⟩ (nb rfl) ⟨Nat.zero_le _, Nat.zero_le _⟩ dX8_invoiceLine_70) hS (xA_le hS) (fun H locs hw hz hk hS => ?_)
        have hw : WC D cA s0 z b q24 H := hw
        refine x_aload_n C dX8_invoiceLine_73 rfl ?_
        refine x_get (.ref (b + 4)) C fl_X8_19 (C_Rep hw) rfl dX8_invoiceLine_74 ?_
        refine x_bipush (10 : Int32) C dX8_invoiceLine_77 rfl ?_
        obtain ⟨q26, hq27, hF⟩ := bnd_e hF
        refine x_goM (fun ls h => x_runV (As := [.int (10 : Int32)]) [] h C ml_X8_45 (k_X1_put l D cA s0 z b q24 _ hG 4 (10 : Int32) q26 hq27) ⟨rfl, rfl, nb rfl, nb rfl⟩ rfl (C_Byt byt4 hw) rfl ⟨rfl, hw⟩ (nb rfl) ⟨Nat.zero_le _, Nat.zero_le _⟩ dX8_invoiceLine_79) hS (xA_le hS) (fun H locs hw hz hk hS => ?_)
        have hw : WC D cA s0 z b q26 H := hw
        exact x_vretM2 C rfl dX8_invoiceLine_82 rfl (rv_m (W := fun m => WC D cA s0 z b m _) hF hw) hS (nb rfl) (nb rfl)
    · have hF := ite_f hF (nbt c15)
      refine x_aload_n C dX8_invoiceLine_43 rfl ?_
      refine x_get (.ref (b + 4)) C fl_X8_19 (C_Rep hw) rfl dX8_invoiceLine_44 ?_
      refine x_ldcS (z := z) 1851984991346003960608 C hG.2.2.2 xl_X8_134 hw.2.2.2.1 dX8_invoiceLine_47 (fun ra28 hst29 => ?_)
      obtain ⟨q30, hq31, hF⟩ := bnd_e hF
      refine x_goM (fun ls h => x_runV (As := [.ref ra28]) [] h C ml_X8_41 (k_X1_putText l D cA s0 z b μ0 _ hG ra28 4 1851984991346003960608 q30 hq31) ⟨rfl, rfl, nb rfl, nb rfl⟩ rfl (C_Byt byt4 hw) rfl ⟨rfl, hw, hst29⟩ (nb rfl) ⟨Nat.zero_le _, Nat.zero_le _⟩ dX8_invoiceLine_49) hS (xA_le hS) (fun H locs hw hz hk hS => ?_)
      have hw : WC D cA s0 z b q30 H := hw
      refine x_goto 73 C dX8_invoiceLine_52 (by decide) ?_
      refine x_aload_n C dX8_invoiceLine_73 rfl ?_
      refine x_get (.ref (b + 4)) C fl_X8_19 (C_Rep hw) rfl dX8_invoiceLine_74 ?_
      refine x_bipush (10 : Int32) C dX8_invoiceLine_77 rfl ?_
      obtain ⟨q32, hq33, hF⟩ := bnd_e hF
      refine x_goM (fun ls h => x_runV (As := [.int (10 : Int32)]) [] h C ml_X8_45 (k_X1_put l D cA s0 z b q30 _ hG 4 (10 : Int32) q32 hq33) ⟨rfl, rfl, nb rfl, nb rfl⟩ rfl (C_Byt byt4 hw) rfl ⟨rfl, hw⟩ (nb rfl) ⟨Nat.zero_le _, Nat.zero_le _⟩ dX8_invoiceLine_79) hS (xA_le hS) (fun H locs hw hz hk hS => ?_)
      have hw : WC D cA s0 z b q32 H := hw
      exact x_vretM2 C rfl dX8_invoiceLine_82 rfl (rv_m (W := fun m => WC D cA s0 z b m _) hF hw) hS (nb rfl) (nb rfl)
  refine x_aload_n C dX8_invoiceLine_0 rfl ?_
  refine x_iload_n C dX8_invoiceLine_1 rfl ?_
  obtain ⟨q1, hq2, hF⟩ := bnd_e hF
  refine x_goRS (fun ls h => x_runS (As := [.int a2]) [.ref (b + 2563)] h C ml_X8_114 (k_X8_lineWord l D cA s0 z b ν hG a2 q1 hq2) ⟨rfl, rfl, nb rfl, nb rfl⟩ rfl hw (nb rfl) ⟨Nat.zero_le _, Nat.zero_le _⟩ dX8_invoiceLine_2) (fun ra3 hst4 => ?_)
  refine x_aload_n C dX8_invoiceLine_5 rfl ?_
  refine x_get (.ref (b + (a1 + 1))) C fl_X8_118 (C_Inv hpa1 hw) rfl dX8_invoiceLine_6 ?_
  refine x_iload_n C dX8_invoiceLine_9 rfl ?_
  obtain ⟨h5, hF⟩ := asr_e hF
  obtain ⟨hn6, hl7⟩ := vpn h5 (by decide)
  refine x_ialdN C (C_amounts hpa1 hw) hn6 hl7 (by decide) dX8_invoiceLine_10 ?_
  refine x_i2l C dX8_invoiceLine_11 ?_
  obtain ⟨q8, hq9, hF⟩ := bnd_e hF
  refine x_goM (fun ls h => x_runV (As := [.ref ra3, .long ((ν.1 (a1 + 1) (cl a2)).toInt64)]) [] h C ml_X8_74 (k_X8_wordAndNumber l D cA s0 z b ν _ hG ra3 q1 ((ν.1 (a1 + 1) (cl a2)).toInt64) q8 hq9) ⟨rfl, rfl, nb rfl, nb rfl⟩ rfl (C_Rep hw) rfl ⟨rfl, hw, hst4⟩ (nb rfl) ⟨Nat.zero_le _, Nat.zero_le _⟩ dX8_invoiceLine_12) hS (xA_le hS) (fun H locs hw hz hk hS => ?_)
  have hw : WC D cA s0 z b q8 H := hw
  refine x_iload_n C dX8_invoiceLine_15 rfl ?_
  refine x_iconst (3 : Int32) C dX8_invoiceLine_16 rfl ?_
  refine x_icmp_ne 25 C dX8_invoiceLine_17 (by decide) (fun c10 => ?_) (fun c10 => ?_)
  · have hF := ite_f hF c10
    exact h_J25 q8 _ _ hw hS hF
  · have hF := ite_t hF c10
    refine x_aload_n C dX8_invoiceLine_20 rfl ?_
    refine x_aload_n C dX8_invoiceLine_21 rfl ?_
    obtain ⟨q34, hq35, hF⟩ := bnd_e hF
    refine x_goM (fun ls h => x_runV (As := [.ref (b + a1)]) [] h C ml_X8_122 (k_X8_invoiceDays l D cA s0 z b q8 _ hG a1 q34 hq35) ⟨rfl, rfl, nb rfl, nb rfl⟩ rfl (C_Rep hw) rfl ⟨rfl, hw⟩ (nb rfl) ⟨Nat.zero_le _, Nat.zero_le _⟩ dX8_invoiceLine_22) hS (xA_le hS) (fun H locs hw hz hk hS => ?_)
    have hw : WC D cA s0 z b q34 H := hw
    exact h_J25 q34 _ _ hw hS hF
noncomputable def g_X8_invoiceSheet_L94 (ν : Mm) (a1 : Int32) : Nat → Mm → Nat → Int32 → Option (Mm)
  | 0, _, _, _ => none
  | n + 1, μ0, x2, x3 => (if (4 : Int32) ≤ x3 then bnd (g_X4_netAmount μ0 x2) (fun q37 => bnd (g_X8_wordAndNumber μ0 544499054 q37.toInt64) (fun q39 => bnd (g_X0_openAmount q39 a1) (fun q43 => bnd (g_X8_wordAndNumber q39 35658520358688 q43.toInt64) (fun q45 => bnd (g_X1_put q45 4 (10 : Int32)) (fun q47 => some q47))))) else bnd (g_X11_contains (μ0.1 x2 4) x3) (fun q49 => (if q49 = true then bnd (g_X8_invoiceLine μ0 x2 x3) (fun q52 => (g_X8_invoiceSheet_L94 ν a1 n q52 x2 (x3 + (1 : Int32)))) else (g_X8_invoiceSheet_L94 ν a1 n μ0 x2 (x3 + (1 : Int32))))))
noncomputable def g_X8_invoiceSheet (ν : Mm) (a1 : Int32) : Option (Mm) := asr (vp_in a1 60) (bnd (some (uI ν 4 2 (0 : Int32))) (fun μ4 => bnd (g_X8_wordAndNumber μ4 2334381286354218601 a1.toInt64) (fun q8 => bnd (g_X1_putText q8 4 35667176878880) (fun q12 => bnd (g_X0_shipOf q12 a1) (fun q14 => asr (vp_in q14 8) (bnd (g_X1_putText q12 4 (q12.2.2 (7 + (6 + (cl q14))) 0)) (fun q22 => bnd (g_X8_wordAndNumber q22 35650046878496 ((q22.1 (7 + (54 + 2 * (cl a1))) 1).toInt64)) (fun q26 => bnd (g_X8_wordAndNumber q26 35620116325408 ((q26.1 (7 + (54 + 2 * (cl a1))) 2).toInt64)) (fun q30 => bnd (g_X1_put q30 4 (10 : Int32)) (fun q32 => (g_X8_invoiceSheet_L94 ν a1 10000 q32 (7 + (54 + 2 * (cl a1))) (0 : Int32))))))))))))
set_option maxRecDepth 20000 in
set_option maxHeartbeats 4000000 in
theorem k_X8_invoiceSheet (l : Launch) (D : va_G) (cA : Nat → ClassId) (s0 : State) (z : Nat) (b : Nat) (ν : Mm) (sz : Nat) (hG : xG l D cA s0) (a1 : Int32) (r : Mm) (hF : g_X8_invoiceSheet ν a1 = some r) : Met l yX8_invoiceSheet (wsG yX8_invoiceSheet cX8_invoiceSheet 4 none) { frames := 8, cells := 0, slots := 0, locals := 176 } (xP D cA s0 [.ref (b + 2563), .int a1] (fun H => H.size = sz ∧ WC D cA s0 z b ν H)) (xQm none (fun H => WC D cA s0 z b r H) (xA b 2564 sz)) 0 0 (xA b 2564 sz) := by
  refine x_start (own := RX8) [(0, .ref (b + 2563)), (1, .int a1)] rfl rfl (by decide) (nb rfl) ?_
  intro p e s m args below meth c C hw
  obtain ⟨hsz, hw⟩ := hw
  subst hsz
  have hS : va_S (xA b 2564 s.heap.size) s.heap s.heap [] := va_S.rf
  have h_L94 : ∀ (n : Nat) (μ0 : Mm) (x2 : Nat) (x3 : Int32) (hpx2 : isInv x2) (H : Heap) (locs : List Loc) (hw : WC D cA s0 z b μ0 H) (hS : va_S (xA b 2564 s.heap.size) s.heap H locs), g_X8_invoiceSheet_L94 ν a1 n μ0 x2 x3 = some r → xW p l e { frames := 8, cells := 0, slots := 0, locals := 176 } s m args below meth c 4 (MQ below (xQm none (fun H => WC D cA s0 z b r H) (xA b 2564 s.heap.size)) args s 0 0 (xA b 2564 s.heap.size)) H locs 0 0 94 [(0, .ref (b + 2563)), (1, .int a1), (2, .ref (b + x2)), (3, .int x3)] [] := by
    intro n
    induction n with
    | zero =>
      intro μ0 x2 x3 hpx2 H locs hw hS hF
      exact no_some hF
    | succ n ih =>
      intro μ0 x2 x3 hpx2 H locs hw hS hF
      have ih94 := ih
      refine x_iload_n C dX8_invoiceSheet_94 rfl ?_
      refine x_iconst (4 : Int32) C dX8_invoiceSheet_95 rfl ?_
      refine x_icmp_ge 122 C dX8_invoiceSheet_96 (by decide) (fun c34 => ?_) (fun c34 => ?_)
      · have hF := ite_t hF c34
        refine x_aload_n C dX8_invoiceSheet_122 rfl ?_
        refine x_ldcS (z := z) 544499054 C hG.2.2.2 xl_X8_110 hw.2.2.2.1 dX8_invoiceSheet_123 (fun ra35 hst36 => ?_)
        refine x_aload_n C dX8_invoiceSheet_125 rfl ?_
        obtain ⟨q37, hq38, hF⟩ := bnd_e hF
        refine x_goR (fun ls h => x_runV (As := []) [.ref ra35, .ref (b + 2563)] h C ml_X8_68 (k_X4_netAmount l D cA s0 z b μ0 hG x2 q37 hq38) ⟨rfl, rfl, nb rfl, nb rfl⟩ rfl (C_Inv hpx2 hw) rfl hw (nb rfl) ⟨Nat.zero_le _, Nat.zero_le _⟩ dX8_invoiceSheet_126) ?_
        refine x_i2l C dX8_invoiceSheet_129 ?_
        obtain ⟨q39, hq40, hF⟩ := bnd_e hF
        refine x_goM (fun ls h => x_runV (As := [.ref ra35, .long q37.toInt64]) [] h C ml_X8_74 (k_X8_wordAndNumber l D cA s0 z b μ0 _ hG ra35 544499054 q37.toInt64 q39 hq40) ⟨rfl, rfl, nb rfl, nb rfl⟩ rfl (C_Rep hw) rfl ⟨rfl, hw, hst36⟩ (nb rfl) ⟨Nat.zero_le _, Nat.zero_le _⟩ dX8_invoiceSheet_130) hS (xA_le hS) (fun H locs hw hz hk hS => ?_)
        have hw : WC D cA s0 z b q39 H := hw
        refine x_aload_n C dX8_invoiceSheet_133 rfl ?_
        refine x_ldcS (z := z) 35658520358688 C hG.2.2.2 xl_X8_112 hw.2.2.2.1 dX8_invoiceSheet_134 (fun ra41 hst42 => ?_)
        refine x_aload_n C dX8_invoiceSheet_136 rfl ?_
        refine x_get (.ref (b + 2562)) C fl_X8_15 (C_Rep hw) rfl dX8_invoiceSheet_137 ?_
        refine x_iload_n C dX8_invoiceSheet_140 rfl ?_
        obtain ⟨q43, hq44, hF⟩ := bnd_e hF
        refine x_goR (fun ls h => x_runV (As := [.int a1]) [.ref ra41, .ref (b + 2563)] h C ml_X8_78 (k_X0_openAmount l D cA s0 z b q39 hG a1 q43 hq44) ⟨rfl, rfl, nb rfl, nb rfl⟩ rfl (C_Acc hw) rfl hw (nb rfl) ⟨Nat.zero_le _, Nat.zero_le _⟩ dX8_invoiceSheet_141) ?_
        refine x_i2l C dX8_invoiceSheet_144 ?_
        obtain ⟨q45, hq46, hF⟩ := bnd_e hF
        refine x_goM (fun ls h => x_runV (As := [.ref ra41, .long q43.toInt64]) [] h C ml_X8_74 (k_X8_wordAndNumber l D cA s0 z b q39 _ hG ra41 35658520358688 q43.toInt64 q45 hq46) ⟨rfl, rfl, nb rfl, nb rfl⟩ rfl (C_Rep hw) rfl ⟨rfl, hw, hst42⟩ (nb rfl) ⟨Nat.zero_le _, Nat.zero_le _⟩ dX8_invoiceSheet_145) hS (xA_le hS) (fun H locs hw hz hk hS => ?_)
        have hw : WC D cA s0 z b q45 H := hw
        refine x_aload_n C dX8_invoiceSheet_148 rfl ?_
        refine x_get (.ref (b + 4)) C fl_X8_19 (C_Rep hw) rfl dX8_invoiceSheet_149 ?_
        refine x_bipush (10 : Int32) C dX8_invoiceSheet_152 rfl ?_
        obtain ⟨q47, hq48, hF⟩ := bnd_e hF
        refine x_goM (fun ls h => x_runV (As := [.int (10 : Int32)]) [] h C ml_X8_45 (k_X1_put l D cA s0 z b q45 _ hG 4 (10 : Int32) q47 hq48) ⟨rfl, rfl, nb rfl, nb rfl⟩ rfl (C_Byt byt4 hw) rfl ⟨rfl, hw⟩ (nb rfl) ⟨Nat.zero_le _, Nat.zero_le _⟩ dX8_invoiceSheet_154) hS (xA_le hS) (fun H locs hw hz hk hS => ?_)
        have hw : WC D cA s0 z b q47 H := hw
        exact x_vretM2 C rfl dX8_invoiceSheet_157 rfl (rv_m (W := fun m => WC D cA s0 z b m _) hF hw) hS (nb rfl) (nb rfl)
      · have hF := ite_f hF c34
        refine x_aload_n C dX8_invoiceSheet_99 rfl ?_
        refine x_get (.int (μ0.1 x2 4)) C fl_X8_99 (C_Inv hpx2 hw) rfl dX8_invoiceSheet_100 ?_
        refine x_iload_n C dX8_invoiceSheet_103 rfl ?_
        obtain ⟨q49, hq50, hF⟩ := bnd_e hF
        refine x_goR (fun ls h => x_runN (As := [.int (μ0.1 x2 4), .int x3]) [] h C ml_X8_102 (k_X11_contains l D cA s0 z hG (μ0.1 x2 4) x3 q49 hq50) ⟨rfl, rfl, nb rfl, nb rfl⟩ rfl trivial (nb rfl) ⟨Nat.zero_le _, Nat.zero_le _⟩ dX8_invoiceSheet_104) ?_
        refine x_ifB_eq 116 C dX8_invoiceSheet_107 (by decide) (fun c51 => ?_) (fun c51 => ?_)
        · have hF := ite_f hF (nbt c51)
          refine x_iinc (x3 + (1 : Int32)) [(3, .int (x3 + (1 : Int32))), (0, .ref (b + 2563)), (1, .int a1), (2, .ref (b + x2))] C dX8_invoiceSheet_116 rfl rfl (by decide) rfl ?_
          refine x_goto 94 C dX8_invoiceSheet_119 (by decide) ?_
          refine x_sub [(0, .ref (b + 2563)), (1, .int a1), (2, .ref (b + x2)), (3, .int (x3 + (1 : Int32)))] [1, 2, 3, 0] rfl ?_
          exact ih94 μ0 x2 (x3 + (1 : Int32)) hpx2 _ _ hw hS hF
        · have hF := ite_t hF c51
          refine x_aload_n C dX8_invoiceSheet_110 rfl ?_
          refine x_aload_n C dX8_invoiceSheet_111 rfl ?_
          refine x_iload_n C dX8_invoiceSheet_112 rfl ?_
          obtain ⟨q52, hq53, hF⟩ := bnd_e hF
          refine x_goM (fun ls h => x_runV (As := [.ref (b + x2), .int x3]) [] h C ml_X8_106 (k_X8_invoiceLine l D cA s0 z b μ0 _ hG x2 x3 q52 hq53) ⟨rfl, rfl, nb rfl, nb rfl⟩ rfl (C_Rep hw) rfl ⟨rfl, hw⟩ (nb rfl) ⟨Nat.zero_le _, Nat.zero_le _⟩ dX8_invoiceSheet_113) hS (xA_le hS) (fun H locs hw hz hk hS => ?_)
          have hw : WC D cA s0 z b q52 H := hw
          refine x_iinc (x3 + (1 : Int32)) [(3, .int (x3 + (1 : Int32))), (0, .ref (b + 2563)), (1, .int a1), (2, .ref (b + x2))] C dX8_invoiceSheet_116 rfl rfl (by decide) rfl ?_
          refine x_goto 94 C dX8_invoiceSheet_119 (by decide) ?_
          refine x_sub [(0, .ref (b + 2563)), (1, .int a1), (2, .ref (b + x2)), (3, .int (x3 + (1 : Int32)))] [1, 2, 3, 0] rfl ?_
          exact ih94 q52 x2 (x3 + (1 : Int32)) hpx2 _ _ hw hS hF
  refine x_aload_n C dX8_invoiceSheet_0 rfl ?_
  refine x_get (.ref (b + 7)) C fl_X8_9 (C_Rep hw) rfl dX8_invoiceSheet_1 ?_
  refine x_get (.ref (b + (7 + 3))) C fl_X8_64 (C_Led led7 hw) rfl dX8_invoiceSheet_4 ?_
  refine x_iload_n C dX8_invoiceSheet_7 rfl ?_
  obtain ⟨h1, hF⟩ := asr_e hF
  obtain ⟨hn2, hl3⟩ := vpn h1 (by decide)
  refine x_aald 5 C (C_invoices led7 hw) rfl hn2 hl3 (by decide) rfl dX8_invoiceSheet_8 ?_
  refine x_astore_n [(2, .ref (b + (7 + (54 + 2 * (cl a1))))), (0, .ref (b + 2563)), (1, .int a1)] C dX8_invoiceSheet_9 rfl (by decide) rfl ?_
  refine x_aload_n C dX8_invoiceSheet_10 rfl ?_
  refine x_get (.ref (b + 4)) C fl_X8_19 (C_Rep hw) rfl dX8_invoiceSheet_11 ?_
  refine x_iconst (0 : Int32) C dX8_invoiceSheet_14 rfl ?_
  refine y_putI (kk0 := 2) 4 C fl_X8_23 hw (l3 (lt_Byt byt4)) (fun nm => S_Byt byt4) (fun nm => S_Byt byt4) rfl rfl (fun _ => nb rfl) dX8_invoiceSheet_15 hS (xA_in (l3 (lt_Byt byt4))) (fun H locs hw hS => ?_)
  obtain ⟨μ4, hm5, hF⟩ := bnd_e hF
  have hw : WC D cA s0 z b μ4 H := rv_m (W := fun m => WC D cA s0 z b m _) hm5 hw
  refine x_aload_n C dX8_invoiceSheet_18 rfl ?_
  refine x_ldcS (z := z) 2334381286354218601 C hG.2.2.2 xl_X8_85 hw.2.2.2.1 dX8_invoiceSheet_19 (fun ra6 hst7 => ?_)
  refine x_iload_n C dX8_invoiceSheet_21 rfl ?_
  refine x_i2l C dX8_invoiceSheet_22 ?_
  obtain ⟨q8, hq9, hF⟩ := bnd_e hF
  refine x_goM (fun ls h => x_runV (As := [.ref ra6, .long a1.toInt64]) [] h C ml_X8_74 (k_X8_wordAndNumber l D cA s0 z b μ4 _ hG ra6 2334381286354218601 a1.toInt64 q8 hq9) ⟨rfl, rfl, nb rfl, nb rfl⟩ rfl (C_Rep hw) rfl ⟨rfl, hw, hst7⟩ (nb rfl) ⟨Nat.zero_le _, Nat.zero_le _⟩ dX8_invoiceSheet_23) hS (xA_le hS) (fun H locs hw hz hk hS => ?_)
  have hw : WC D cA s0 z b q8 H := hw
  refine x_aload_n C dX8_invoiceSheet_26 rfl ?_
  refine x_get (.ref (b + 4)) C fl_X8_19 (C_Rep hw) rfl dX8_invoiceSheet_27 ?_
  refine x_ldcS (z := z) 35667176878880 C hG.2.2.2 xl_X8_87 hw.2.2.2.1 dX8_invoiceSheet_30 (fun ra10 hst11 => ?_)
  obtain ⟨q12, hq13, hF⟩ := bnd_e hF
  refine x_goM (fun ls h => x_runV (As := [.ref ra10]) [] h C ml_X8_41 (k_X1_putText l D cA s0 z b q8 _ hG ra10 4 35667176878880 q12 hq13) ⟨rfl, rfl, nb rfl, nb rfl⟩ rfl (C_Byt byt4 hw) rfl ⟨rfl, hw, hst11⟩ (nb rfl) ⟨Nat.zero_le _, Nat.zero_le _⟩ dX8_invoiceSheet_32) hS (xA_le hS) (fun H locs hw hz hk hS => ?_)
  have hw : WC D cA s0 z b q12 H := hw
  refine x_aload_n C dX8_invoiceSheet_35 rfl ?_
  refine x_get (.ref (b + 4)) C fl_X8_19 (C_Rep hw) rfl dX8_invoiceSheet_36 ?_
  refine x_aload_n C dX8_invoiceSheet_39 rfl ?_
  refine x_get (.ref (b + 7)) C fl_X8_9 (C_Rep hw) rfl dX8_invoiceSheet_40 ?_
  refine x_get (.ref (b + (7 + 1))) C fl_X8_29 (C_Led led7 hw) rfl dX8_invoiceSheet_43 ?_
  refine x_aload_n C dX8_invoiceSheet_46 rfl ?_
  refine x_get (.ref (b + 2562)) C fl_X8_15 (C_Rep hw) rfl dX8_invoiceSheet_47 ?_
  refine x_iload_n C dX8_invoiceSheet_50 rfl ?_
  obtain ⟨q14, hq15, hF⟩ := bnd_e hF
  refine x_goR (fun ls h => x_runV (As := [.int a1]) [.ref (b + (7 + 1)), .ref (b + 4)] h C ml_X8_52 (k_X0_shipOf l D cA s0 z b q12 hG a1 q14 hq15) ⟨rfl, rfl, nb rfl, nb rfl⟩ rfl (C_Acc hw) rfl hw (nb rfl) ⟨Nat.zero_le _, Nat.zero_le _⟩ dX8_invoiceSheet_51) ?_
  obtain ⟨h16, hF⟩ := asr_e hF
  obtain ⟨hn17, hl18⟩ := vpn h16 (by decide)
  refine x_aald 3 C (C_ships led7 hw) rfl hn17 hl18 (by decide) rfl dX8_invoiceSheet_54 ?_
  obtain ⟨nr19, hq20, hst21⟩ := C_Ship (mk_Ship led7 hl18) hw
  refine x_get (.ref nr19) C fl_X8_35 hq20 rfl dX8_invoiceSheet_55 ?_
  obtain ⟨q22, hq23, hF⟩ := bnd_e hF
  refine x_goM (fun ls h => x_runV (As := [.ref nr19]) [] h C ml_X8_41 (k_X1_putText l D cA s0 z b q12 _ hG nr19 4 (q12.2.2 (7 + (6 + (cl q14))) 0) q22 hq23) ⟨rfl, rfl, nb rfl, nb rfl⟩ rfl (C_Byt byt4 hw) rfl ⟨rfl, hw, hst21⟩ (nb rfl) ⟨Nat.zero_le _, Nat.zero_le _⟩ dX8_invoiceSheet_58) hS (xA_le hS) (fun H locs hw hz hk hS => ?_)
  have hw : WC D cA s0 z b q22 H := hw
  refine x_aload_n C dX8_invoiceSheet_61 rfl ?_
  refine x_ldcS (z := z) 35650046878496 C hG.2.2.2 xl_X8_89 hw.2.2.2.1 dX8_invoiceSheet_62 (fun ra24 hst25 => ?_)
  refine x_aload_n C dX8_invoiceSheet_64 rfl ?_
  refine x_get (.int (q22.1 (7 + (54 + 2 * (cl a1))) 1)) C fl_X8_91 (C_Inv (mk_Inv led7 hl3) hw) rfl dX8_invoiceSheet_65 ?_
  refine x_i2l C dX8_invoiceSheet_68 ?_
  obtain ⟨q26, hq27, hF⟩ := bnd_e hF
  refine x_goM (fun ls h => x_runV (As := [.ref ra24, .long ((q22.1 (7 + (54 + 2 * (cl a1))) 1).toInt64)]) [] h C ml_X8_74 (k_X8_wordAndNumber l D cA s0 z b q22 _ hG ra24 35650046878496 ((q22.1 (7 + (54 + 2 * (cl a1))) 1).toInt64) q26 hq27) ⟨rfl, rfl, nb rfl, nb rfl⟩ rfl (C_Rep hw) rfl ⟨rfl, hw, hst25⟩ (nb rfl) ⟨Nat.zero_le _, Nat.zero_le _⟩ dX8_invoiceSheet_69) hS (xA_le hS) (fun H locs hw hz hk hS => ?_)
  have hw : WC D cA s0 z b q26 H := hw
  refine x_aload_n C dX8_invoiceSheet_72 rfl ?_
  refine x_ldcS (z := z) 35620116325408 C hG.2.2.2 xl_X8_94 hw.2.2.2.1 dX8_invoiceSheet_73 (fun ra28 hst29 => ?_)
  refine x_aload_n C dX8_invoiceSheet_75 rfl ?_
  refine x_get (.int (q26.1 (7 + (54 + 2 * (cl a1))) 2)) C fl_X8_96 (C_Inv (mk_Inv led7 hl3) hw) rfl dX8_invoiceSheet_76 ?_
  refine x_i2l C dX8_invoiceSheet_79 ?_
  obtain ⟨q30, hq31, hF⟩ := bnd_e hF
  refine x_goM (fun ls h => x_runV (As := [.ref ra28, .long ((q26.1 (7 + (54 + 2 * (cl a1))) 2).toInt64)]) [] h C ml_X8_74 (k_X8_wordAndNumber l D cA s0 z b q26 _ hG ra28 35620116325408 ((q26.1 (7 + (54 + 2 * (cl a1))) 2).toInt64) q30 hq31) ⟨rfl, rfl, nb rfl, nb rfl⟩ rfl (C_Rep hw) rfl ⟨rfl, hw, hst29⟩ (nb rfl) ⟨Nat.zero_le _, Nat.zero_le _⟩ dX8_invoiceSheet_80) hS (xA_le hS) (fun H locs hw hz hk hS => ?_)
  have hw : WC D cA s0 z b q30 H := hw
  refine x_aload_n C dX8_invoiceSheet_83 rfl ?_
  refine x_get (.ref (b + 4)) C fl_X8_19 (C_Rep hw) rfl dX8_invoiceSheet_84 ?_
  refine x_bipush (10 : Int32) C dX8_invoiceSheet_87 rfl ?_
  obtain ⟨q32, hq33, hF⟩ := bnd_e hF
  refine x_goM (fun ls h => x_runV (As := [.int (10 : Int32)]) [] h C ml_X8_45 (k_X1_put l D cA s0 z b q30 _ hG 4 (10 : Int32) q32 hq33) ⟨rfl, rfl, nb rfl, nb rfl⟩ rfl (C_Byt byt4 hw) rfl ⟨rfl, hw⟩ (nb rfl) ⟨Nat.zero_le _, Nat.zero_le _⟩ dX8_invoiceSheet_89) hS (xA_le hS) (fun H locs hw hz hk hS => ?_)
  have hw : WC D cA s0 z b q32 H := hw
  refine x_iconst (0 : Int32) C dX8_invoiceSheet_92 rfl ?_
  refine x_istore_n [(3, .int (0 : Int32)), (2, .ref (b + (7 + (54 + 2 * (cl a1))))), (0, .ref (b + 2563)), (1, .int a1)] C dX8_invoiceSheet_93 rfl (by decide) rfl ?_
  refine x_sub [(0, .ref (b + 2563)), (1, .int a1), (2, .ref (b + (7 + (54 + 2 * (cl a1))))), (3, .int (0 : Int32))] [2, 3, 1, 0] rfl ?_
  exact h_L94 10000 q32 (7 + (54 + 2 * (cl a1))) (0 : Int32) (mk_Inv led7 hl3) _ _ hw hS hF
