noncomputable def g_X2_year (ν : Mm) (o : Nat) : Option (Int32) := asr (isCal o) (some ((ν.1 o 1) / (360 : Int32)))
set_option maxRecDepth 20000 in
set_option maxHeartbeats 4000000 in
theorem k_X2_year (l : Launch) (D : va_G) (cA : Nat → ClassId) (s0 : State) (z : Nat) (b : Nat) (ν : Mm) (hG : xG l D cA s0) (o : Nat) (r : Int32) (hF : g_X2_year ν o = some r) : Met l yX2_year (wsG yX2_year cX2_year 1 (some (FieldType.int))) { frames := 0, cells := 0, slots := 0, locals := 0 } (xP D cA s0 [.ref (b + o)] (WC D cA s0 z b ν)) (xQr (some (.int r))) 0 0 xN := by
  refine x_start (own := RX2) [(0, .ref (b + o))] rfl rfl (by decide) (nb rfl) ?_
  intro p e s m args below meth c C hw
  obtain ⟨hpo, hF⟩ := asr_e hF
  refine x_aload_n C dX2_year_0 rfl ?_
  refine x_get (.int (ν.1 o 1)) C fl_X2_15 (C_Cal hpo hw) rfl dX2_year_1 ?_
  refine x_sipush (360 : Int32) C dX2_year_4 rfl ?_
  refine x_idiv C dX2_year_7 (by decide) ?_
  exact x_iretR C rfl dX2_year_8  (r_i hF)
noncomputable def g_X9_copyFrom (ν : Mm) (o : Nat) (a1 : Nat) : Option (Mm) := asr (isShip o) (asr (isShip a1) (bnd (some (uR ν (o + 1) (ν.1 (a1 + 1)))) (fun μ1 => bnd (some (uI μ1 o 1 (μ1.1 a1 1))) (fun μ3 => bnd (some (uI μ3 o 2 (μ3.1 a1 2))) (fun μ5 => bnd (some (uP μ5 o 3 (μ5.2.1 a1 3))) (fun μ7 => some μ7))))))
set_option maxRecDepth 20000 in
set_option maxHeartbeats 4000000 in
theorem k_X9_copyFrom (l : Launch) (D : va_G) (cA : Nat → ClassId) (s0 : State) (z : Nat) (b : Nat) (ν : Mm) (sz : Nat) (hG : xG l D cA s0) (o : Nat) (a1 : Nat) (r : Mm) (hF : g_X9_copyFrom ν o a1 = some r) : Met l yX9_copyFrom (wsG yX9_copyFrom cX9_copyFrom 2 none) { frames := 1, cells := 0, slots := 0, locals := 40 } (xP D cA s0 [.ref (b + o), .ref (b + a1)] (fun H => H.size = sz ∧ WC D cA s0 z b ν H)) (xQm none (fun H => WC D cA s0 z b r H) (xA b 2628 sz)) 0 0 (xA b 2628 sz) := by
  refine x_start (own := RX9) [(0, .ref (b + o)), (1, .ref (b + a1))] rfl rfl (by decide) (nb rfl) ?_
  intro p e s m args below meth c C hw
  obtain ⟨hsz, hw⟩ := hw
  subst hsz
  have hS : va_S (xA b 2628 s.heap.size) s.heap s.heap [] := va_S.rf
  obtain ⟨hpo, hF⟩ := asr_e hF
  obtain ⟨hpa1, hF⟩ := asr_e hF
  refine x_aload_n C dX9_copyFrom_0 rfl ?_
  refine x_get (.ref (b + (a1 + 1))) C fl_X9_9 (C_Ship hpa1 hw) rfl dX9_copyFrom_1 ?_
  refine x_iconst (0 : Int32) C dX9_copyFrom_4 rfl ?_
  refine x_aload_n C dX9_copyFrom_5 rfl ?_
  refine x_get (.ref (b + (o + 1))) C fl_X9_9 (C_Ship hpo hw) rfl dX9_copyFrom_6 ?_
  refine x_iconst (0 : Int32) C dX9_copyFrom_9 rfl ?_
  refine x_bipush (6 : Int32) C dX9_copyFrom_10 rfl ?_
  refine y_copyN C ac_X9_15 hw hpa1 hpo rfl (nb rfl) (nb rfl) dX9_copyFrom_12 hS (xA_in (la_name hpo)) (fun H locs hw hS => ?_)
  obtain ⟨μ1, hm2, hF⟩ := bnd_e hF
  have hw : WC D cA s0 z b μ1 H := rv_m (W := fun m => WC D cA s0 z b m _) hm2 hw
  refine x_aload_n C dX9_copyFrom_15 rfl ?_
  refine x_aload_n C dX9_copyFrom_16 rfl ?_
  refine x_get (.int (μ1.1 a1 1)) C fl_X9_21 (C_Ship hpa1 hw) rfl dX9_copyFrom_17 ?_
  refine y_putI (kk0 := 1) o C fl_X9_21 hw (l2 (lt_Ship hpo)) (fun nm => S_Ship hpo) (fun nm => S_Ship hpo) rfl rfl (fun _ => nb rfl) dX9_copyFrom_20 hS (xA_in (l2 (lt_Ship hpo))) (fun H locs hw hS => ?_)
  obtain ⟨μ3, hm4, hF⟩ := bnd_e hF
  have hw : WC D cA s0 z b μ3 H := rv_m (W := fun m => WC D cA s0 z b m _) hm4 hw
  refine x_aload_n C dX9_copyFrom_23 rfl ?_
  refine x_aload_n C dX9_copyFrom_24 rfl ?_
  refine x_get (.int (μ3.1 a1 2)) C fl_X9_25 (C_Ship hpa1 hw) rfl dX9_copyFrom_25 ?_
  refine y_putI (kk0 := 2) o C fl_X9_25 hw (l2 (lt_Ship hpo)) (fun nm => S_Ship hpo) (fun nm => S_Ship hpo) rfl rfl (fun _ => nb rfl) dX9_copyFrom_28 hS (xA_in (l2 (lt_Ship hpo))) (fun H locs hw hS => ?_)
  obtain ⟨μ5, hm6, hF⟩ := bnd_e hF
  have hw : WC D cA s0 z b μ5 H := rv_m (W := fun m => WC D cA s0 z b m _) hm6 hw
  refine x_aload_n C dX9_copyFrom_31 rfl ?_
  refine x_aload_n C dX9_copyFrom_32 rfl ?_
  refine x_get (.long (μ5.2.1 a1 3)) C fl_X9_28 (C_Ship hpa1 hw) rfl dX9_copyFrom_33 ?_
  refine y_putP (kk0 := 3) o C fl_X9_28 hw (l2 (lt_Ship hpo)) (fun nm => S_Ship hpo) (fun nm => S_Ship hpo) rfl rfl (fun _ => nb rfl) dX9_copyFrom_36 hS (xA_in (l2 (lt_Ship hpo))) (fun H locs hw hS => ?_)
  obtain ⟨μ7, hm8, hF⟩ := bnd_e hF
  have hw : WC D cA s0 z b μ7 H := rv_m (W := fun m => WC D cA s0 z b m _) hm8 hw
  exact x_vretM2 C rfl dX9_copyFrom_39 rfl (rv_m (W := fun m => WC D cA s0 z b m _) hF hw) hS (nb rfl) (nb rfl)
noncomputable def g_X4_copyFrom (ν : Mm) (o : Nat) (a1 : Nat) : Option (Mm) := asr (isInv o) (asr (isInv a1) (bnd (some (uR ν (o + 1) (ν.1 (a1 + 1)))) (fun μ1 => bnd (some (uI μ1 o 1 (μ1.1 a1 1))) (fun μ3 => bnd (some (uI μ3 o 2 (μ3.1 a1 2))) (fun μ5 => bnd (some (uI μ5 o 3 (μ5.1 a1 3))) (fun μ7 => bnd (some (uI μ7 o 4 (μ7.1 a1 4))) (fun μ9 => bnd (some (uI μ9 o 5 (μ9.1 a1 5))) (fun μ11 => bnd (some (uI μ11 o 6 (μ11.1 a1 6))) (fun μ13 => some μ13)))))))))
set_option maxRecDepth 20000 in
set_option maxHeartbeats 4000000 in
theorem k_X4_copyFrom (l : Launch) (D : va_G) (cA : Nat → ClassId) (s0 : State) (z : Nat) (b : Nat) (ν : Mm) (sz : Nat) (hG : xG l D cA s0) (o : Nat) (a1 : Nat) (r : Mm) (hF : g_X4_copyFrom ν o a1 = some r) : Met l yX4_copyFrom (wsG yX4_copyFrom cX4_copyFrom 2 none) { frames := 1, cells := 0, slots := 0, locals := 40 } (xP D cA s0 [.ref (b + o), .ref (b + a1)] (fun H => H.size = sz ∧ WC D cA s0 z b ν H)) (xQm none (fun H => WC D cA s0 z b r H) (xA b 2628 sz)) 0 0 (xA b 2628 sz) := by
  refine x_start (own := RX4) [(0, .ref (b + o)), (1, .ref (b + a1))] rfl rfl (by decide) (nb rfl) ?_
  intro p e s m args below meth c C hw
  obtain ⟨hsz, hw⟩ := hw
  subst hsz
  have hS : va_S (xA b 2628 s.heap.size) s.heap s.heap [] := va_S.rf
  obtain ⟨hpo, hF⟩ := asr_e hF
  obtain ⟨hpa1, hF⟩ := asr_e hF
  refine x_aload_n C dX4_copyFrom_0 rfl ?_
  refine x_get (.ref (b + (a1 + 1))) C fl_X4_9 (C_Inv hpa1 hw) rfl dX4_copyFrom_1 ?_
  refine x_iconst (0 : Int32) C dX4_copyFrom_4 rfl ?_
  refine x_aload_n C dX4_copyFrom_5 rfl ?_
  refine x_get (.ref (b + (o + 1))) C fl_X4_9 (C_Inv hpo hw) rfl dX4_copyFrom_6 ?_
  refine x_iconst (0 : Int32) C dX4_copyFrom_9 rfl ?_
  refine x_iconst (4 : Int32) C dX4_copyFrom_10 rfl ?_
  refine y_copyI (so := (a1 + 1)) (do' := (o + 1)) C ac_X4_15 hw (la_amounts hpa1) (la_amounts hpo) (fun nm f => S_amounts hpa1) (fun nm f => S_amounts hpo) rfl (by decide) (nb rfl) (nb rfl) dX4_copyFrom_11 hS (xA_in (la_amounts hpo)) (fun H locs hw hS => ?_)
  obtain ⟨μ1, hm2, hF⟩ := bnd_e hF
  have hw : WC D cA s0 z b μ1 H := rv_m (W := fun m => WC D cA s0 z b m _) hm2 hw
  refine x_aload_n C dX4_copyFrom_14 rfl ?_
  refine x_aload_n C dX4_copyFrom_15 rfl ?_
  refine x_get (.int (μ1.1 a1 1)) C fl_X4_21 (C_Inv hpa1 hw) rfl dX4_copyFrom_16 ?_
  refine y_putI (kk0 := 1) o C fl_X4_21 hw (l2 (lt_Inv hpo)) (fun nm => S_Inv hpo) (fun nm => S_Inv hpo) rfl rfl (fun _ => nb rfl) dX4_copyFrom_19 hS (xA_in (l2 (lt_Inv hpo))) (fun H locs hw hS => ?_)
  obtain ⟨μ3, hm4, hF⟩ := bnd_e hF
  have hw : WC D cA s0 z b μ3 H := rv_m (W := fun m => WC D cA s0 z b m _) hm4 hw
  refine x_aload_n C dX4_copyFrom_22 rfl ?_
  refine x_aload_n C dX4_copyFrom_23 rfl ?_
  refine x_get (.int (μ3.1 a1 2)) C fl_X4_25 (C_Inv hpa1 hw) rfl dX4_copyFrom_24 ?_
  refine y_putI (kk0 := 2) o C fl_X4_25 hw (l2 (lt_Inv hpo)) (fun nm => S_Inv hpo) (fun nm => S_Inv hpo) rfl rfl (fun _ => nb rfl) dX4_copyFrom_27 hS (xA_in (l2 (lt_Inv hpo))) (fun H locs hw hS => ?_)
  obtain ⟨μ5, hm6, hF⟩ := bnd_e hF
  have hw : WC D cA s0 z b μ5 H := rv_m (W := fun m => WC D cA s0 z b m _) hm6 hw
  refine x_aload_n C dX4_copyFrom_30 rfl ?_
  refine x_aload_n C dX4_copyFrom_31 rfl ?_
  refine x_get (.int (μ5.1 a1 3)) C fl_X4_28 (C_Inv hpa1 hw) rfl dX4_copyFrom_32 ?_
  refine y_putI (kk0 := 3) o C fl_X4_28 hw (l2 (lt_Inv hpo)) (fun nm => S_Inv hpo) (fun nm => S_Inv hpo) rfl rfl (fun _ => nb rfl) dX4_copyFrom_35 hS (xA_in (l2 (lt_Inv hpo))) (fun H locs hw hS => ?_)
  obtain ⟨μ7, hm8, hF⟩ := bnd_e hF
  have hw : WC D cA s0 z b μ7 H := rv_m (W := fun m => WC D cA s0 z b m _) hm8 hw
  refine x_aload_n C dX4_copyFrom_38 rfl ?_
  refine x_aload_n C dX4_copyFrom_39 rfl ?_
  refine x_get (.int (μ7.1 a1 4)) C fl_X4_31 (C_Inv hpa1 hw) rfl dX4_copyFrom_40 ?_
  refine y_putI (kk0 := 4) o C fl_X4_31 hw (l2 (lt_Inv hpo)) (fun nm => S_Inv hpo) (fun nm => S_Inv hpo) rfl rfl (fun _ => nb rfl) dX4_copyFrom_43 hS (xA_in (l2 (lt_Inv hpo))) (fun H locs hw hS => ?_)
  obtain ⟨μ9, hm10, hF⟩ := bnd_e hF
  have hw : WC D cA s0 z b μ9 H := rv_m (W := fun m => WC D cA s0 z b m _) hm10 hw
  refine x_aload_n C dX4_copyFrom_46 rfl ?_
  refine x_aload_n C dX4_copyFrom_47 rfl ?_
  refine x_get (.int (μ9.1 a1 5)) C fl_X4_34 (C_Inv hpa1 hw) rfl dX4_copyFrom_48 ?_
  refine y_putI (kk0 := 5) o C fl_X4_34 hw (l2 (lt_Inv hpo)) (fun nm => S_Inv hpo) (fun nm => S_Inv hpo) rfl rfl (fun _ => nb rfl) dX4_copyFrom_51 hS (xA_in (l2 (lt_Inv hpo))) (fun H locs hw hS => ?_)
  obtain ⟨μ11, hm12, hF⟩ := bnd_e hF
  have hw : WC D cA s0 z b μ11 H := rv_m (W := fun m => WC D cA s0 z b m _) hm12 hw
  refine x_aload_n C dX4_copyFrom_54 rfl ?_
  refine x_aload_n C dX4_copyFrom_55 rfl ?_
  refine x_get (.int (μ11.1 a1 6)) C fl_X4_37 (C_Inv hpa1 hw) rfl dX4_copyFrom_56 ?_
  refine y_putI (kk0 := 6) o C fl_X4_37 hw (l2 (lt_Inv hpo)) (fun nm => S_Inv hpo) (fun nm => S_Inv hpo) rfl rfl (fun _ => nb rfl) dX4_copyFrom_59 hS (xA_in (l2 (lt_Inv hpo))) (fun H locs hw hS => ?_)
  obtain ⟨μ13, hm14, hF⟩ := bnd_e hF
  have hw : WC D cA s0 z b μ13 H := rv_m (W := fun m => WC D cA s0 z b m _) hm14 hw
  exact x_vretM2 C rfl dX4_copyFrom_62 rfl (rv_m (W := fun m => WC D cA s0 z b m _) hF hw) hS (nb rfl) (nb rfl)
noncomputable def g_X6_copyFrom (ν : Mm) (o : Nat) (a1 : Nat) : Option (Mm) := asr (isNote o) (asr (isNote a1) (bnd (some (uI ν o 0 (ν.1 a1 0))) (fun μ1 => bnd (some (uI μ1 o 1 (μ1.1 a1 1))) (fun μ3 => bnd (some (uI μ3 o 2 (μ3.1 a1 2))) (fun μ5 => bnd (some (uI μ5 o 3 (μ5.1 a1 3))) (fun μ7 => some μ7))))))
set_option maxRecDepth 20000 in
set_option maxHeartbeats 4000000 in
theorem k_X6_copyFrom (l : Launch) (D : va_G) (cA : Nat → ClassId) (s0 : State) (z : Nat) (b : Nat) (ν : Mm) (sz : Nat) (hG : xG l D cA s0) (o : Nat) (a1 : Nat) (r : Mm) (hF : g_X6_copyFrom ν o a1 = some r) : Met l yX6_copyFrom (wsG yX6_copyFrom cX6_copyFrom 2 none) { frames := 0, cells := 0, slots := 0, locals := 0 } (xP D cA s0 [.ref (b + o), .ref (b + a1)] (fun H => H.size = sz ∧ WC D cA s0 z b ν H)) (xQm none (fun H => WC D cA s0 z b r H) (xA b 2628 sz)) 0 0 (xA b 2628 sz) := by
  refine x_start (own := RX6) [(0, .ref (b + o)), (1, .ref (b + a1))] rfl rfl (by decide) (nb rfl) ?_
  intro p e s m args below meth c C hw
  obtain ⟨hsz, hw⟩ := hw
  subst hsz
  have hS : va_S (xA b 2628 s.heap.size) s.heap s.heap [] := va_S.rf
  obtain ⟨hpo, hF⟩ := asr_e hF
  obtain ⟨hpa1, hF⟩ := asr_e hF
  refine x_aload_n C dX6_copyFrom_0 rfl ?_
  refine x_aload_n C dX6_copyFrom_1 rfl ?_
  refine x_get (.int (ν.1 a1 0)) C fl_X6_7 (C_Note hpa1 hw) rfl dX6_copyFrom_2 ?_
  refine y_putI (kk0 := 0) o C fl_X6_7 hw (l2 (lt_Note hpo)) (fun nm => S_Note hpo) (fun nm => S_Note hpo) rfl rfl (fun _ => nb rfl) dX6_copyFrom_5 hS (xA_in (l2 (lt_Note hpo))) (fun H locs hw hS => ?_)
  obtain ⟨μ1, hm2, hF⟩ := bnd_e hF
  have hw : WC D cA s0 z b μ1 H := rv_m (W := fun m => WC D cA s0 z b m _) hm2 hw
  refine x_aload_n C dX6_copyFrom_8 rfl ?_
  refine x_aload_n C dX6_copyFrom_9 rfl ?_
  refine x_get (.int (μ1.1 a1 1)) C fl_X6_13 (C_Note hpa1 hw) rfl dX6_copyFrom_10 ?_
  refine y_putI (kk0 := 1) o C fl_X6_13 hw (l2 (lt_Note hpo)) (fun nm => S_Note hpo) (fun nm => S_Note hpo) rfl rfl (fun _ => nb rfl) dX6_copyFrom_13 hS (xA_in (l2 (lt_Note hpo))) (fun H locs hw hS => ?_)
  obtain ⟨μ3, hm4, hF⟩ := bnd_e hF
  have hw : WC D cA s0 z b μ3 H := rv_m (W := fun m => WC D cA s0 z b m _) hm4 hw
  refine x_aload_n C dX6_copyFrom_16 rfl ?_
  refine x_aload_n C dX6_copyFrom_17 rfl ?_
  refine x_get (.int (μ3.1 a1 2)) C fl_X6_16 (C_Note hpa1 hw) rfl dX6_copyFrom_18 ?_
  refine y_putI (kk0 := 2) o C fl_X6_16 hw (l2 (lt_Note hpo)) (fun nm => S_Note hpo) (fun nm => S_Note hpo) rfl rfl (fun _ => nb rfl) dX6_copyFrom_21 hS (xA_in (l2 (lt_Note hpo))) (fun H locs hw hS => ?_)
  obtain ⟨μ5, hm6, hF⟩ := bnd_e hF
  have hw : WC D cA s0 z b μ5 H := rv_m (W := fun m => WC D cA s0 z b m _) hm6 hw
  refine x_aload_n C dX6_copyFrom_24 rfl ?_
  refine x_aload_n C dX6_copyFrom_25 rfl ?_
  refine x_get (.int (μ5.1 a1 3)) C fl_X6_19 (C_Note hpa1 hw) rfl dX6_copyFrom_26 ?_
  refine y_putI (kk0 := 3) o C fl_X6_19 hw (l2 (lt_Note hpo)) (fun nm => S_Note hpo) (fun nm => S_Note hpo) rfl rfl (fun _ => nb rfl) dX6_copyFrom_29 hS (xA_in (l2 (lt_Note hpo))) (fun H locs hw hS => ?_)
  obtain ⟨μ7, hm8, hF⟩ := bnd_e hF
  have hw : WC D cA s0 z b μ7 H := rv_m (W := fun m => WC D cA s0 z b m _) hm8 hw
  exact x_vretM2 C rfl dX6_copyFrom_32 rfl (rv_m (W := fun m => WC D cA s0 z b m _) hF hw) hS (nb rfl) (nb rfl)
noncomputable def g_X10_copyFrom (ν : Mm) (o : Nat) (a1 : Nat) : Option (Mm) := asr (isTar o) (asr (isTar a1) (bnd (some (uR ν (o + 1) (ν.1 (a1 + 1)))) (fun μ1 => bnd (some (uR μ1 (o + 2) (μ1.1 (a1 + 2)))) (fun μ3 => bnd (some (uR μ3 (o + 3) (μ3.1 (a1 + 3)))) (fun μ5 => bnd (some (uR μ5 (o + 4) (μ5.1 (a1 + 4)))) (fun μ7 => bnd (some (uI μ7 o 4 (μ7.1 a1 4))) (fun μ9 => bnd (some (uI μ9 o 5 (μ9.1 a1 5))) (fun μ11 => asr (isZ (μ11.1 a1 6)) (bnd (some (uI μ11 o 6 (μ11.1 a1 6))) (fun μ14 => bnd (some (uI μ14 o 7 (μ14.1 a1 7))) (fun μ16 => bnd (some (uI μ16 o 8 (μ16.1 a1 8))) (fun μ18 => bnd (some (uI μ18 o 9 (μ18.1 a1 9))) (fun μ20 => bnd (some (uI μ20 o 10 (μ20.1 a1 10))) (fun μ22 => bnd (some (uI μ22 o 11 (μ22.1 a1 11))) (fun μ24 => some μ24)))))))))))))))
set_option maxRecDepth 20000 in
set_option maxHeartbeats 4000000 in
theorem k_X10_copyFrom (l : Launch) (D : va_G) (cA : Nat → ClassId) (s0 : State) (z : Nat) (b : Nat) (ν : Mm) (sz : Nat) (hG : xG l D cA s0) (o : Nat) (a1 : Nat) (r : Mm) (hF : g_X10_copyFrom ν o a1 = some r) : Met l yX10_copyFrom (wsG yX10_copyFrom cX10_copyFrom 2 none) { frames := 1, cells := 0, slots := 0, locals := 40 } (xP D cA s0 [.ref (b + o), .ref (b + a1)] (fun H => H.size = sz ∧ WC D cA s0 z b ν H)) (xQm none (fun H => WC D cA s0 z b r H) (xA b 2628 sz)) 0 0 (xA b 2628 sz) := by
  refine x_start (own := RX10) [(0, .ref (b + o)), (1, .ref (b + a1))] rfl rfl (by decide) (nb rfl) ?_
  intro p e s m args below meth c C hw
  obtain ⟨hsz, hw⟩ := hw
  subst hsz
  have hS : va_S (xA b 2628 s.heap.size) s.heap s.heap [] := va_S.rf
  obtain ⟨hpo, hF⟩ := asr_e hF
  obtain ⟨hpa1, hF⟩ := asr_e hF
  refine x_aload_n C dX10_copyFrom_0 rfl ?_
  refine x_get (.ref (b + (a1 + 1))) C fl_X10_9 (C_Tar hpa1 hw) rfl dX10_copyFrom_1 ?_
  refine x_iconst (0 : Int32) C dX10_copyFrom_4 rfl ?_
  refine x_aload_n C dX10_copyFrom_5 rfl ?_
  refine x_get (.ref (b + (o + 1))) C fl_X10_9 (C_Tar hpo hw) rfl dX10_copyFrom_6 ?_
  refine x_iconst (0 : Int32) C dX10_copyFrom_9 rfl ?_
  refine x_bipush (6 : Int32) C dX10_copyFrom_10 rfl ?_
  refine y_copyI (so := (a1 + 1)) (do' := (o + 1)) C ac_X10_50 hw (la_bandFrom hpa1) (la_bandFrom hpo) (fun nm f => S_bandFrom hpa1) (fun nm f => S_bandFrom hpo) rfl (by decide) (nb rfl) (nb rfl) dX10_copyFrom_12 hS (xA_in (la_bandFrom hpo)) (fun H locs hw hS => ?_)
  obtain ⟨μ1, hm2, hF⟩ := bnd_e hF
  have hw : WC D cA s0 z b μ1 H := rv_m (W := fun m => WC D cA s0 z b m _) hm2 hw
  refine x_aload_n C dX10_copyFrom_15 rfl ?_
  refine x_get (.ref (b + (a1 + 2))) C fl_X10_15 (C_Tar hpa1 hw) rfl dX10_copyFrom_16 ?_
  refine x_iconst (0 : Int32) C dX10_copyFrom_19 rfl ?_
  refine x_aload_n C dX10_copyFrom_20 rfl ?_
  refine x_get (.ref (b + (o + 2))) C fl_X10_15 (C_Tar hpo hw) rfl dX10_copyFrom_21 ?_
  refine x_iconst (0 : Int32) C dX10_copyFrom_24 rfl ?_
  refine x_bipush (6 : Int32) C dX10_copyFrom_25 rfl ?_
  refine y_copyI (so := (a1 + 2)) (do' := (o + 2)) C ac_X10_50 hw (la_bandRate hpa1) (la_bandRate hpo) (fun nm f => S_bandRate hpa1) (fun nm f => S_bandRate hpo) rfl (by decide) (nb rfl) (nb rfl) dX10_copyFrom_27 hS (xA_in (la_bandRate hpo)) (fun H locs hw hS => ?_)
  obtain ⟨μ3, hm4, hF⟩ := bnd_e hF
  have hw : WC D cA s0 z b μ3 H := rv_m (W := fun m => WC D cA s0 z b m _) hm4 hw
  refine x_aload_n C dX10_copyFrom_30 rfl ?_
  refine x_get (.ref (b + (a1 + 3))) C fl_X10_18 (C_Tar hpa1 hw) rfl dX10_copyFrom_31 ?_
  refine x_iconst (0 : Int32) C dX10_copyFrom_34 rfl ?_
  refine x_aload_n C dX10_copyFrom_35 rfl ?_
  refine x_get (.ref (b + (o + 3))) C fl_X10_18 (C_Tar hpo hw) rfl dX10_copyFrom_36 ?_
  refine x_iconst (0 : Int32) C dX10_copyFrom_39 rfl ?_
  refine x_iconst (4 : Int32) C dX10_copyFrom_40 rfl ?_
  refine y_copyI (so := (a1 + 3)) (do' := (o + 3)) C ac_X10_50 hw (la_rebateFrom hpa1) (la_rebateFrom hpo) (fun nm f => S_rebateFrom hpa1) (fun nm f => S_rebateFrom hpo) rfl (by decide) (nb rfl) (nb rfl) dX10_copyFrom_41 hS (xA_in (la_rebateFrom hpo)) (fun H locs hw hS => ?_)
  obtain ⟨μ5, hm6, hF⟩ := bnd_e hF
  have hw : WC D cA s0 z b μ5 H := rv_m (W := fun m => WC D cA s0 z b m _) hm6 hw
  refine x_aload_n C dX10_copyFrom_44 rfl ?_
  refine x_get (.ref (b + (a1 + 4))) C fl_X10_21 (C_Tar hpa1 hw) rfl dX10_copyFrom_45 ?_
  refine x_iconst (0 : Int32) C dX10_copyFrom_48 rfl ?_
  refine x_aload_n C dX10_copyFrom_49 rfl ?_
  refine x_get (.ref (b + (o + 4))) C fl_X10_21 (C_Tar hpo hw) rfl dX10_copyFrom_50 ?_
  refine x_iconst (0 : Int32) C dX10_copyFrom_53 rfl ?_
  refine x_iconst (4 : Int32) C dX10_copyFrom_54 rfl ?_
  refine y_copyI (so := (a1 + 4)) (do' := (o + 4)) C ac_X10_50 hw (la_rebatePercent hpa1) (la_rebatePercent hpo) (fun nm f => S_rebatePercent hpa1) (fun nm f => S_rebatePercent hpo) rfl (by decide) (nb rfl) (nb rfl) dX10_copyFrom_55 hS (xA_in (la_rebatePercent hpo)) (fun H locs hw hS => ?_)
  obtain ⟨μ7, hm8, hF⟩ := bnd_e hF
  have hw : WC D cA s0 z b μ7 H := rv_m (W := fun m => WC D cA s0 z b m _) hm8 hw
  refine x_aload_n C dX10_copyFrom_58 rfl ?_
  refine x_aload_n C dX10_copyFrom_59 rfl ?_
  refine x_get (.int (μ7.1 a1 4)) C fl_X10_28 (C_Tar hpa1 hw) rfl dX10_copyFrom_60 ?_
  refine y_putI (kk0 := 4) o C fl_X10_28 hw (l2 (lt_Tar hpo)) (fun nm => S_Tar hpo) (fun nm => S_Tar hpo) rfl rfl (fun _ => nb rfl) dX10_copyFrom_63 hS (xA_in (l2 (lt_Tar hpo))) (fun H locs hw hS => ?_)
  obtain ⟨μ9, hm10, hF⟩ := bnd_e hF
  have hw : WC D cA s0 z b μ9 H := rv_m (W := fun m => WC D cA s0 z b m _) hm10 hw
  refine x_aload_n C dX10_copyFrom_66 rfl ?_
  refine x_aload_n C dX10_copyFrom_67 rfl ?_
  refine x_get (.int (μ9.1 a1 5)) C fl_X10_31 (C_Tar hpa1 hw) rfl dX10_copyFrom_68 ?_
  refine y_putI (kk0 := 5) o C fl_X10_31 hw (l2 (lt_Tar hpo)) (fun nm => S_Tar hpo) (fun nm => S_Tar hpo) rfl rfl (fun _ => nb rfl) dX10_copyFrom_71 hS (xA_in (l2 (lt_Tar hpo))) (fun H locs hw hS => ?_)
  obtain ⟨μ11, hm12, hF⟩ := bnd_e hF
  have hw : WC D cA s0 z b μ11 H := rv_m (W := fun m => WC D cA s0 z b m _) hm12 hw
  refine x_aload_n C dX10_copyFrom_74 rfl ?_
  refine x_aload_n C dX10_copyFrom_75 rfl ?_
  refine x_get (.int (μ11.1 a1 6)) C fl_X10_34 (C_Tar hpa1 hw) rfl dX10_copyFrom_76 ?_
  obtain ⟨h13, hF⟩ := asr_e hF
  refine y_putZ (kk0 := 6) o C fl_X10_34 hw (l2 (lt_Tar hpo)) (fun nm => S_Tar hpo) (fun nm => S_Tar hpo) rfl (isZ_nar h13) (isZ_fit h13) (fun _ => nb rfl) dX10_copyFrom_79 hS (xA_in (l2 (lt_Tar hpo))) (fun H locs hw hS => ?_)
  obtain ⟨μ14, hm15, hF⟩ := bnd_e hF
  have hw : WC D cA s0 z b μ14 H := rv_m (W := fun m => WC D cA s0 z b m _) hm15 hw
  refine x_aload_n C dX10_copyFrom_82 rfl ?_
  refine x_aload_n C dX10_copyFrom_83 rfl ?_
  refine x_get (.int (μ14.1 a1 7)) C fl_X10_38 (C_Tar hpa1 hw) rfl dX10_copyFrom_84 ?_
  refine y_putI (kk0 := 7) o C fl_X10_38 hw (l2 (lt_Tar hpo)) (fun nm => S_Tar hpo) (fun nm => S_Tar hpo) rfl rfl (fun _ => nb rfl) dX10_copyFrom_87 hS (xA_in (l2 (lt_Tar hpo))) (fun H locs hw hS => ?_)
  obtain ⟨μ16, hm17, hF⟩ := bnd_e hF
  have hw : WC D cA s0 z b μ16 H := rv_m (W := fun m => WC D cA s0 z b m _) hm17 hw
  refine x_aload_n C dX10_copyFrom_90 rfl ?_
  refine x_aload_n C dX10_copyFrom_91 rfl ?_
  refine x_get (.int (μ16.1 a1 8)) C fl_X10_41 (C_Tar hpa1 hw) rfl dX10_copyFrom_92 ?_
  refine y_putI (kk0 := 8) o C fl_X10_41 hw (l2 (lt_Tar hpo)) (fun nm => S_Tar hpo) (fun nm => S_Tar hpo) rfl rfl (fun _ => nb rfl) dX10_copyFrom_95 hS (xA_in (l2 (lt_Tar hpo))) (fun H locs hw hS => ?_)
  obtain ⟨μ18, hm19, hF⟩ := bnd_e hF
  have hw : WC D cA s0 z b μ18 H := rv_m (W := fun m => WC D cA s0 z b m _) hm19 hw
  refine x_aload_n C dX10_copyFrom_98 rfl ?_
  refine x_aload_n C dX10_copyFrom_99 rfl ?_
  refine x_get (.int (μ18.1 a1 9)) C fl_X10_44 (C_Tar hpa1 hw) rfl dX10_copyFrom_100 ?_
  refine y_putI (kk0 := 9) o C fl_X10_44 hw (l2 (lt_Tar hpo)) (fun nm => S_Tar hpo) (fun nm => S_Tar hpo) rfl rfl (fun _ => nb rfl) dX10_copyFrom_103 hS (xA_in (l2 (lt_Tar hpo))) (fun H locs hw hS => ?_)
  obtain ⟨μ20, hm21, hF⟩ := bnd_e hF
  have hw : WC D cA s0 z b μ20 H := rv_m (W := fun m => WC D cA s0 z b m _) hm21 hw
  refine x_aload_n C dX10_copyFrom_106 rfl ?_
  refine x_aload_n C dX10_copyFrom_107 rfl ?_
  refine x_get (.int (μ20.1 a1 10)) C fl_X10_24 (C_Tar hpa1 hw) rfl dX10_copyFrom_108 ?_
  refine y_putI (kk0 := 10) o C fl_X10_24 hw (l2 (lt_Tar hpo)) (fun nm => S_Tar hpo) (fun nm => S_Tar hpo) rfl rfl (fun _ => nb rfl) dX10_copyFrom_111 hS (xA_in (l2 (lt_Tar hpo))) (fun H locs hw hS => ?_)
  obtain ⟨μ22, hm23, hF⟩ := bnd_e hF
  have hw : WC D cA s0 z b μ22 H := rv_m (W := fun m => WC D cA s0 z b m _) hm23 hw
  refine x_aload_n C dX10_copyFrom_114 rfl ?_
  refine x_aload_n C dX10_copyFrom_115 rfl ?_
  refine x_get (.int (μ22.1 a1 11)) C fl_X10_47 (C_Tar hpa1 hw) rfl dX10_copyFrom_116 ?_
  refine y_putI (kk0 := 11) o C fl_X10_47 hw (l2 (lt_Tar hpo)) (fun nm => S_Tar hpo) (fun nm => S_Tar hpo) rfl rfl (fun _ => nb rfl) dX10_copyFrom_119 hS (xA_in (l2 (lt_Tar hpo))) (fun H locs hw hS => ?_)
  obtain ⟨μ24, hm25, hF⟩ := bnd_e hF
  have hw : WC D cA s0 z b μ24 H := rv_m (W := fun m => WC D cA s0 z b m _) hm25 hw
  exact x_vretM2 C rfl dX10_copyFrom_122 rfl (rv_m (W := fun m => WC D cA s0 z b m _) hF hw) hS (nb rfl) (nb rfl)
noncomputable def g_X5_copyFrom_L174 (ν : Mm) (o : Nat) (a1 : Nat) : Nat → Mm → Int32 → Option (Mm)
  | 0, _, _ => none
  | n + 1, μ0, x2 => (if (μ0.1 o 9) < x2 then some μ0 else asr (vp_in x2 21) (bnd (g_X10_copyFrom μ0 (o + (222 + 5 * (cl x2))) (a1 + (222 + 5 * (cl x2)))) (fun q21 => (g_X5_copyFrom_L174 ν o a1 n q21 (x2 + (1 : Int32))))))
noncomputable def g_X5_copyFrom_L143 (ν : Mm) (o : Nat) (a1 : Nat) : Nat → Mm → Int32 → Option (Mm)
  | 0, _, _ => none
  | n + 1, μ0, x2 => (if (μ0.1 o 8) ≤ x2 then (g_X5_copyFrom_L174 ν o a1 10000 μ0 (0 : Int32)) else asr (vp_in x2 40) (bnd (g_X6_copyFrom μ0 (o + (182 + (cl x2))) (a1 + (182 + (cl x2)))) (fun q26 => (g_X5_copyFrom_L143 ν o a1 n q26 (x2 + (1 : Int32))))))
noncomputable def g_X5_copyFrom_L112 (ν : Mm) (o : Nat) (a1 : Nat) : Nat → Mm → Int32 → Option (Mm)
  | 0, _, _ => none
  | n + 1, μ0, x2 => (if (μ0.1 o 7) ≤ x2 then (g_X5_copyFrom_L143 ν o a1 10000 μ0 (0 : Int32)) else asr (vp_in x2 60) (bnd (g_X4_copyFrom μ0 (o + (62 + 2 * (cl x2))) (a1 + (62 + 2 * (cl x2)))) (fun q31 => (g_X5_copyFrom_L112 ν o a1 n q31 (x2 + (1 : Int32))))))
noncomputable def g_X5_copyFrom_L81 (ν : Mm) (o : Nat) (a1 : Nat) : Nat → Mm → Int32 → Option (Mm)
  | 0, _, _ => none
  | n + 1, μ0, x2 => (if (μ0.1 o 6) ≤ x2 then (g_X5_copyFrom_L112 ν o a1 10000 μ0 (0 : Int32)) else asr (vp_in x2 40) (bnd (g_X2_copyFrom μ0 (o + (22 + (cl x2))) (a1 + (22 + (cl x2)))) (fun q36 => (g_X5_copyFrom_L81 ν o a1 n q36 (x2 + (1 : Int32))))))
noncomputable def g_X5_copyFrom_L50 (ν : Mm) (o : Nat) (a1 : Nat) : Nat → Mm → Int32 → Option (Mm)
  | 0, _, _ => none
  | n + 1, μ0, x2 => (if (μ0.1 o 5) ≤ x2 then (g_X5_copyFrom_L81 ν o a1 10000 μ0 (0 : Int32)) else asr (vp_in x2 8) (bnd (g_X9_copyFrom μ0 (o + (6 + 2 * (cl x2))) (a1 + (6 + 2 * (cl x2)))) (fun q41 => (g_X5_copyFrom_L50 ν o a1 n q41 (x2 + (1 : Int32))))))
noncomputable def g_X5_copyFrom (ν : Mm) (o : Nat) (a1 : Nat) : Option (Mm) := asr (isLed o) (asr (isLed a1) (bnd (some (uI ν o 5 (ν.1 a1 5))) (fun μ1 => bnd (some (uI μ1 o 6 (μ1.1 a1 6))) (fun μ3 => bnd (some (uI μ3 o 7 (μ3.1 a1 7))) (fun μ5 => bnd (some (uI μ5 o 8 (μ5.1 a1 8))) (fun μ7 => bnd (some (uI μ7 o 9 (μ7.1 a1 9))) (fun μ9 => bnd (some (uI μ9 o 10 (μ9.1 a1 10))) (fun μ11 => (g_X5_copyFrom_L50 ν o a1 10000 μ11 (0 : Int32))))))))))
set_option maxRecDepth 20000 in
set_option maxHeartbeats 4000000 in
theorem k_X5_copyFrom (l : Launch) (D : va_G) (cA : Nat → ClassId) (s0 : State) (z : Nat) (b : Nat) (ν : Mm) (sz : Nat) (hG : xG l D cA s0) (o : Nat) (a1 : Nat) (r : Mm) (hF : g_X5_copyFrom ν o a1 = some r) : Met l yX5_copyFrom (wsG yX5_copyFrom cX5_copyFrom 3 none) { frames := 2, cells := 0, slots := 0, locals := 61 } (xP D cA s0 [.ref (b + o), .ref (b + a1)] (fun H => H.size = sz ∧ WC D cA s0 z b ν H)) (xQm none (fun H => WC D cA s0 z b r H) (xA b 2628 sz)) 0 0 (xA b 2628 sz) := by
  refine x_start (own := RX5) [(0, .ref (b + o)), (1, .ref (b + a1))] rfl rfl (by decide) (nb rfl) ?_
  intro p e s m args below meth c C hw
  obtain ⟨hsz, hw⟩ := hw
  subst hsz
  have hS : va_S (xA b 2628 s.heap.size) s.heap s.heap [] := va_S.rf
  obtain ⟨hpo, hF⟩ := asr_e hF
  obtain ⟨hpa1, hF⟩ := asr_e hF
  have h_L174 : ∀ (n : Nat) (μ0 : Mm) (x2 : Int32) (H : Heap) (locs : List Loc) (hw : WC D cA s0 z b μ0 H) (hS : va_S (xA b 2628 s.heap.size) s.heap H locs), g_X5_copyFrom_L174 ν o a1 n μ0 x2 = some r → xW p l e { frames := 2, cells := 0, slots := 0, locals := 61 } s m args below meth c 3 (MQ below (xQm none (fun H => WC D cA s0 z b r H) (xA b 2628 s.heap.size)) args s 0 0 (xA b 2628 s.heap.size)) H locs 0 0 174 [(0, .ref (b + o)), (1, .ref (b + a1)), (2, .int x2)] [] := by
    intro n
    induction n with
    | zero =>
      intro μ0 x2 H locs hw hS hF
      exact no_some hF
    | succ n ih =>
      intro μ0 x2 H locs hw hS hF
      have ih174 := ih
      refine x_iload_n C dX5_copyFrom_174 rfl ?_
      refine x_aload_n C dX5_copyFrom_175 rfl ?_
      refine x_get (.int (μ0.1 o 9)) C fl_X5_59 (C_Led hpo hw) rfl dX5_copyFrom_176 ?_
      refine x_icmp_gt 203 C dX5_copyFrom_179 (by decide) (fun c17 => ?_) (fun c17 => ?_)
      · have hF := ite_t hF c17
        exact x_vretM2 C rfl dX5_copyFrom_203 rfl (rv_m (W := fun m => WC D cA s0 z b m _) hF hw) hS (nb rfl) (nb rfl)
      · have hF := ite_f hF c17
        refine x_aload_n C dX5_copyFrom_182 rfl ?_
        refine x_get (.ref (b + (o + 5))) C fl_X5_37 (C_Led hpo hw) rfl dX5_copyFrom_183 ?_
        refine x_iload_n C dX5_copyFrom_186 rfl ?_
        obtain ⟨h18, hF⟩ := asr_e hF
        obtain ⟨hn19, hl20⟩ := vpn h18 (by decide)
        refine x_aald 7 C (C_versions hpo hw) rfl hn19 hl20 (by decide) rfl dX5_copyFrom_187 ?_
        refine x_aload_n C dX5_copyFrom_188 rfl ?_
        refine x_get (.ref (b + (a1 + 5))) C fl_X5_37 (C_Led hpa1 hw) rfl dX5_copyFrom_189 ?_
        refine x_iload_n C dX5_copyFrom_192 rfl ?_
        refine x_aald 7 C (C_versions hpa1 hw) rfl hn19 hl20 (by decide) rfl dX5_copyFrom_193 ?_
        obtain ⟨q21, hq22, hF⟩ := bnd_e hF
        refine x_goM (fun ls h => x_runV (As := [.ref (b + (a1 + (222 + 5 * (cl x2))))]) [] h C ml_X5_81 (k_X10_copyFrom l D cA s0 z b μ0 _ hG (o + (222 + 5 * (cl x2))) (a1 + (222 + 5 * (cl x2))) q21 hq22) ⟨rfl, rfl, nb rfl, nb rfl⟩ rfl (C_Tar (mk_Tar hpo hl20) hw) rfl ⟨rfl, hw⟩ (nb rfl) ⟨Nat.zero_le _, Nat.zero_le _⟩ dX5_copyFrom_194) hS (xA_le hS) (fun H locs hw hz hk hS => ?_)
        have hw : WC D cA s0 z b q21 H := hw
        refine x_iinc (x2 + (1 : Int32)) [(2, .int (x2 + (1 : Int32))), (0, .ref (b + o)), (1, .ref (b + a1))] C dX5_copyFrom_197 rfl rfl (by decide) rfl ?_
        refine x_goto 174 C dX5_copyFrom_200 (by decide) ?_
        refine x_sub [(0, .ref (b + o)), (1, .ref (b + a1)), (2, .int (x2 + (1 : Int32)))] [1, 2, 0] rfl ?_
        exact ih174 q21 (x2 + (1 : Int32)) _ _ hw hS hF
  have h_L143 : ∀ (n : Nat) (μ0 : Mm) (x2 : Int32) (H : Heap) (locs : List Loc) (hw : WC D cA s0 z b μ0 H) (hS : va_S (xA b 2628 s.heap.size) s.heap H locs), g_X5_copyFrom_L143 ν o a1 n μ0 x2 = some r → xW p l e { frames := 2, cells := 0, slots := 0, locals := 61 } s m args below meth c 3 (MQ below (xQm none (fun H => WC D cA s0 z b r H) (xA b 2628 s.heap.size)) args s 0 0 (xA b 2628 s.heap.size)) H locs 0 0 143 [(0, .ref (b + o)), (1, .ref (b + a1)), (2, .int x2)] [] := by
    intro n
    induction n with
    | zero =>
      intro μ0 x2 H locs hw hS hF
      exact no_some hF
    | succ n ih =>
      intro μ0 x2 H locs hw hS hF
      have ih143 := ih
      refine x_iload_n C dX5_copyFrom_143 rfl ?_
      refine x_aload_n C dX5_copyFrom_144 rfl ?_
      refine x_get (.int (μ0.1 o 8)) C fl_X5_56 (C_Led hpo hw) rfl dX5_copyFrom_145 ?_
      refine x_icmp_ge 172 C dX5_copyFrom_148 (by decide) (fun c16 => ?_) (fun c16 => ?_)
      · have hF := ite_t hF c16
        refine x_iconst (0 : Int32) C dX5_copyFrom_172 rfl ?_
        refine x_istore_n [(2, .int (0 : Int32)), (0, .ref (b + o)), (1, .ref (b + a1))] C dX5_copyFrom_173 rfl (by decide) rfl ?_
        refine x_sub [(0, .ref (b + o)), (1, .ref (b + a1)), (2, .int (0 : Int32))] [1, 2, 0] rfl ?_
        exact h_L174 10000 μ0 (0 : Int32) _ _ hw hS hF
      · have hF := ite_f hF c16
        refine x_aload_n C dX5_copyFrom_151 rfl ?_
        refine x_get (.ref (b + (o + 4))) C fl_X5_31 (C_Led hpo hw) rfl dX5_copyFrom_152 ?_
        refine x_iload_n C dX5_copyFrom_155 rfl ?_
        obtain ⟨h23, hF⟩ := asr_e hF
        obtain ⟨hn24, hl25⟩ := vpn h23 (by decide)
        refine x_aald 6 C (C_notes hpo hw) rfl hn24 hl25 (by decide) rfl dX5_copyFrom_156 ?_
        refine x_aload_n C dX5_copyFrom_157 rfl ?_
        refine x_get (.ref (b + (a1 + 4))) C fl_X5_31 (C_Led hpa1 hw) rfl dX5_copyFrom_158 ?_
        refine x_iload_n C dX5_copyFrom_161 rfl ?_
        refine x_aald 6 C (C_notes hpa1 hw) rfl hn24 hl25 (by decide) rfl dX5_copyFrom_162 ?_
        obtain ⟨q26, hq27, hF⟩ := bnd_e hF
        refine x_goM (fun ls h => x_runV (As := [.ref (b + (a1 + (182 + (cl x2))))]) [] h C ml_X5_78 (k_X6_copyFrom l D cA s0 z b μ0 _ hG (o + (182 + (cl x2))) (a1 + (182 + (cl x2))) q26 hq27) ⟨rfl, rfl, nb rfl, nb rfl⟩ rfl (C_Note (mk_Note hpo hl25) hw) rfl ⟨rfl, hw⟩ (nb rfl) ⟨Nat.zero_le _, Nat.zero_le _⟩ dX5_copyFrom_163) hS (xA_le hS) (fun H locs hw hz hk hS => ?_)
        have hw : WC D cA s0 z b q26 H := hw
        refine x_iinc (x2 + (1 : Int32)) [(2, .int (x2 + (1 : Int32))), (0, .ref (b + o)), (1, .ref (b + a1))] C dX5_copyFrom_166 rfl rfl (by decide) rfl ?_
        refine x_goto 143 C dX5_copyFrom_169 (by decide) ?_
        refine x_sub [(0, .ref (b + o)), (1, .ref (b + a1)), (2, .int (x2 + (1 : Int32)))] [1, 2, 0] rfl ?_
        exact ih143 q26 (x2 + (1 : Int32)) _ _ hw hS hF
  have h_L112 : ∀ (n : Nat) (μ0 : Mm) (x2 : Int32) (H : Heap) (locs : List Loc) (hw : WC D cA s0 z b μ0 H) (hS : va_S (xA b 2628 s.heap.size) s.heap H locs), g_X5_copyFrom_L112 ν o a1 n μ0 x2 = some r → xW p l e { frames := 2, cells := 0, slots := 0, locals := 61 } s m args below meth c 3 (MQ below (xQm none (fun H => WC D cA s0 z b r H) (xA b 2628 s.heap.size)) args s 0 0 (xA b 2628 s.heap.size)) H locs 0 0 112 [(0, .ref (b + o)), (1, .ref (b + a1)), (2, .int x2)] [] := by
    intro n
    induction n with
    | zero =>
      intro μ0 x2 H locs hw hS hF
      exact no_some hF
    | succ n ih =>
      intro μ0 x2 H locs hw hS hF
      have ih112 := ih
      refine x_iload_n C dX5_copyFrom_112 rfl ?_
      refine x_aload_n C dX5_copyFrom_113 rfl ?_
      refine x_get (.int (μ0.1 o 7)) C fl_X5_53 (C_Led hpo hw) rfl dX5_copyFrom_114 ?_
      refine x_icmp_ge 141 C dX5_copyFrom_117 (by decide) (fun c15 => ?_) (fun c15 => ?_)
      · have hF := ite_t hF c15
        refine x_iconst (0 : Int32) C dX5_copyFrom_141 rfl ?_
        refine x_istore_n [(2, .int (0 : Int32)), (0, .ref (b + o)), (1, .ref (b + a1))] C dX5_copyFrom_142 rfl (by decide) rfl ?_
        refine x_sub [(0, .ref (b + o)), (1, .ref (b + a1)), (2, .int (0 : Int32))] [1, 2, 0] rfl ?_
        exact h_L143 10000 μ0 (0 : Int32) _ _ hw hS hF
      · have hF := ite_f hF c15
        refine x_aload_n C dX5_copyFrom_120 rfl ?_
        refine x_get (.ref (b + (o + 3))) C fl_X5_25 (C_Led hpo hw) rfl dX5_copyFrom_121 ?_
        refine x_iload_n C dX5_copyFrom_124 rfl ?_
        obtain ⟨h28, hF⟩ := asr_e hF
        obtain ⟨hn29, hl30⟩ := vpn h28 (by decide)
        refine x_aald 5 C (C_invoices hpo hw) rfl hn29 hl30 (by decide) rfl dX5_copyFrom_125 ?_
        refine x_aload_n C dX5_copyFrom_126 rfl ?_
        refine x_get (.ref (b + (a1 + 3))) C fl_X5_25 (C_Led hpa1 hw) rfl dX5_copyFrom_127 ?_
        refine x_iload_n C dX5_copyFrom_130 rfl ?_
        refine x_aald 5 C (C_invoices hpa1 hw) rfl hn29 hl30 (by decide) rfl dX5_copyFrom_131 ?_
        obtain ⟨q31, hq32, hF⟩ := bnd_e hF
        refine x_goM (fun ls h => x_runV (As := [.ref (b + (a1 + (62 + 2 * (cl x2))))]) [] h C ml_X5_75 (k_X4_copyFrom l D cA s0 z b μ0 _ hG (o + (62 + 2 * (cl x2))) (a1 + (62 + 2 * (cl x2))) q31 hq32) ⟨rfl, rfl, nb rfl, nb rfl⟩ rfl (C_Inv (mk_Inv hpo hl30) hw) rfl ⟨rfl, hw⟩ (nb rfl) ⟨Nat.zero_le _, Nat.zero_le _⟩ dX5_copyFrom_132) hS (xA_le hS) (fun H locs hw hz hk hS => ?_)
        have hw : WC D cA s0 z b q31 H := hw
        refine x_iinc (x2 + (1 : Int32)) [(2, .int (x2 + (1 : Int32))), (0, .ref (b + o)), (1, .ref (b + a1))] C dX5_copyFrom_135 rfl rfl (by decide) rfl ?_
        refine x_goto 112 C dX5_copyFrom_138 (by decide) ?_
        refine x_sub [(0, .ref (b + o)), (1, .ref (b + a1)), (2, .int (x2 + (1 : Int32)))] [1, 2, 0] rfl ?_
        exact ih112 q31 (x2 + (1 : Int32)) _ _ hw hS hF
  have h_L81 : ∀ (n : Nat) (μ0 : Mm) (x2 : Int32) (H : Heap) (locs : List Loc) (hw : WC D cA s0 z b μ0 H) (hS : va_S (xA b 2628 s.heap.size) s.heap H locs), g_X5_copyFrom_L81 ν o a1 n μ0 x2 = some r → xW p l e { frames := 2, cells := 0, slots := 0, locals := 61 } s m args below meth c 3 (MQ below (xQm none (fun H => WC D cA s0 z b r H) (xA b 2628 s.heap.size)) args s 0 0 (xA b 2628 s.heap.size)) H locs 0 0 81 [(0, .ref (b + o)), (1, .ref (b + a1)), (2, .int x2)] [] := by
    intro n
    induction n with
    | zero =>
      intro μ0 x2 H locs hw hS hF
      exact no_some hF
    | succ n ih =>
      intro μ0 x2 H locs hw hS hF
      have ih81 := ih
      refine x_iload_n C dX5_copyFrom_81 rfl ?_
      refine x_aload_n C dX5_copyFrom_82 rfl ?_
      refine x_get (.int (μ0.1 o 6)) C fl_X5_50 (C_Led hpo hw) rfl dX5_copyFrom_83 ?_
      refine x_icmp_ge 110 C dX5_copyFrom_86 (by decide) (fun c14 => ?_) (fun c14 => ?_)
      · have hF := ite_t hF c14
        refine x_iconst (0 : Int32) C dX5_copyFrom_110 rfl ?_
        refine x_istore_n [(2, .int (0 : Int32)), (0, .ref (b + o)), (1, .ref (b + a1))] C dX5_copyFrom_111 rfl (by decide) rfl ?_
        refine x_sub [(0, .ref (b + o)), (1, .ref (b + a1)), (2, .int (0 : Int32))] [1, 2, 0] rfl ?_
        exact h_L112 10000 μ0 (0 : Int32) _ _ hw hS hF
      · have hF := ite_f hF c14
        refine x_aload_n C dX5_copyFrom_89 rfl ?_
        refine x_get (.ref (b + (o + 2))) C fl_X5_19 (C_Led hpo hw) rfl dX5_copyFrom_90 ?_
        refine x_iload_n C dX5_copyFrom_93 rfl ?_
        obtain ⟨h33, hF⟩ := asr_e hF
        obtain ⟨hn34, hl35⟩ := vpn h33 (by decide)
        refine x_aald 4 C (C_calls hpo hw) rfl hn34 hl35 (by decide) rfl dX5_copyFrom_94 ?_
        refine x_aload_n C dX5_copyFrom_95 rfl ?_
        refine x_get (.ref (b + (a1 + 2))) C fl_X5_19 (C_Led hpa1 hw) rfl dX5_copyFrom_96 ?_
        refine x_iload_n C dX5_copyFrom_99 rfl ?_
        refine x_aald 4 C (C_calls hpa1 hw) rfl hn34 hl35 (by decide) rfl dX5_copyFrom_100 ?_
        obtain ⟨q36, hq37, hF⟩ := bnd_e hF
        refine x_goM (fun ls h => x_runV (As := [.ref (b + (a1 + (22 + (cl x2))))]) [] h C ml_X5_72 (k_X2_copyFrom l D cA s0 z b μ0 _ hG (o + (22 + (cl x2))) (a1 + (22 + (cl x2))) q36 hq37) ⟨rfl, rfl, nb rfl, nb rfl⟩ rfl (C_Cal (mk_Cal hpo hl35) hw) rfl ⟨rfl, hw⟩ (nb rfl) ⟨Nat.zero_le _, Nat.zero_le _⟩ dX5_copyFrom_101) hS (xA_le hS) (fun H locs hw hz hk hS => ?_)
        have hw : WC D cA s0 z b q36 H := hw
        refine x_iinc (x2 + (1 : Int32)) [(2, .int (x2 + (1 : Int32))), (0, .ref (b + o)), (1, .ref (b + a1))] C dX5_copyFrom_104 rfl rfl (by decide) rfl ?_
        refine x_goto 81 C dX5_copyFrom_107 (by decide) ?_
        refine x_sub [(0, .ref (b + o)), (1, .ref (b + a1)), (2, .int (x2 + (1 : Int32)))] [1, 2, 0] rfl ?_
        exact ih81 q36 (x2 + (1 : Int32)) _ _ hw hS hF
  have h_L50 : ∀ (n : Nat) (μ0 : Mm) (x2 : Int32) (H : Heap) (locs : List Loc) (hw : WC D cA s0 z b μ0 H) (hS : va_S (xA b 2628 s.heap.size) s.heap H locs), g_X5_copyFrom_L50 ν o a1 n μ0 x2 = some r → xW p l e { frames := 2, cells := 0, slots := 0, locals := 61 } s m args below meth c 3 (MQ below (xQm none (fun H => WC D cA s0 z b r H) (xA b 2628 s.heap.size)) args s 0 0 (xA b 2628 s.heap.size)) H locs 0 0 50 [(0, .ref (b + o)), (1, .ref (b + a1)), (2, .int x2)] [] := by
    intro n
    induction n with
    | zero =>
      intro μ0 x2 H locs hw hS hF
      exact no_some hF
    | succ n ih =>
      intro μ0 x2 H locs hw hS hF
      have ih50 := ih
      refine x_iload_n C dX5_copyFrom_50 rfl ?_
      refine x_aload_n C dX5_copyFrom_51 rfl ?_
      refine x_get (.int (μ0.1 o 5)) C fl_X5_46 (C_Led hpo hw) rfl dX5_copyFrom_52 ?_
      refine x_icmp_ge 79 C dX5_copyFrom_55 (by decide) (fun c13 => ?_) (fun c13 => ?_)
      · have hF := ite_t hF c13
        refine x_iconst (0 : Int32) C dX5_copyFrom_79 rfl ?_
        refine x_istore_n [(2, .int (0 : Int32)), (0, .ref (b + o)), (1, .ref (b + a1))] C dX5_copyFrom_80 rfl (by decide) rfl ?_
        refine x_sub [(0, .ref (b + o)), (1, .ref (b + a1)), (2, .int (0 : Int32))] [1, 2, 0] rfl ?_
        exact h_L81 10000 μ0 (0 : Int32) _ _ hw hS hF
      · have hF := ite_f hF c13
        refine x_aload_n C dX5_copyFrom_58 rfl ?_
        refine x_get (.ref (b + (o + 1))) C fl_X5_11 (C_Led hpo hw) rfl dX5_copyFrom_59 ?_
        refine x_iload_n C dX5_copyFrom_62 rfl ?_
        obtain ⟨h38, hF⟩ := asr_e hF
        obtain ⟨hn39, hl40⟩ := vpn h38 (by decide)
        refine x_aald 3 C (C_ships hpo hw) rfl hn39 hl40 (by decide) rfl dX5_copyFrom_63 ?_
        refine x_aload_n C dX5_copyFrom_64 rfl ?_
        refine x_get (.ref (b + (a1 + 1))) C fl_X5_11 (C_Led hpa1 hw) rfl dX5_copyFrom_65 ?_
        refine x_iload_n C dX5_copyFrom_68 rfl ?_
        refine x_aald 3 C (C_ships hpa1 hw) rfl hn39 hl40 (by decide) rfl dX5_copyFrom_69 ?_
        obtain ⟨q41, hq42, hF⟩ := bnd_e hF
        refine x_goM (fun ls h => x_runV (As := [.ref (b + (a1 + (6 + 2 * (cl x2))))]) [] h C ml_X5_68 (k_X9_copyFrom l D cA s0 z b μ0 _ hG (o + (6 + 2 * (cl x2))) (a1 + (6 + 2 * (cl x2))) q41 hq42) ⟨rfl, rfl, nb rfl, nb rfl⟩ rfl (C_Ship (mk_Ship hpo hl40) hw) rfl ⟨rfl, hw⟩ (nb rfl) ⟨Nat.zero_le _, Nat.zero_le _⟩ dX5_copyFrom_70) hS (xA_le hS) (fun H locs hw hz hk hS => ?_)
        have hw : WC D cA s0 z b q41 H := hw
        refine x_iinc (x2 + (1 : Int32)) [(2, .int (x2 + (1 : Int32))), (0, .ref (b + o)), (1, .ref (b + a1))] C dX5_copyFrom_73 rfl rfl (by decide) rfl ?_
        refine x_goto 50 C dX5_copyFrom_76 (by decide) ?_
        refine x_sub [(0, .ref (b + o)), (1, .ref (b + a1)), (2, .int (x2 + (1 : Int32)))] [1, 2, 0] rfl ?_
        exact ih50 q41 (x2 + (1 : Int32)) _ _ hw hS hF
  refine x_aload_n C dX5_copyFrom_0 rfl ?_
  refine x_aload_n C dX5_copyFrom_1 rfl ?_
  refine x_get (.int (ν.1 a1 5)) C fl_X5_46 (C_Led hpa1 hw) rfl dX5_copyFrom_2 ?_
  refine y_putI (kk0 := 5) o C fl_X5_46 hw (l4 hpo) (fun nm => S_Led hpo) (fun nm => S_Led hpo) rfl rfl (fun _ => nb rfl) dX5_copyFrom_5 hS (xA_in (l4 hpo)) (fun H locs hw hS => ?_)
  obtain ⟨μ1, hm2, hF⟩ := bnd_e hF
  have hw : WC D cA s0 z b μ1 H := rv_m (W := fun m => WC D cA s0 z b m _) hm2 hw
  refine x_aload_n C dX5_copyFrom_8 rfl ?_
  refine x_aload_n C dX5_copyFrom_9 rfl ?_
  refine x_get (.int (μ1.1 a1 6)) C fl_X5_50 (C_Led hpa1 hw) rfl dX5_copyFrom_10 ?_
  refine y_putI (kk0 := 6) o C fl_X5_50 hw (l4 hpo) (fun nm => S_Led hpo) (fun nm => S_Led hpo) rfl rfl (fun _ => nb rfl) dX5_copyFrom_13 hS (xA_in (l4 hpo)) (fun H locs hw hS => ?_)
  obtain ⟨μ3, hm4, hF⟩ := bnd_e hF
  have hw : WC D cA s0 z b μ3 H := rv_m (W := fun m => WC D cA s0 z b m _) hm4 hw
  refine x_aload_n C dX5_copyFrom_16 rfl ?_
  refine x_aload_n C dX5_copyFrom_17 rfl ?_
  refine x_get (.int (μ3.1 a1 7)) C fl_X5_53 (C_Led hpa1 hw) rfl dX5_copyFrom_18 ?_
  refine y_putI (kk0 := 7) o C fl_X5_53 hw (l4 hpo) (fun nm => S_Led hpo) (fun nm => S_Led hpo) rfl rfl (fun _ => nb rfl) dX5_copyFrom_21 hS (xA_in (l4 hpo)) (fun H locs hw hS => ?_)
  obtain ⟨μ5, hm6, hF⟩ := bnd_e hF
  have hw : WC D cA s0 z b μ5 H := rv_m (W := fun m => WC D cA s0 z b m _) hm6 hw
  refine x_aload_n C dX5_copyFrom_24 rfl ?_
  refine x_aload_n C dX5_copyFrom_25 rfl ?_
  refine x_get (.int (μ5.1 a1 8)) C fl_X5_56 (C_Led hpa1 hw) rfl dX5_copyFrom_26 ?_
  refine y_putI (kk0 := 8) o C fl_X5_56 hw (l4 hpo) (fun nm => S_Led hpo) (fun nm => S_Led hpo) rfl rfl (fun _ => nb rfl) dX5_copyFrom_29 hS (xA_in (l4 hpo)) (fun H locs hw hS => ?_)
  obtain ⟨μ7, hm8, hF⟩ := bnd_e hF
  have hw : WC D cA s0 z b μ7 H := rv_m (W := fun m => WC D cA s0 z b m _) hm8 hw
  refine x_aload_n C dX5_copyFrom_32 rfl ?_
  refine x_aload_n C dX5_copyFrom_33 rfl ?_
  refine x_get (.int (μ7.1 a1 9)) C fl_X5_59 (C_Led hpa1 hw) rfl dX5_copyFrom_34 ?_
  refine y_putI (kk0 := 9) o C fl_X5_59 hw (l4 hpo) (fun nm => S_Led hpo) (fun nm => S_Led hpo) rfl rfl (fun _ => nb rfl) dX5_copyFrom_37 hS (xA_in (l4 hpo)) (fun H locs hw hS => ?_)
  obtain ⟨μ9, hm10, hF⟩ := bnd_e hF
  have hw : WC D cA s0 z b μ9 H := rv_m (W := fun m => WC D cA s0 z b m _) hm10 hw
  refine x_aload_n C dX5_copyFrom_40 rfl ?_
  refine x_aload_n C dX5_copyFrom_41 rfl ?_
  refine x_get (.int (μ9.1 a1 10)) C fl_X5_62 (C_Led hpa1 hw) rfl dX5_copyFrom_42 ?_
  refine y_putI (kk0 := 10) o C fl_X5_62 hw (l4 hpo) (fun nm => S_Led hpo) (fun nm => S_Led hpo) rfl rfl (fun _ => nb rfl) dX5_copyFrom_45 hS (xA_in (l4 hpo)) (fun H locs hw hS => ?_)
  obtain ⟨μ11, hm12, hF⟩ := bnd_e hF
  have hw : WC D cA s0 z b μ11 H := rv_m (W := fun m => WC D cA s0 z b m _) hm12 hw
  refine x_iconst (0 : Int32) C dX5_copyFrom_48 rfl ?_
  refine x_istore_n [(2, .int (0 : Int32)), (0, .ref (b + o)), (1, .ref (b + a1))] C dX5_copyFrom_49 rfl (by decide) rfl ?_
  refine x_sub [(0, .ref (b + o)), (1, .ref (b + a1)), (2, .int (0 : Int32))] [1, 2, 0] rfl ?_
  exact h_L50 10000 μ11 (0 : Int32) _ _ hw hS hF
noncomputable def g_X3_save (ν : Mm) (a1 : Nat) : Option (Mm) := asr (isLed a1) (asr (vp_in (ν.1 662 2) 6) (bnd (g_X5_copyFrom ν (664 + 327 * (cl (ν.1 662 2))) a1) (fun q4 => bnd (some (uI q4 662 2 (((q4.1 662 2) + (1 : Int32)) - ((q4.1 662 2) + (1 : Int32)) / (6 : Int32) * (6 : Int32)))) (fun μ6 => bnd (some (uI μ6 662 1 (imin ((μ6.1 662 1) + (1 : Int32)) (6 : Int32)))) (fun μ8 => some μ8)))))
set_option maxRecDepth 20000 in
set_option maxHeartbeats 4000000 in
theorem k_X3_save (l : Launch) (D : va_G) (cA : Nat → ClassId) (s0 : State) (z : Nat) (b : Nat) (ν : Mm) (sz : Nat) (hG : xG l D cA s0) (a1 : Nat) (r : Mm) (hF : g_X3_save ν a1 = some r) : Met l yX3_save (wsG yX3_save cX3_save 2 none) { frames := 3, cells := 0, slots := 0, locals := 83 } (xP D cA s0 [.ref (b + 662), .ref (b + a1)] (fun H => H.size = sz ∧ WC D cA s0 z b ν H)) (xQm none (fun H => WC D cA s0 z b r H) (xA b 2628 sz)) 0 0 (xA b 2628 sz) := by
  refine x_start (own := RX3) [(0, .ref (b + 662)), (1, .ref (b + a1))] rfl rfl (by decide) (nb rfl) ?_
  intro p e s m args below meth c C hw
  obtain ⟨hsz, hw⟩ := hw
  subst hsz
  have hS : va_S (xA b 2628 s.heap.size) s.heap s.heap [] := va_S.rf
  obtain ⟨hpa1, hF⟩ := asr_e hF
  refine x_aload_n C dX3_save_0 rfl ?_
  refine x_get (.ref (b + 663)) C fl_X3_11 (C_His hw) rfl dX3_save_1 ?_
  refine x_aload_n C dX3_save_4 rfl ?_
  refine x_get (.int (ν.1 662 2)) C fl_X3_18 (C_His hw) rfl dX3_save_5 ?_
  obtain ⟨h1, hF⟩ := asr_e hF
  obtain ⟨hn2, hl3⟩ := vpn h1 (by decide)
  refine x_aald 8 C (C_kept hw) rfl hn2 hl3 (by decide) rfl dX3_save_8 ?_
  refine x_aload_n C dX3_save_9 rfl ?_
  obtain ⟨q4, hq5, hF⟩ := bnd_e hF
  refine x_goM (fun ls h => x_runV (As := [.ref (b + a1)]) [] h C ml_X3_22 (k_X5_copyFrom l D cA s0 z b ν _ hG (664 + 327 * (cl (ν.1 662 2))) a1 q4 hq5) ⟨rfl, rfl, nb rfl, nb rfl⟩ rfl (C_Led (ledK hl3) hw) rfl ⟨rfl, hw⟩ (nb rfl) ⟨Nat.zero_le _, Nat.zero_le _⟩ dX3_save_10) hS (xA_le hS) (fun H locs hw hz hk hS => ?_)
  have hw : WC D cA s0 z b q4 H := hw
  refine x_aload_n C dX3_save_13 rfl ?_
  refine x_aload_n C dX3_save_14 rfl ?_
  refine x_get (.int (q4.1 662 2)) C fl_X3_18 (C_His hw) rfl dX3_save_15 ?_
  refine x_iconst (1 : Int32) C dX3_save_18 rfl ?_
  refine x_iadd C dX3_save_19 ?_
  refine x_bipush (6 : Int32) C dX3_save_20 rfl ?_
  refine x_irem C dX3_save_22 (by decide) ?_
  refine y_putI (kk0 := 2) 662 C fl_X3_18 hw (by decide) (fun nm => S_His) (fun nm => S_His) rfl rfl (fun _ => nb rfl) dX3_save_23 hS (xA_in (by decide)) (fun H locs hw hS => ?_)
  obtain ⟨μ6, hm7, hF⟩ := bnd_e hF
  have hw : WC D cA s0 z b μ6 H := rv_m (W := fun m => WC D cA s0 z b m _) hm7 hw
  refine x_aload_n C dX3_save_26 rfl ?_
  refine x_aload_n C dX3_save_27 rfl ?_
  refine x_get (.int (μ6.1 662 1)) C fl_X3_26 (C_His hw) rfl dX3_save_28 ?_
  refine x_iconst (1 : Int32) C dX3_save_31 rfl ?_
  refine x_iadd C dX3_save_32 ?_
  refine x_bipush (6 : Int32) C dX3_save_33 rfl ?_
  refine x_mmin C ml_X3_29 (nb rfl) (nb rfl) ⟨Nat.zero_le _, Nat.zero_le _⟩ dX3_save_35 ?_
  refine y_putI (kk0 := 1) 662 C fl_X3_26 hw (by decide) (fun nm => S_His) (fun nm => S_His) rfl rfl (fun _ => nb rfl) dX3_save_38 hS (xA_in (by decide)) (fun H locs hw hS => ?_)
  obtain ⟨μ8, hm9, hF⟩ := bnd_e hF
  have hw : WC D cA s0 z b μ8 H := rv_m (W := fun m => WC D cA s0 z b m _) hm9 hw
  exact x_vretM2 C rfl dX3_save_41 rfl (rv_m (W := fun m => WC D cA s0 z b m _) hF hw) hS (nb rfl) (nb rfl)
noncomputable def g_X3_takeBack (ν : Mm) (a1 : Nat) : Option (Mm) := asr (isLed a1) (bnd (some (uI ν 662 2 ((((ν.1 662 2) + (6 : Int32)) - (1 : Int32)) - (((ν.1 662 2) + (6 : Int32)) - (1 : Int32)) / (6 : Int32) * (6 : Int32)))) (fun μ1 => bnd (some (uI μ1 662 1 ((μ1.1 662 1) - (1 : Int32)))) (fun μ3 => asr (vp_in (μ3.1 662 2) 6) (bnd (g_X5_copyFrom μ3 a1 (664 + 327 * (cl (μ3.1 662 2)))) (fun q8 => some q8)))))
set_option maxRecDepth 20000 in
set_option maxHeartbeats 4000000 in
theorem k_X3_takeBack (l : Launch) (D : va_G) (cA : Nat → ClassId) (s0 : State) (z : Nat) (b : Nat) (ν : Mm) (sz : Nat) (hG : xG l D cA s0) (a1 : Nat) (r : Mm) (hF : g_X3_takeBack ν a1 = some r) : Met l yX3_takeBack (wsG yX3_takeBack cX3_takeBack 2 none) { frames := 3, cells := 0, slots := 0, locals := 83 } (xP D cA s0 [.ref (b + 662), .ref (b + a1)] (fun H => H.size = sz ∧ WC D cA s0 z b ν H)) (xQm none (fun H => WC D cA s0 z b r H) (xA b 2628 sz)) 0 0 (xA b 2628 sz) := by
  refine x_start (own := RX3) [(0, .ref (b + 662)), (1, .ref (b + a1))] rfl rfl (by decide) (nb rfl) ?_
  intro p e s m args below meth c C hw
  obtain ⟨hsz, hw⟩ := hw
  subst hsz
  have hS : va_S (xA b 2628 s.heap.size) s.heap s.heap [] := va_S.rf
  obtain ⟨hpa1, hF⟩ := asr_e hF
  refine x_aload_n C dX3_takeBack_0 rfl ?_
  refine x_aload_n C dX3_takeBack_1 rfl ?_
  refine x_get (.int (ν.1 662 2)) C fl_X3_18 (C_His hw) rfl dX3_takeBack_2 ?_
  refine x_bipush (6 : Int32) C dX3_takeBack_5 rfl ?_
  refine x_iadd C dX3_takeBack_7 ?_
  refine x_iconst (1 : Int32) C dX3_takeBack_8 rfl ?_
  refine x_isub C dX3_takeBack_9 ?_
  refine x_bipush (6 : Int32) C dX3_takeBack_10 rfl ?_
  refine x_irem C dX3_takeBack_12 (by decide) ?_
  refine y_putI (kk0 := 2) 662 C fl_X3_18 hw (by decide) (fun nm => S_His) (fun nm => S_His) rfl rfl (fun _ => nb rfl) dX3_takeBack_13 hS (xA_in (by decide)) (fun H locs hw hS => ?_)
  obtain ⟨μ1, hm2, hF⟩ := bnd_e hF
  have hw : WC D cA s0 z b μ1 H := rv_m (W := fun m => WC D cA s0 z b m _) hm2 hw
  refine x_aload_n C dX3_takeBack_16 rfl ?_
  refine x_dup C dX3_takeBack_17 rfl ?_
  refine x_get (.int (μ1.1 662 1)) C fl_X3_26 (C_His hw) rfl dX3_takeBack_18 ?_
  refine x_iconst (1 : Int32) C dX3_takeBack_21 rfl ?_
  refine x_isub C dX3_takeBack_22 ?_
  refine y_putI (kk0 := 1) 662 C fl_X3_26 hw (by decide) (fun nm => S_His) (fun nm => S_His) rfl rfl (fun _ => nb rfl) dX3_takeBack_23 hS (xA_in (by decide)) (fun H locs hw hS => ?_)
  obtain ⟨μ3, hm4, hF⟩ := bnd_e hF
  have hw : WC D cA s0 z b μ3 H := rv_m (W := fun m => WC D cA s0 z b m _) hm4 hw
  refine x_aload_n C dX3_takeBack_26 rfl ?_
  refine x_aload_n C dX3_takeBack_27 rfl ?_
  refine x_get (.ref (b + 663)) C fl_X3_11 (C_His hw) rfl dX3_takeBack_28 ?_
  refine x_aload_n C dX3_takeBack_31 rfl ?_
  refine x_get (.int (μ3.1 662 2)) C fl_X3_18 (C_His hw) rfl dX3_takeBack_32 ?_
  obtain ⟨h5, hF⟩ := asr_e hF
  obtain ⟨hn6, hl7⟩ := vpn h5 (by decide)
  refine x_aald 8 C (C_kept hw) rfl hn6 hl7 (by decide) rfl dX3_takeBack_35 ?_
  obtain ⟨q8, hq9, hF⟩ := bnd_e hF
  refine x_goM (fun ls h => x_runV (As := [.ref (b + (664 + 327 * (cl (μ3.1 662 2))))]) [] h C ml_X3_22 (k_X5_copyFrom l D cA s0 z b μ3 _ hG a1 (664 + 327 * (cl (μ3.1 662 2))) q8 hq9) ⟨rfl, rfl, nb rfl, nb rfl⟩ rfl (C_Led hpa1 hw) rfl ⟨rfl, hw⟩ (nb rfl) ⟨Nat.zero_le _, Nat.zero_le _⟩ dX3_takeBack_36) hS (xA_le hS) (fun H locs hw hz hk hS => ?_)
  have hw : WC D cA s0 z b q8 H := hw
  exact x_vretM2 C rfl dX3_takeBack_39 rfl (rv_m (W := fun m => WC D cA s0 z b m _) hF hw) hS (nb rfl) (nb rfl)
noncomputable def g_X10_clear (ν : Mm) (o : Nat) : Option (Mm) := asr (isTar o) (bnd (some (uI ν o 4 (0 : Int32))) (fun μ1 => bnd (some (uI μ1 o 5 (0 : Int32))) (fun μ3 => bnd (some (uI μ3 o 6 (0 : Int32))) (fun μ5 => bnd (some (uI μ5 o 7 (0 : Int32))) (fun μ7 => bnd (some (uI μ7 o 8 (0 : Int32))) (fun μ9 => bnd (some (uI μ9 o 9 (0 : Int32))) (fun μ11 => bnd (some (uI μ11 o 10 (30 : Int32))) (fun μ13 => bnd (some (uI μ13 o 11 (0 : Int32))) (fun μ15 => some μ15)))))))))
set_option maxRecDepth 20000 in
set_option maxHeartbeats 4000000 in
theorem k_X10_clear (l : Launch) (D : va_G) (cA : Nat → ClassId) (s0 : State) (z : Nat) (b : Nat) (ν : Mm) (sz : Nat) (hG : xG l D cA s0) (o : Nat) (r : Mm) (hF : g_X10_clear ν o = some r) : Met l yX10_clear (wsG yX10_clear cX10_clear 1 none) { frames := 0, cells := 0, slots := 0, locals := 0 } (xP D cA s0 [.ref (b + o)] (fun H => H.size = sz ∧ WC D cA s0 z b ν H)) (xQm none (fun H => WC D cA s0 z b r H) (xA b 2628 sz)) 0 0 (xA b 2628 sz) := by
  refine x_start (own := RX10) [(0, .ref (b + o))] rfl rfl (by decide) (nb rfl) ?_
  intro p e s m args below meth c C hw
  obtain ⟨hsz, hw⟩ := hw
  subst hsz
  have hS : va_S (xA b 2628 s.heap.size) s.heap s.heap [] := va_S.rf
  obtain ⟨hpo, hF⟩ := asr_e hF
  refine x_aload_n C dX10_clear_0 rfl ?_
  refine x_iconst (0 : Int32) C dX10_clear_1 rfl ?_
  refine y_putI (kk0 := 4) o C fl_X10_28 hw (l2 (lt_Tar hpo)) (fun nm => S_Tar hpo) (fun nm => S_Tar hpo) rfl rfl (fun _ => nb rfl) dX10_clear_2 hS (xA_in (l2 (lt_Tar hpo))) (fun H locs hw hS => ?_)
  obtain ⟨μ1, hm2, hF⟩ := bnd_e hF
  have hw : WC D cA s0 z b μ1 H := rv_m (W := fun m => WC D cA s0 z b m _) hm2 hw
  refine x_aload_n C dX10_clear_5 rfl ?_
  refine x_iconst (0 : Int32) C dX10_clear_6 rfl ?_
  refine y_putI (kk0 := 5) o C fl_X10_31 hw (l2 (lt_Tar hpo)) (fun nm => S_Tar hpo) (fun nm => S_Tar hpo) rfl rfl (fun _ => nb rfl) dX10_clear_7 hS (xA_in (l2 (lt_Tar hpo))) (fun H locs hw hS => ?_)
  obtain ⟨μ3, hm4, hF⟩ := bnd_e hF
  have hw : WC D cA s0 z b μ3 H := rv_m (W := fun m => WC D cA s0 z b m _) hm4 hw
  refine x_aload_n C dX10_clear_10 rfl ?_
  refine x_iconst (0 : Int32) C dX10_clear_11 rfl ?_
  refine y_putZ (kk0 := 6) o C fl_X10_34 hw (l2 (lt_Tar hpo)) (fun nm => S_Tar hpo) (fun nm => S_Tar hpo) rfl rfl rfl (fun _ => nb rfl) dX10_clear_12 hS (xA_in (l2 (lt_Tar hpo))) (fun H locs hw hS => ?_)
  obtain ⟨μ5, hm6, hF⟩ := bnd_e hF
  have hw : WC D cA s0 z b μ5 H := rv_m (W := fun m => WC D cA s0 z b m _) hm6 hw
  refine x_aload_n C dX10_clear_15 rfl ?_
  refine x_iconst (0 : Int32) C dX10_clear_16 rfl ?_
  refine y_putI (kk0 := 7) o C fl_X10_38 hw (l2 (lt_Tar hpo)) (fun nm => S_Tar hpo) (fun nm => S_Tar hpo) rfl rfl (fun _ => nb rfl) dX10_clear_17 hS (xA_in (l2 (lt_Tar hpo))) (fun H locs hw hS => ?_)
  obtain ⟨μ7, hm8, hF⟩ := bnd_e hF
  have hw : WC D cA s0 z b μ7 H := rv_m (W := fun m => WC D cA s0 z b m _) hm8 hw
  refine x_aload_n C dX10_clear_20 rfl ?_
  refine x_iconst (0 : Int32) C dX10_clear_21 rfl ?_
  refine y_putI (kk0 := 8) o C fl_X10_41 hw (l2 (lt_Tar hpo)) (fun nm => S_Tar hpo) (fun nm => S_Tar hpo) rfl rfl (fun _ => nb rfl) dX10_clear_22 hS (xA_in (l2 (lt_Tar hpo))) (fun H locs hw hS => ?_)
  obtain ⟨μ9, hm10, hF⟩ := bnd_e hF
  have hw : WC D cA s0 z b μ9 H := rv_m (W := fun m => WC D cA s0 z b m _) hm10 hw
  refine x_aload_n C dX10_clear_25 rfl ?_
  refine x_iconst (0 : Int32) C dX10_clear_26 rfl ?_
  refine y_putI (kk0 := 9) o C fl_X10_44 hw (l2 (lt_Tar hpo)) (fun nm => S_Tar hpo) (fun nm => S_Tar hpo) rfl rfl (fun _ => nb rfl) dX10_clear_27 hS (xA_in (l2 (lt_Tar hpo))) (fun H locs hw hS => ?_)
  obtain ⟨μ11, hm12, hF⟩ := bnd_e hF
  have hw : WC D cA s0 z b μ11 H := rv_m (W := fun m => WC D cA s0 z b m _) hm12 hw
  refine x_aload_n C dX10_clear_30 rfl ?_
  refine x_bipush (30 : Int32) C dX10_clear_31 rfl ?_
  refine y_putI (kk0 := 10) o C fl_X10_24 hw (l2 (lt_Tar hpo)) (fun nm => S_Tar hpo) (fun nm => S_Tar hpo) rfl rfl (fun _ => nb rfl) dX10_clear_33 hS (xA_in (l2 (lt_Tar hpo))) (fun H locs hw hS => ?_)
  obtain ⟨μ13, hm14, hF⟩ := bnd_e hF
  have hw : WC D cA s0 z b μ13 H := rv_m (W := fun m => WC D cA s0 z b m _) hm14 hw
  refine x_aload_n C dX10_clear_36 rfl ?_
  refine x_iconst (0 : Int32) C dX10_clear_37 rfl ?_
  refine y_putI (kk0 := 11) o C fl_X10_47 hw (l2 (lt_Tar hpo)) (fun nm => S_Tar hpo) (fun nm => S_Tar hpo) rfl rfl (fun _ => nb rfl) dX10_clear_38 hS (xA_in (l2 (lt_Tar hpo))) (fun H locs hw hS => ?_)
  obtain ⟨μ15, hm16, hF⟩ := bnd_e hF
  have hw : WC D cA s0 z b μ15 H := rv_m (W := fun m => WC D cA s0 z b m _) hm16 hw
  exact x_vretM2 C rfl dX10_clear_41 rfl (rv_m (W := fun m => WC D cA s0 z b m _) hF hw) hS (nb rfl) (nb rfl)
noncomputable def g_X5_clear (ν : Mm) (o : Nat) : Option (Mm) := asr (isLed o) (bnd (some (uI ν o 5 (0 : Int32))) (fun μ1 => bnd (some (uI μ1 o 6 (0 : Int32))) (fun μ3 => bnd (some (uI μ3 o 7 (0 : Int32))) (fun μ5 => bnd (some (uI μ5 o 8 (0 : Int32))) (fun μ7 => bnd (some (uI μ7 o 9 (0 : Int32))) (fun μ9 => bnd (some (uI μ9 o 10 (0 : Int32))) (fun μ11 => bnd (g_X10_clear μ11 (o + (222 + 5 * 0))) (fun q13 => some q13))))))))
set_option maxRecDepth 20000 in
set_option maxHeartbeats 4000000 in
theorem k_X5_clear (l : Launch) (D : va_G) (cA : Nat → ClassId) (s0 : State) (z : Nat) (b : Nat) (ν : Mm) (sz : Nat) (hG : xG l D cA s0) (o : Nat) (r : Mm) (hF : g_X5_clear ν o = some r) : Met l yX5_clear (wsG yX5_clear cX5_clear 1 none) { frames := 1, cells := 0, slots := 0, locals := 20 } (xP D cA s0 [.ref (b + o)] (fun H => H.size = sz ∧ WC D cA s0 z b ν H)) (xQm none (fun H => WC D cA s0 z b r H) (xA b 2628 sz)) 0 0 (xA b 2628 sz) := by
  refine x_start (own := RX5) [(0, .ref (b + o))] rfl rfl (by decide) (nb rfl) ?_
  intro p e s m args below meth c C hw
  obtain ⟨hsz, hw⟩ := hw
  subst hsz
  have hS : va_S (xA b 2628 s.heap.size) s.heap s.heap [] := va_S.rf
  obtain ⟨hpo, hF⟩ := asr_e hF
  refine x_aload_n C dX5_clear_0 rfl ?_
  refine x_iconst (0 : Int32) C dX5_clear_1 rfl ?_
  refine y_putI (kk0 := 5) o C fl_X5_46 hw (l4 hpo) (fun nm => S_Led hpo) (fun nm => S_Led hpo) rfl rfl (fun _ => nb rfl) dX5_clear_2 hS (xA_in (l4 hpo)) (fun H locs hw hS => ?_)
  obtain ⟨μ1, hm2, hF⟩ := bnd_e hF
  have hw : WC D cA s0 z b μ1 H := rv_m (W := fun m => WC D cA s0 z b m _) hm2 hw
  refine x_aload_n C dX5_clear_5 rfl ?_
  refine x_iconst (0 : Int32) C dX5_clear_6 rfl ?_
  refine y_putI (kk0 := 6) o C fl_X5_50 hw (l4 hpo) (fun nm => S_Led hpo) (fun nm => S_Led hpo) rfl rfl (fun _ => nb rfl) dX5_clear_7 hS (xA_in (l4 hpo)) (fun H locs hw hS => ?_)
  obtain ⟨μ3, hm4, hF⟩ := bnd_e hF
  have hw : WC D cA s0 z b μ3 H := rv_m (W := fun m => WC D cA s0 z b m _) hm4 hw
  refine x_aload_n C dX5_clear_10 rfl ?_
  refine x_iconst (0 : Int32) C dX5_clear_11 rfl ?_
  refine y_putI (kk0 := 7) o C fl_X5_53 hw (l4 hpo) (fun nm => S_Led hpo) (fun nm => S_Led hpo) rfl rfl (fun _ => nb rfl) dX5_clear_12 hS (xA_in (l4 hpo)) (fun H locs hw hS => ?_)
  obtain ⟨μ5, hm6, hF⟩ := bnd_e hF
  have hw : WC D cA s0 z b μ5 H := rv_m (W := fun m => WC D cA s0 z b m _) hm6 hw
  refine x_aload_n C dX5_clear_15 rfl ?_
  refine x_iconst (0 : Int32) C dX5_clear_16 rfl ?_
  refine y_putI (kk0 := 8) o C fl_X5_56 hw (l4 hpo) (fun nm => S_Led hpo) (fun nm => S_Led hpo) rfl rfl (fun _ => nb rfl) dX5_clear_17 hS (xA_in (l4 hpo)) (fun H locs hw hS => ?_)
  obtain ⟨μ7, hm8, hF⟩ := bnd_e hF
  have hw : WC D cA s0 z b μ7 H := rv_m (W := fun m => WC D cA s0 z b m _) hm8 hw
  refine x_aload_n C dX5_clear_20 rfl ?_
  refine x_iconst (0 : Int32) C dX5_clear_21 rfl ?_
  refine y_putI (kk0 := 9) o C fl_X5_59 hw (l4 hpo) (fun nm => S_Led hpo) (fun nm => S_Led hpo) rfl rfl (fun _ => nb rfl) dX5_clear_22 hS (xA_in (l4 hpo)) (fun H locs hw hS => ?_)
  obtain ⟨μ9, hm10, hF⟩ := bnd_e hF
  have hw : WC D cA s0 z b μ9 H := rv_m (W := fun m => WC D cA s0 z b m _) hm10 hw
  refine x_aload_n C dX5_clear_25 rfl ?_
  refine x_iconst (0 : Int32) C dX5_clear_26 rfl ?_
  refine y_putI (kk0 := 10) o C fl_X5_62 hw (l4 hpo) (fun nm => S_Led hpo) (fun nm => S_Led hpo) rfl rfl (fun _ => nb rfl) dX5_clear_27 hS (xA_in (l4 hpo)) (fun H locs hw hS => ?_)
  obtain ⟨μ11, hm12, hF⟩ := bnd_e hF
  have hw : WC D cA s0 z b μ11 H := rv_m (W := fun m => WC D cA s0 z b m _) hm12 hw
  refine x_aload_n C dX5_clear_30 rfl ?_
  refine x_get (.ref (b + (o + 5))) C fl_X5_37 (C_Led hpo hw) rfl dX5_clear_31 ?_
  refine x_iconst (0 : Int32) C dX5_clear_34 rfl ?_
  refine x_aald 7 C (C_versions hpo hw) rfl (ixl (x := (0 : Int32)) 0 rfl) (by decide) (by decide) rfl dX5_clear_35 ?_
  obtain ⟨q13, hq14, hF⟩ := bnd_e hF
  refine x_goM (fun ls h => x_runV (As := []) [] h C ml_X5_65 (k_X10_clear l D cA s0 z b μ11 _ hG (o + (222 + 5 * 0)) q13 hq14) ⟨rfl, rfl, nb rfl, nb rfl⟩ rfl (C_Tar (mk_Tar hpo (by decide)) hw) rfl ⟨rfl, hw⟩ (nb rfl) ⟨Nat.zero_le _, Nat.zero_le _⟩ dX5_clear_36) hS (xA_le hS) (fun H locs hw hz hk hS => ?_)
  have hw : WC D cA s0 z b q13 H := hw
  exact x_vretM2 C rfl dX5_clear_39 rfl (rv_m (W := fun m => WC D cA s0 z b m _) hF hw) hS (nb rfl) (nb rfl)
noncomputable def g_X5_newVersion (ν : Mm) (o : Nat) : Option (Nat × Mm) := asr (isLed o) (bnd (g_X5_present ν o) (fun q1 => asr (isTar q1) ((if (20 : Int32) ≤ (ν.1 o 9) then bnd (g_X5_present ν o) (fun q5 => asr (isTar q5) (bnd (g_X10_copyFrom ν q5 q1) (fun q8 => bnd (g_X5_present q8 o) (fun q10 => asr (isTar q10) (some (q10, q8)))))) else bnd (some (uI ν o 9 ((ν.1 o 9) + (1 : Int32)))) (fun μ13 => bnd (g_X5_present μ13 o) (fun q15 => asr (isTar q15) (bnd (g_X10_copyFrom μ13 q15 q1) (fun q18 => bnd (g_X5_present q18 o) (fun q20 => asr (isTar q20) (some (q20, q18)))))))))))
set_option maxRecDepth 20000 in
set_option maxHeartbeats 4000000 in
theorem k_X5_newVersion (l : Launch) (D : va_G) (cA : Nat → ClassId) (s0 : State) (z : Nat) (b : Nat) (ν : Mm) (sz : Nat) (hG : xG l D cA s0) (o : Nat) (r : Nat × Mm) (hF : g_X5_newVersion ν o = some r) : Met l yX5_newVersion (wsG yX5_newVersion cX5_newVersion 2 (some ((FieldType.object "PortDues$Tariff")))) { frames := 2, cells := 0, slots := 0, locals := 61 } (xP D cA s0 [.ref (b + o)] (fun H => H.size = sz ∧ WC D cA s0 z b ν H)) (xQm (some (.ref (b + r.1))) (fun H => WC D cA s0 z b r.2 H) (xA b 2628 sz)) 0 0 (xA b 2628 sz) := by
  refine x_start (own := RX5) [(0, .ref (b + o))] rfl rfl (by decide) (nb rfl) ?_
  intro p e s m args below meth c C hw
  obtain ⟨hsz, hw⟩ := hw
  subst hsz
  have hS : va_S (xA b 2628 s.heap.size) s.heap s.heap [] := va_S.rf
  obtain ⟨hpo, hF⟩ := asr_e hF
  refine x_aload_n C dX5_newVersion_0 rfl ?_
  obtain ⟨q1, hq2, hF⟩ := bnd_e hF
  refine x_goR (fun ls h => x_runV (As := []) [] h C ml_X5_84 (k_X5_present l D cA s0 z b ν hG o q1 hq2) ⟨rfl, rfl, nb rfl, nb rfl⟩ rfl (C_Led hpo hw) rfl hw (nb rfl) ⟨Nat.zero_le _, Nat.zero_le _⟩ dX5_newVersion_1) ?_
  obtain ⟨h3, hF⟩ := asr_e hF
  refine x_astore_n [(1, .ref (b + q1)), (0, .ref (b + o))] C dX5_newVersion_4 rfl (by decide) rfl ?_
  refine x_aload_n C dX5_newVersion_5 rfl ?_
  refine x_get (.int (ν.1 o 9)) C fl_X5_59 (C_Led hpo hw) rfl dX5_newVersion_6 ?_
  refine x_bipush (20 : Int32) C dX5_newVersion_9 rfl ?_
  refine x_icmp_ge 24 C dX5_newVersion_11 (by decide) (fun c4 => ?_) (fun c4 => ?_)
  · have hF := ite_t hF c4
    refine x_aload_n C dX5_newVersion_24 rfl ?_
    obtain ⟨q5, hq6, hF⟩ := bnd_e hF
    refine x_goR (fun ls h => x_runV (As := []) [] h C ml_X5_84 (k_X5_present l D cA s0 z b ν hG o q5 hq6) ⟨rfl, rfl, nb rfl, nb rfl⟩ rfl (C_Led hpo hw) rfl hw (nb rfl) ⟨Nat.zero_le _, Nat.zero_le _⟩ dX5_newVersion_25) ?_
    obtain ⟨h7, hF⟩ := asr_e hF
    refine x_aload_n C dX5_newVersion_28 rfl ?_
    obtain ⟨q8, hq9, hF⟩ := bnd_e hF
    refine x_goM (fun ls h => x_runV (As := [.ref (b + q1)]) [] h C ml_X5_81 (k_X10_copyFrom l D cA s0 z b ν _ hG q5 q1 q8 hq9) ⟨rfl, rfl, nb rfl, nb rfl⟩ rfl (C_Tar h7 hw) rfl ⟨rfl, hw⟩ (nb rfl) ⟨Nat.zero_le _, Nat.zero_le _⟩ dX5_newVersion_29) hS (xA_le hS) (fun H locs hw hz hk hS => ?_)
    have hw : WC D cA s0 z b q8 H := hw
    refine x_aload_n C dX5_newVersion_32 rfl ?_
    obtain ⟨q10, hq11, hF⟩ := bnd_e hF
    refine x_goR (fun ls h => x_runV (As := []) [] h C ml_X5_84 (k_X5_present l D cA s0 z b q8 hG o q10 hq11) ⟨rfl, rfl, nb rfl, nb rfl⟩ rfl (C_Led hpo hw) rfl hw (nb rfl) ⟨Nat.zero_le _, Nat.zero_le _⟩ dX5_newVersion_33) ?_
    obtain ⟨h12, hF⟩ := asr_e hF
    exact x_aretM2 C rfl dX5_newVersion_36 (Or.inl ⟨_, rfl⟩) (rm_o hF) (rm_m (W := fun m => WC D cA s0 z b m _) hF hw) hS (nb rfl) (nb rfl)
  · have hF := ite_f hF c4
    refine x_aload_n C dX5_newVersion_14 rfl ?_
    refine x_dup C dX5_newVersion_15 rfl ?_
    refine x_get (.int (ν.1 o 9)) C fl_X5_59 (C_Led hpo hw) rfl dX5_newVersion_16 ?_
    refine x_iconst (1 : Int32) C dX5_newVersion_19 rfl ?_
    refine x_iadd C dX5_newVersion_20 ?_
    refine y_putI (kk0 := 9) o C fl_X5_59 hw (l4 hpo) (fun nm => S_Led hpo) (fun nm => S_Led hpo) rfl rfl (fun _ => nb rfl) dX5_newVersion_21 hS (xA_in (l4 hpo)) (fun H locs hw hS => ?_)
    obtain ⟨μ13, hm14, hF⟩ := bnd_e hF
    have hw : WC D cA s0 z b μ13 H := rv_m (W := fun m => WC D cA s0 z b m _) hm14 hw
    refine x_aload_n C dX5_newVersion_24 rfl ?_
    obtain ⟨q15, hq16, hF⟩ := bnd_e hF
    refine x_goR (fun ls h => x_runV (As := []) [] h C ml_X5_84 (k_X5_present l D cA s0 z b μ13 hG o q15 hq16) ⟨rfl, rfl, nb rfl, nb rfl⟩ rfl (C_Led hpo hw) rfl hw (nb rfl) ⟨Nat.zero_le _, Nat.zero_le _⟩ dX5_newVersion_25) ?_
    obtain ⟨h17, hF⟩ := asr_e hF
    refine x_aload_n C dX5_newVersion_28 rfl ?_
    obtain ⟨q18, hq19, hF⟩ := bnd_e hF
    refine x_goM (fun ls h => x_runV (As := [.ref (b + q1)]) [] h C ml_X5_81 (k_X10_copyFrom l D cA s0 z b μ13 _ hG q15 q1 q18 hq19) ⟨rfl, rfl, nb rfl, nb rfl⟩ rfl (C_Tar h17 hw) rfl ⟨rfl, hw⟩ (nb rfl) ⟨Nat.zero_le _, Nat.zero_le _⟩ dX5_newVersion_29) hS (xA_le hS) (fun H locs hw hz hk hS => ?_)
    have hw : WC D cA s0 z b q18 H := hw
    refine x_aload_n C dX5_newVersion_32 rfl ?_
    obtain ⟨q20, hq21, hF⟩ := bnd_e hF
    refine x_goR (fun ls h => x_runV (As := []) [] h C ml_X5_84 (k_X5_present l D cA s0 z b q18 hG o q20 hq21) ⟨rfl, rfl, nb rfl, nb rfl⟩ rfl (C_Led hpo hw) rfl hw (nb rfl) ⟨Nat.zero_le _, Nat.zero_le _⟩ dX5_newVersion_33) ?_
    obtain ⟨h22, hF⟩ := asr_e hF
    exact x_aretM2 C rfl dX5_newVersion_36 (Or.inl ⟨_, rfl⟩) (rm_o hF) (rm_m (W := fun m => WC D cA s0 z b m _) hF hw) hS (nb rfl) (nb rfl)
noncomputable def g_X9_takeName_L15 (ν : Mm) (o : Nat) (a1 : Nat) (a2 : Int32) (a3 : Int32) : Nat → Mm → Int32 → Option (Mm)
  | 0, _, _ => none
  | n + 1, μ0, x4 => (if (μ0.1 o 1) ≤ x4 then some μ0 else bnd (g_X1_byteAt μ0 a1 (a2 + x4)) (fun q4 => asr (vp_in x4 6) (bnd (some (uI μ0 (o + 1) (cl x4) (vp_nar .byte q4.toInt8.toInt32))) (fun μ9 => (g_X9_takeName_L15 ν o a1 a2 a3 n μ9 (x4 + (1 : Int32)))))))
noncomputable def g_X9_takeName (ν : Mm) (o : Nat) (a1 : Nat) (a2 : Int32) (a3 : Int32) : Option (Mm) := asr (isShip o) (asr (isByt a1) (bnd (some (uI ν o 1 (imin (a3 - a2) (6 : Int32)))) (fun μ1 => (g_X9_takeName_L15 ν o a1 a2 a3 10000 μ1 (0 : Int32)))))
set_option maxRecDepth 20000 in
set_option maxHeartbeats 4000000 in
theorem k_X9_takeName (l : Launch) (D : va_G) (cA : Nat → ClassId) (s0 : State) (z : Nat) (b : Nat) (ν : Mm) (sz : Nat) (hG : xG l D cA s0) (o : Nat) (a1 : Nat) (a2 : Int32) (a3 : Int32) (r : Mm) (hF : g_X9_takeName ν o a1 a2 a3 = some r) : Met l yX9_takeName (wsG yX9_takeName cX9_takeName 5 none) { frames := 1, cells := 0, slots := 0, locals := 21 } (xP D cA s0 [.ref (b + o), .ref (b + a1), .int a2, .int a3] (fun H => H.size = sz ∧ WC D cA s0 z b ν H)) (xQm none (fun H => WC D cA s0 z b r H) (xA b 2628 sz)) 0 0 (xA b 2628 sz) := by
  refine x_start (own := RX9) [(0, .ref (b + o)), (1, .ref (b + a1)), (2, .int a2), (3, .int a3)] rfl rfl (by decide) (nb rfl) ?_
  intro p e s m args below meth c C hw
  obtain ⟨hsz, hw⟩ := hw
  subst hsz
  have hS : va_S (xA b 2628 s.heap.size) s.heap s.heap [] := va_S.rf
  obtain ⟨hpo, hF⟩ := asr_e hF
  obtain ⟨hpa1, hF⟩ := asr_e hF
  have h_L15 : ∀ (n : Nat) (μ0 : Mm) (x4 : Int32) (H : Heap) (locs : List Loc) (hw : WC D cA s0 z b μ0 H) (hS : va_S (xA b 2628 s.heap.size) s.heap H locs), g_X9_takeName_L15 ν o a1 a2 a3 n μ0 x4 = some r → xW p l e { frames := 1, cells := 0, slots := 0, locals := 21 } s m args below meth c 5 (MQ below (xQm none (fun H => WC D cA s0 z b r H) (xA b 2628 s.heap.size)) args s 0 0 (xA b 2628 s.heap.size)) H locs 0 0 15 [(0, .ref (b + o)), (1, .ref (b + a1)), (2, .int a2), (4, .int x4)] [] := by
    intro n
    induction n with
    | zero =>
      intro μ0 x4 H locs hw hS hF
      exact no_some hF
    | succ n ih =>
      intro μ0 x4 H locs hw hS hF
      have ih15 := ih
      refine x_iload C dX9_takeName_15 rfl ?_
      refine x_aload_n C dX9_takeName_17 rfl ?_
      refine x_get (.int (μ0.1 o 1)) C fl_X9_21 (C_Ship hpo hw) rfl dX9_takeName_18 ?_
      refine x_icmp_ge 46 C dX9_takeName_21 (by decide) (fun c3 => ?_) (fun c3 => ?_)
      · have hF := ite_t hF c3
        exact x_vretM2 C rfl dX9_takeName_46 rfl (rv_m (W := fun m => WC D cA s0 z b m _) hF hw) hS (nb rfl) (nb rfl)
      · have hF := ite_f hF c3
        refine x_aload_n C dX9_takeName_24 rfl ?_
        refine x_get (.ref (b + (o + 1))) C fl_X9_9 (C_Ship hpo hw) rfl dX9_takeName_25 ?_
        refine x_iload C dX9_takeName_28 rfl ?_
        refine x_aload_n C dX9_takeName_30 rfl ?_
        refine x_iload_n C dX9_takeName_31 rfl ?_
        refine x_iload C dX9_takeName_32 rfl ?_
        refine x_iadd C dX9_takeName_34 ?_
        obtain ⟨q4, hq5, hF⟩ := bnd_e hF
        refine x_goR (fun ls h => x_runV (As := [.int (a2 + x4)]) [.int x4, .ref (b + (o + 1))] h C ml_X9_38 (k_X1_byteAt l D cA s0 z b μ0 hG a1 (a2 + x4) q4 hq5) ⟨rfl, rfl, nb rfl, nb rfl⟩ rfl (C_Byt hpa1 hw) rfl hw (nb rfl) ⟨Nat.zero_le _, Nat.zero_le _⟩ dX9_takeName_35) ?_
        refine x_i2b C dX9_takeName_38 ?_
        obtain ⟨h6, hF⟩ := asr_e hF
        obtain ⟨hn7, hl8⟩ := vpn h6 (by decide)
        refine y_bastN o C hw hpo hn7 hl8 dX9_takeName_39 hS (xA_in (la_name hpo)) (fun H locs hw hS => ?_)
        obtain ⟨μ9, hm10, hF⟩ := bnd_e hF
        have hw : WC D cA s0 z b μ9 H := rv_m (W := fun m => WC D cA s0 z b m _) hm10 hw
        refine x_iinc (x4 + (1 : Int32)) [(4, .int (x4 + (1 : Int32))), (0, .ref (b + o)), (1, .ref (b + a1)), (2, .int a2)] C dX9_takeName_40 rfl rfl (by decide) rfl ?_
        refine x_goto 15 C dX9_takeName_43 (by decide) ?_
        refine x_sub [(0, .ref (b + o)), (1, .ref (b + a1)), (2, .int a2), (4, .int (x4 + (1 : Int32)))] [1, 2, 3, 0] rfl ?_
        exact ih15 μ9 (x4 + (1 : Int32)) _ _ hw hS hF
  refine x_aload_n C dX9_takeName_0 rfl ?_
  refine x_iload_n C dX9_takeName_1 rfl ?_
  refine x_iload_n C dX9_takeName_2 rfl ?_
  refine x_isub C dX9_takeName_3 ?_
  refine x_bipush (6 : Int32) C dX9_takeName_4 rfl ?_
  refine x_mmin C ml_X9_32 (nb rfl) (nb rfl) ⟨Nat.zero_le _, Nat.zero_le _⟩ dX9_takeName_6 ?_
  refine y_putI (kk0 := 1) o C fl_X9_21 hw (l2 (lt_Ship hpo)) (fun nm => S_Ship hpo) (fun nm => S_Ship hpo) rfl rfl (fun _ => nb rfl) dX9_takeName_9 hS (xA_in (l2 (lt_Ship hpo))) (fun H locs hw hS => ?_)
  obtain ⟨μ1, hm2, hF⟩ := bnd_e hF
  have hw : WC D cA s0 z b μ1 H := rv_m (W := fun m => WC D cA s0 z b m _) hm2 hw
  refine x_iconst (0 : Int32) C dX9_takeName_12 rfl ?_
  refine x_istore [(4, .int (0 : Int32)), (0, .ref (b + o)), (1, .ref (b + a1)), (2, .int a2), (3, .int a3)] C dX9_takeName_13 (by decide) rfl ?_
  refine x_sub [(0, .ref (b + o)), (1, .ref (b + a1)), (2, .int a2), (4, .int (0 : Int32))] [1, 2, 3, 0] rfl ?_
  exact h_L15 10000 μ1 (0 : Int32) _ _ hw hS hF
noncomputable def g_X5_newShip (ν : Mm) (o : Nat) (a1 : Nat) (a2 : Int32) (a3 : Int32) (a4 : Int32) : Option (Int32 × Mm) := asr (isLed o) (asr (isByt a1) (asr (vp_in (ν.1 o 5) 8) (bnd (g_X9_takeName ν (o + (6 + 2 * (cl (ν.1 o 5)))) a1 a2 a3) (fun q4 => bnd (some (uI q4 (o + (6 + 2 * (cl (ν.1 o 5)))) 2 a4)) (fun μ6 => bnd (some (uP μ6 (o + (6 + 2 * (cl (ν.1 o 5)))) 3 (0 : Int64))) (fun μ8 => bnd (some (uI μ8 o 5 ((μ8.1 o 5) + (1 : Int32)))) (fun μ10 => some (μ8.1 o 5, μ10))))))))
set_option maxRecDepth 20000 in
set_option maxHeartbeats 4000000 in
theorem k_X5_newShip (l : Launch) (D : va_G) (cA : Nat → ClassId) (s0 : State) (z : Nat) (b : Nat) (ν : Mm) (sz : Nat) (hG : xG l D cA s0) (o : Nat) (a1 : Nat) (a2 : Int32) (a3 : Int32) (a4 : Int32) (r : Int32 × Mm) (hF : g_X5_newShip ν o a1 a2 a3 a4 = some r) : Met l yX5_newShip (wsG yX5_newShip cX5_newShip 6 (some (FieldType.int))) { frames := 2, cells := 0, slots := 0, locals := 45 } (xP D cA s0 [.ref (b + o), .ref (b + a1), .int a2, .int a3, .int a4] (fun H => H.size = sz ∧ WC D cA s0 z b ν H)) (xQm (some (.int r.1)) (fun H => WC D cA s0 z b r.2 H) (xA b 2628 sz)) 0 0 (xA b 2628 sz) := by
  refine x_start (own := RX5) [(0, .ref (b + o)), (1, .ref (b + a1)), (2, .int a2), (3, .int a3), (4, .int a4)] rfl rfl (by decide) (nb rfl) ?_
  intro p e s m args below meth c C hw
  obtain ⟨hsz, hw⟩ := hw
  subst hsz
  have hS : va_S (xA b 2628 s.heap.size) s.heap s.heap [] := va_S.rf
  obtain ⟨hpo, hF⟩ := asr_e hF
  obtain ⟨hpa1, hF⟩ := asr_e hF
  refine x_aload_n C dX5_newShip_0 rfl ?_
  refine x_get (.ref (b + (o + 1))) C fl_X5_11 (C_Led hpo hw) rfl dX5_newShip_1 ?_
  refine x_aload_n C dX5_newShip_4 rfl ?_
  refine x_get (.int (ν.1 o 5)) C fl_X5_46 (C_Led hpo hw) rfl dX5_newShip_5 ?_
  obtain ⟨h1, hF⟩ := asr_e hF
  obtain ⟨hn2, hl3⟩ := vpn h1 (by decide)
  refine x_aald 3 C (C_ships hpo hw) rfl hn2 hl3 (by decide) rfl dX5_newShip_8 ?_
  refine x_astore [(5, .ref (b + (o + (6 + 2 * (cl (ν.1 o 5)))))), (0, .ref (b + o)), (1, .ref (b + a1)), (2, .int a2), (3, .int a3), (4, .int a4)] C dX5_newShip_9 (by decide) rfl ?_
  refine x_aload C dX5_newShip_11 rfl ?_
  refine x_aload_n C dX5_newShip_13 rfl ?_
  refine x_iload_n C dX5_newShip_14 rfl ?_
  refine x_iload_n C dX5_newShip_15 rfl ?_
  obtain ⟨q4, hq5, hF⟩ := bnd_e hF
  refine x_goM (fun ls h => x_runV (As := [.ref (b + a1), .int a2, .int a3]) [] h C ml_X5_88 (k_X9_takeName l D cA s0 z b ν _ hG (o + (6 + 2 * (cl (ν.1 o 5)))) a1 a2 a3 q4 hq5) ⟨rfl, rfl, nb rfl, nb rfl⟩ rfl (C_Ship (mk_Ship hpo hl3) hw) rfl ⟨rfl, hw⟩ (nb rfl) ⟨Nat.zero_le _, Nat.zero_le _⟩ dX5_newShip_16) hS (xA_le hS) (fun H locs hw hz hk hS => ?_)
  have hw : WC D cA s0 z b q4 H := hw
  refine x_aload C dX5_newShip_19 rfl ?_
  refine x_iload C dX5_newShip_21 rfl ?_
  refine y_putI (kk0 := 2) (o + (6 + 2 * (cl (ν.1 o 5)))) C fl_X5_92 hw (l2 (lt_Ship (mk_Ship hpo hl3))) (fun nm => S_Ship (mk_Ship hpo hl3)) (fun nm => S_Ship (mk_Ship hpo hl3)) rfl rfl (fun _ => nb rfl) dX5_newShip_23 hS (xA_in (l2 (lt_Ship (mk_Ship hpo hl3)))) (fun H locs hw hS => ?_)
  obtain ⟨μ6, hm7, hF⟩ := bnd_e hF
  have hw : WC D cA s0 z b μ6 H := rv_m (W := fun m => WC D cA s0 z b m _) hm7 hw
  refine x_aload C dX5_newShip_26 rfl ?_
  refine x_lconst (0 : Int64) C dX5_newShip_28 rfl ?_
  refine y_putP (kk0 := 3) (o + (6 + 2 * (cl (ν.1 o 5)))) C fl_X5_95 hw (l2 (lt_Ship (mk_Ship hpo hl3))) (fun nm => S_Ship (mk_Ship hpo hl3)) (fun nm => S_Ship (mk_Ship hpo hl3)) rfl rfl (fun _ => nb rfl) dX5_newShip_29 hS (xA_in (l2 (lt_Ship (mk_Ship hpo hl3)))) (fun H locs hw hS => ?_)
  obtain ⟨μ8, hm9, hF⟩ := bnd_e hF
  have hw : WC D cA s0 z b μ8 H := rv_m (W := fun m => WC D cA s0 z b m _) hm9 hw
  refine x_aload_n C dX5_newShip_32 rfl ?_
  refine x_dup C dX5_newShip_33 rfl ?_
  refine x_get (.int (μ8.1 o 5)) C fl_X5_46 (C_Led hpo hw) rfl dX5_newShip_34 ?_
  refine x_dup_x1 C dX5_newShip_37 rfl rfl ?_
  refine x_iconst (1 : Int32) C dX5_newShip_38 rfl ?_
  refine x_iadd C dX5_newShip_39 ?_
  refine y_putI (kk0 := 5) o C fl_X5_46 hw (l4 hpo) (fun nm => S_Led hpo) (fun nm => S_Led hpo) rfl rfl (fun _ => nb rfl) dX5_newShip_40 hS (xA_in (l4 hpo)) (fun H locs hw hS => ?_)
  obtain ⟨μ10, hm11, hF⟩ := bnd_e hF
  have hw : WC D cA s0 z b μ10 H := rv_m (W := fun m => WC D cA s0 z b m _) hm11 hw
  exact x_iretM2 C rfl dX5_newShip_43  (rm_i hF) (rm_m (W := fun m => WC D cA s0 z b m _) hF hw) hS (nb rfl) (nb rfl)
noncomputable def g_X5_newCall (ν : Mm) (o : Nat) (a1 : Int32) (a2 : Int32) (a3 : Int32) (a4 : Int32) : Option (Int32 × Mm) := asr (isLed o) (asr (vp_in (ν.1 o 6) 40) (bnd (some (uI ν (o + (22 + (cl (ν.1 o 6)))) 0 a1)) (fun μ4 => bnd (some (uI μ4 (o + (22 + (cl (ν.1 o 6)))) 1 a2)) (fun μ6 => bnd (some (uI μ6 (o + (22 + (cl (ν.1 o 6)))) 2 a3)) (fun μ8 => bnd (some (uI μ8 (o + (22 + (cl (ν.1 o 6)))) 3 a4)) (fun μ10 => bnd (some (uI μ10 (o + (22 + (cl (ν.1 o 6)))) 4 (0 : Int32))) (fun μ12 => bnd (some (uI μ12 (o + (22 + (cl (ν.1 o 6)))) 5 (0 : Int32))) (fun μ14 => bnd (some (uI μ14 (o + (22 + (cl (ν.1 o 6)))) 6 (0 : Int32))) (fun μ16 => bnd (some (uI μ16 o 6 ((μ16.1 o 6) + (1 : Int32)))) (fun μ18 => some (μ16.1 o 6, μ18)))))))))))
set_option maxRecDepth 20000 in
set_option maxHeartbeats 4000000 in
theorem k_X5_newCall (l : Launch) (D : va_G) (cA : Nat → ClassId) (s0 : State) (z : Nat) (b : Nat) (ν : Mm) (sz : Nat) (hG : xG l D cA s0) (o : Nat) (a1 : Int32) (a2 : Int32) (a3 : Int32) (a4 : Int32) (r : Int32 × Mm) (hF : g_X5_newCall ν o a1 a2 a3 a4 = some r) : Met l yX5_newCall (wsG yX5_newCall cX5_newCall 6 (some (FieldType.int))) { frames := 0, cells := 0, slots := 0, locals := 0 } (xP D cA s0 [.ref (b + o), .int a1, .int a2, .int a3, .int a4] (fun H => H.size = sz ∧ WC D cA s0 z b ν H)) (xQm (some (.int r.1)) (fun H => WC D cA s0 z b r.2 H) (xA b 2628 sz)) 0 0 (xA b 2628 sz) := by
  refine x_start (own := RX5) [(0, .ref (b + o)), (1, .int a1), (2, .int a2), (3, .int a3), (4, .int a4)] rfl rfl (by decide) (nb rfl) ?_
  intro p e s m args below meth c C hw
  obtain ⟨hsz, hw⟩ := hw
  subst hsz
  have hS : va_S (xA b 2628 s.heap.size) s.heap s.heap [] := va_S.rf
  obtain ⟨hpo, hF⟩ := asr_e hF
  refine x_aload_n C dX5_newCall_0 rfl ?_
  refine x_get (.ref (b + (o + 2))) C fl_X5_19 (C_Led hpo hw) rfl dX5_newCall_1 ?_
  refine x_aload_n C dX5_newCall_4 rfl ?_
  refine x_get (.int (ν.1 o 6)) C fl_X5_50 (C_Led hpo hw) rfl dX5_newCall_5 ?_
  obtain ⟨h1, hF⟩ := asr_e hF
  obtain ⟨hn2, hl3⟩ := vpn h1 (by decide)
  refine x_aald 4 C (C_calls hpo hw) rfl hn2 hl3 (by decide) rfl dX5_newCall_8 ?_
  refine x_astore [(5, .ref (b + (o + (22 + (cl (ν.1 o 6)))))), (0, .ref (b + o)), (1, .int a1), (2, .int a2), (3, .int a3), (4, .int a4)] C dX5_newCall_9 (by decide) rfl ?_
  refine x_aload C dX5_newCall_11 rfl ?_
  refine x_iload_n C dX5_newCall_13 rfl ?_
  refine y_putI (kk0 := 0) (o + (22 + (cl (ν.1 o 6)))) C fl_X5_99 hw (l2 (lt_Cal (mk_Cal hpo hl3))) (fun nm => S_Cal (mk_Cal hpo hl3)) (fun nm => S_Cal (mk_Cal hpo hl3)) rfl rfl (fun _ => nb rfl) dX5_newCall_14 hS (xA_in (l2 (lt_Cal (mk_Cal hpo hl3)))) (fun H locs hw hS => ?_)
  obtain ⟨μ4, hm5, hF⟩ := bnd_e hF
  have hw : WC D cA s0 z b μ4 H := rv_m (W := fun m => WC D cA s0 z b m _) hm5 hw
  refine x_aload C dX5_newCall_17 rfl ?_
  refine x_iload_n C dX5_newCall_19 rfl ?_
  refine y_putI (kk0 := 1) (o + (22 + (cl (ν.1 o 6)))) C fl_X5_102 hw (l2 (lt_Cal (mk_Cal hpo hl3))) (fun nm => S_Cal (mk_Cal hpo hl3)) (fun nm => S_Cal (mk_Cal hpo hl3)) rfl rfl (fun _ => nb rfl) dX5_newCall_20 hS (xA_in (l2 (lt_Cal (mk_Cal hpo hl3)))) (fun H locs hw hS => ?_)
  obtain ⟨μ6, hm7, hF⟩ := bnd_e hF
  have hw : WC D cA s0 z b μ6 H := rv_m (W := fun m => WC D cA s0 z b m _) hm7 hw
  refine x_aload C dX5_newCall_23 rfl ?_
  refine x_iload_n C dX5_newCall_25 rfl ?_
  refine y_putI (kk0 := 2) (o + (22 + (cl (ν.1 o 6)))) C fl_X5_105 hw (l2 (lt_Cal (mk_Cal hpo hl3))) (fun nm => S_Cal (mk_Cal hpo hl3)) (fun nm => S_Cal (mk_Cal hpo hl3)) rfl rfl (fun _ => nb rfl) dX5_newCall_26 hS (xA_in (l2 (lt_Cal (mk_Cal hpo hl3)))) (fun H locs hw hS => ?_)
  obtain ⟨μ8, hm9, hF⟩ := bnd_e hF
  have hw : WC D cA s0 z b μ8 H := rv_m (W := fun m => WC D cA s0 z b m _) hm9 hw
  refine x_aload C dX5_newCall_29 rfl ?_
  refine x_iload C dX5_newCall_31 rfl ?_
  refine y_putI (kk0 := 3) (o + (22 + (cl (ν.1 o 6)))) C fl_X5_108 hw (l2 (lt_Cal (mk_Cal hpo hl3))) (fun nm => S_Cal (mk_Cal hpo hl3)) (fun nm => S_Cal (mk_Cal hpo hl3)) rfl rfl (fun _ => nb rfl) dX5_newCall_33 hS (xA_in (l2 (lt_Cal (mk_Cal hpo hl3)))) (fun H locs hw hS => ?_)
  obtain ⟨μ10, hm11, hF⟩ := bnd_e hF
  have hw : WC D cA s0 z b μ10 H := rv_m (W := fun m => WC D cA s0 z b m _) hm11 hw
  refine x_aload C dX5_newCall_36 rfl ?_
  refine x_iconst (0 : Int32) C dX5_newCall_38 rfl ?_
  refine y_putZ (kk0 := 4) (o + (22 + (cl (ν.1 o 6)))) C fl_X5_111 hw (l2 (lt_Cal (mk_Cal hpo hl3))) (fun nm => S_Cal (mk_Cal hpo hl3)) (fun nm => S_Cal (mk_Cal hpo hl3)) rfl rfl rfl (fun _ => nb rfl) dX5_newCall_39 hS (xA_in (l2 (lt_Cal (mk_Cal hpo hl3)))) (fun H locs hw hS => ?_)
  obtain ⟨μ12, hm13, hF⟩ := bnd_e hF
  have hw : WC D cA s0 z b μ12 H := rv_m (W := fun m => WC D cA s0 z b m _) hm13 hw
  refine x_aload C dX5_newCall_42 rfl ?_
  refine x_iconst (0 : Int32) C dX5_newCall_44 rfl ?_
  refine y_putI (kk0 := 5) (o + (22 + (cl (ν.1 o 6)))) C fl_X5_115 hw (l2 (lt_Cal (mk_Cal hpo hl3))) (fun nm => S_Cal (mk_Cal hpo hl3)) (fun nm => S_Cal (mk_Cal hpo hl3)) rfl rfl (fun _ => nb rfl) dX5_newCall_45 hS (xA_in (l2 (lt_Cal (mk_Cal hpo hl3)))) (fun H locs hw hS => ?_)
  obtain ⟨μ14, hm15, hF⟩ := bnd_e hF
  have hw : WC D cA s0 z b μ14 H := rv_m (W := fun m => WC D cA s0 z b m _) hm15 hw
  refine x_aload C dX5_newCall_48 rfl ?_
  refine x_iconst (0 : Int32) C dX5_newCall_50 rfl ?_
  refine y_putI (kk0 := 6) (o + (22 + (cl (ν.1 o 6)))) C fl_X5_118 hw (l2 (lt_Cal (mk_Cal hpo hl3))) (fun nm => S_Cal (mk_Cal hpo hl3)) (fun nm => S_Cal (mk_Cal hpo hl3)) rfl rfl (fun _ => nb rfl) dX5_newCall_51 hS (xA_in (l2 (lt_Cal (mk_Cal hpo hl3)))) (fun H locs hw hS => ?_)
  obtain ⟨μ16, hm17, hF⟩ := bnd_e hF
  have hw : WC D cA s0 z b μ16 H := rv_m (W := fun m => WC D cA s0 z b m _) hm17 hw
  refine x_aload_n C dX5_newCall_54 rfl ?_
  refine x_dup C dX5_newCall_55 rfl ?_
  refine x_get (.int (μ16.1 o 6)) C fl_X5_50 (C_Led hpo hw) rfl dX5_newCall_56 ?_
  refine x_dup_x1 C dX5_newCall_59 rfl rfl ?_
  refine x_iconst (1 : Int32) C dX5_newCall_60 rfl ?_
  refine x_iadd C dX5_newCall_61 ?_
  refine y_putI (kk0 := 6) o C fl_X5_50 hw (l4 hpo) (fun nm => S_Led hpo) (fun nm => S_Led hpo) rfl rfl (fun _ => nb rfl) dX5_newCall_62 hS (xA_in (l4 hpo)) (fun H locs hw hS => ?_)
  obtain ⟨μ18, hm19, hF⟩ := bnd_e hF
  have hw : WC D cA s0 z b μ18 H := rv_m (W := fun m => WC D cA s0 z b m _) hm19 hw
  exact x_iretM2 C rfl dX5_newCall_65  (rm_i hF) (rm_m (W := fun m => WC D cA s0 z b m _) hF hw) hS (nb rfl) (nb rfl)
noncomputable def g_X9_isNamed_L15 (ν : Mm) (o : Nat) (a1 : Nat) (a2 : Int32) (a3 : Int32) : Nat → Int32 → Option (Bool)
  | 0, _ => none
  | n + 1, x4 => (if (ν.1 o 1) ≤ x4 then some true else asr (vp_in x4 6) (bnd (g_X1_byteAt ν a1 (a2 + x4)) (fun q6 => (if (vp_nar .byte (ν.1 (o + 1) (cl x4))) = q6 then (g_X9_isNamed_L15 ν o a1 a2 a3 n (x4 + (1 : Int32))) else some false))))
noncomputable def g_X9_isNamed (ν : Mm) (o : Nat) (a1 : Nat) (a2 : Int32) (a3 : Int32) : Option (Bool) := asr (isShip o) (asr (isByt a1) ((if (a3 - a2) = (ν.1 o 1) then (g_X9_isNamed_L15 ν o a1 a2 a3 10000 (0 : Int32)) else some false)))
set_option maxRecDepth 20000 in
set_option maxHeartbeats 4000000 in
theorem k_X9_isNamed (l : Launch) (D : va_G) (cA : Nat → ClassId) (s0 : State) (z : Nat) (b : Nat) (ν : Mm) (hG : xG l D cA s0) (o : Nat) (a1 : Nat) (a2 : Int32) (a3 : Int32) (r : Bool) (hF : g_X9_isNamed ν o a1 a2 a3 = some r) : Met l yX9_isNamed (wsG yX9_isNamed cX9_isNamed 5 (some (FieldType.boolean))) { frames := 1, cells := 0, slots := 0, locals := 21 } (xP D cA s0 [.ref (b + o), .ref (b + a1), .int a2, .int a3] (WC D cA s0 z b ν)) (xQr (some (.int (bI r)))) 0 0 xN := by
  refine x_start (own := RX9) [(0, .ref (b + o)), (1, .ref (b + a1)), (2, .int a2), (3, .int a3)] rfl rfl (by decide) (nb rfl) ?_
  intro p e s m args below meth c C hw
  obtain ⟨hpo, hF⟩ := asr_e hF
  obtain ⟨hpa1, hF⟩ := asr_e hF
  have h_L15 : ∀ (n : Nat) (x4 : Int32), g_X9_isNamed_L15 ν o a1 a2 a3 n x4 = some r → xW p l e { frames := 1, cells := 0, slots := 0, locals := 21 } s m args below meth c 5 (MQ below (xQr (some (.int (bI r)))) args s 0 0 xN) s.heap [] 0 0 15 [(0, .ref (b + o)), (1, .ref (b + a1)), (2, .int a2), (4, .int x4)] [] := by
    intro n
    induction n with
    | zero =>
      intro x4 hF
      exact no_some hF
    | succ n ih =>
      intro x4 hF
      have ih15 := ih
      refine x_iload C dX9_isNamed_15 rfl ?_
      refine x_aload_n C dX9_isNamed_17 rfl ?_
      refine x_get (.int (ν.1 o 1)) C fl_X9_21 (C_Ship hpo hw) rfl dX9_isNamed_18 ?_
      refine x_icmp_ge 50 C dX9_isNamed_21 (by decide) (fun c2 => ?_) (fun c2 => ?_)
      · have hF := ite_t hF c2
        refine x_iconst (1 : Int32) C dX9_isNamed_50 rfl ?_
        exact x_zretR C rfl dX9_isNamed_51 rfl (r_b1 hF)
      · have hF := ite_f hF c2
        refine x_aload_n C dX9_isNamed_24 rfl ?_
        refine x_get (.ref (b + (o + 1))) C fl_X9_9 (C_Ship hpo hw) rfl dX9_isNamed_25 ?_
        refine x_iload C dX9_isNamed_28 rfl ?_
        obtain ⟨h3, hF⟩ := asr_e hF
        obtain ⟨hn4, hl5⟩ := vpn h3 (by decide)
        refine x_baldN C (C_name hpo hw) hn4 hl5 (by decide) dX9_isNamed_30 ?_
        refine x_aload_n C dX9_isNamed_31 rfl ?_
        refine x_iload_n C dX9_isNamed_32 rfl ?_
        refine x_iload C dX9_isNamed_33 rfl ?_
        refine x_iadd C dX9_isNamed_35 ?_
        obtain ⟨q6, hq7, hF⟩ := bnd_e hF
        refine x_goR (fun ls h => x_runV (As := [.int (a2 + x4)]) [.int (vp_nar .byte (ν.1 (o + 1) (cl x4)))] h C ml_X9_38 (k_X1_byteAt l D cA s0 z b ν hG a1 (a2 + x4) q6 hq7) ⟨rfl, rfl, nb rfl, nb rfl⟩ rfl (C_Byt hpa1 hw) rfl hw (nb rfl) ⟨Nat.zero_le _, Nat.zero_le _⟩ dX9_isNamed_36) ?_
        refine x_icmp_eq 44 C dX9_isNamed_39 (by decide) (fun c8 => ?_) (fun c8 => ?_)
        · have hF := ite_t hF c8
          refine x_iinc (x4 + (1 : Int32)) [(4, .int (x4 + (1 : Int32))), (0, .ref (b + o)), (1, .ref (b + a1)), (2, .int a2)] C dX9_isNamed_44 rfl rfl (by decide) rfl ?_
          refine x_goto 15 C dX9_isNamed_47 (by decide) ?_
          refine x_sub [(0, .ref (b + o)), (1, .ref (b + a1)), (2, .int a2), (4, .int (x4 + (1 : Int32)))] [1, 2, 3, 0] rfl ?_
          exact ih15 (x4 + (1 : Int32)) hF
        · have hF := ite_f hF c8
          refine x_iconst (0 : Int32) C dX9_isNamed_42 rfl ?_
          exact x_zretR C rfl dX9_isNamed_43 rfl (r_b0 hF)
  refine x_iload_n C dX9_isNamed_0 rfl ?_
  refine x_iload_n C dX9_isNamed_1 rfl ?_
  refine x_isub C dX9_isNamed_2 ?_
  refine x_aload_n C dX9_isNamed_3 rfl ?_
  refine x_get (.int (ν.1 o 1)) C fl_X9_21 (C_Ship hpo hw) rfl dX9_isNamed_4 ?_
  refine x_icmp_eq 12 C dX9_isNamed_7 (by decide) (fun c1 => ?_) (fun c1 => ?_)
  · have hF := ite_t hF c1
    refine x_iconst (0 : Int32) C dX9_isNamed_12 rfl ?_
    refine x_istore [(4, .int (0 : Int32)), (0, .ref (b + o)), (1, .ref (b + a1)), (2, .int a2), (3, .int a3)] C dX9_isNamed_13 (by decide) rfl ?_
    refine x_sub [(0, .ref (b + o)), (1, .ref (b + a1)), (2, .int a2), (4, .int (0 : Int32))] [1, 2, 3, 0] rfl ?_
    exact h_L15 10000 (0 : Int32) hF
  · have hF := ite_f hF c1
    refine x_iconst (0 : Int32) C dX9_isNamed_10 rfl ?_
    exact x_zretR C rfl dX9_isNamed_11 rfl (r_b0 hF)
noncomputable def g_X5_shipNamed_L3 (ν : Mm) (o : Nat) (a1 : Nat) (a2 : Int32) (a3 : Int32) : Nat → Int32 → Option (Int32)
  | 0, _ => none
  | n + 1, x4 => (if (ν.1 o 5) ≤ x4 then some (-1 : Int32) else asr (vp_in x4 8) (bnd (g_X9_isNamed ν (o + (6 + 2 * (cl x4))) a1 a2 a3) (fun q5 => (if q5 = true then some x4 else (g_X5_shipNamed_L3 ν o a1 a2 a3 n (x4 + (1 : Int32)))))))
noncomputable def g_X5_shipNamed (ν : Mm) (o : Nat) (a1 : Nat) (a2 : Int32) (a3 : Int32) : Option (Int32) := asr (isLed o) (asr (isByt a1) ((g_X5_shipNamed_L3 ν o a1 a2 a3 10000 (0 : Int32))))
set_option maxRecDepth 20000 in
set_option maxHeartbeats 4000000 in
theorem k_X5_shipNamed (l : Launch) (D : va_G) (cA : Nat → ClassId) (s0 : State) (z : Nat) (b : Nat) (ν : Mm) (hG : xG l D cA s0) (o : Nat) (a1 : Nat) (a2 : Int32) (a3 : Int32) (r : Int32) (hF : g_X5_shipNamed ν o a1 a2 a3 = some r) : Met l yX5_shipNamed (wsG yX5_shipNamed cX5_shipNamed 5 (some (FieldType.int))) { frames := 2, cells := 0, slots := 0, locals := 45 } (xP D cA s0 [.ref (b + o), .ref (b + a1), .int a2, .int a3] (WC D cA s0 z b ν)) (xQr (some (.int r))) 0 0 xN := by
  refine x_start (own := RX5) [(0, .ref (b + o)), (1, .ref (b + a1)), (2, .int a2), (3, .int a3)] rfl rfl (by decide) (nb rfl) ?_
  intro p e s m args below meth c C hw
  obtain ⟨hpo, hF⟩ := asr_e hF
  obtain ⟨hpa1, hF⟩ := asr_e hF
  have h_L3 : ∀ (n : Nat) (x4 : Int32), g_X5_shipNamed_L3 ν o a1 a2 a3 n x4 = some r → xW p l e { frames := 2, cells := 0, slots := 0, locals := 45 } s m args below meth c 5 (MQ below (xQr (some (.int r))) args s 0 0 xN) s.heap [] 0 0 3 [(0, .ref (b + o)), (1, .ref (b + a1)), (2, .int a2), (3, .int a3), (4, .int x4)] [] := by
    intro n
    induction n with
    | zero =>
      intro x4 hF
      exact no_some hF
    | succ n ih =>
      intro x4 hF
      have ih3 := ih
      refine x_iload C dX5_shipNamed_3 rfl ?_
      refine x_aload_n C dX5_shipNamed_5 rfl ?_
      refine x_get (.int (ν.1 o 5)) C fl_X5_46 (C_Led hpo hw) rfl dX5_shipNamed_6 ?_
      refine x_icmp_ge 37 C dX5_shipNamed_9 (by decide) (fun c1 => ?_) (fun c1 => ?_)
      · have hF := ite_t hF c1
        refine x_iconst (-1 : Int32) C dX5_shipNamed_37 rfl ?_
        exact x_iretR C rfl dX5_shipNamed_38  (r_i hF)
      · have hF := ite_f hF c1
        refine x_aload_n C dX5_shipNamed_12 rfl ?_
        refine x_get (.ref (b + (o + 1))) C fl_X5_11 (C_Led hpo hw) rfl dX5_shipNamed_13 ?_
        refine x_iload C dX5_shipNamed_16 rfl ?_
        obtain ⟨h2, hF⟩ := asr_e hF
        obtain ⟨hn3, hl4⟩ := vpn h2 (by decide)
        refine x_aald 3 C (C_ships hpo hw) rfl hn3 hl4 (by decide) rfl dX5_shipNamed_18 ?_
        refine x_aload_n C dX5_shipNamed_19 rfl ?_
        refine x_iload_n C dX5_shipNamed_20 rfl ?_
        refine x_iload_n C dX5_shipNamed_21 rfl ?_
        obtain ⟨q5, hq6, hF⟩ := bnd_e hF
        refine x_goR (fun ls h => x_runV (As := [.ref (b + a1), .int a2, .int a3]) [] h C ml_X5_121 (k_X9_isNamed l D cA s0 z b ν hG (o + (6 + 2 * (cl x4))) a1 a2 a3 q5 hq6) ⟨rfl, rfl, nb rfl, nb rfl⟩ rfl (C_Ship (mk_Ship hpo hl4) hw) rfl hw (nb rfl) ⟨Nat.zero_le _, Nat.zero_le _⟩ dX5_shipNamed_22) ?_
        refine x_ifB_eq 31 C dX5_shipNamed_25 (by decide) (fun c7 => ?_) (fun c7 => ?_)
        · have hF := ite_f hF (nbt c7)
          refine x_iinc (x4 + (1 : Int32)) [(4, .int (x4 + (1 : Int32))), (0, .ref (b + o)), (1, .ref (b + a1)), (2, .int a2), (3, .int a3)] C dX5_shipNamed_31 rfl rfl (by decide) rfl ?_
          refine x_goto 3 C dX5_shipNamed_34 (by decide) ?_
          refine x_sub [(0, .ref (b + o)), (1, .ref (b + a1)), (2, .int a2), (3, .int a3), (4, .int (x4 + (1 : Int32)))] [1, 2, 3, 4, 0] rfl ?_
          exact ih3 (x4 + (1 : Int32)) hF
        · have hF := ite_t hF c7
          refine x_iload C dX5_shipNamed_28 rfl ?_
          exact x_iretR C rfl dX5_shipNamed_30  (r_i hF)
  refine x_iconst (0 : Int32) C dX5_shipNamed_0 rfl ?_
  refine x_istore [(4, .int (0 : Int32)), (0, .ref (b + o)), (1, .ref (b + a1)), (2, .int a2), (3, .int a3)] C dX5_shipNamed_1 (by decide) rfl ?_
  refine x_sub [(0, .ref (b + o)), (1, .ref (b + a1)), (2, .int a2), (3, .int a3), (4, .int (0 : Int32))] [1, 2, 3, 4, 0] rfl ?_
  exact h_L3 10000 (0 : Int32) hF
noncomputable def g_X5_pendingDays_L4 (ν : Mm) (o : Nat) : Nat → Int32 → Int32 → Option (Int32)
  | 0, _, _ => none
  | n + 1, x1, x2 => (if (ν.1 o 6) ≤ x2 then some x1 else asr (vp_in x2 40) (bnd (g_J6_bitCount_0f7a4 (ν.1 (o + (22 + (cl x2))) 5)) (fun q5 => (g_X5_pendingDays_L4 ν o n (x1 + q5) (x2 + (1 : Int32))))))
noncomputable def g_X5_pendingDays (ν : Mm) (o : Nat) : Option (Int32) := asr (isLed o) ((g_X5_pendingDays_L4 ν o 10000 (0 : Int32) (0 : Int32)))
set_option maxRecDepth 20000 in
set_option maxHeartbeats 4000000 in
theorem k_X5_pendingDays (l : Launch) (D : va_G) (cA : Nat → ClassId) (s0 : State) (z : Nat) (b : Nat) (ν : Mm) (hG : xG l D cA s0) (o : Nat) (r : Int32) (hF : g_X5_pendingDays ν o = some r) : Met l yX5_pendingDays (wsG yX5_pendingDays cX5_pendingDays 3 (some (FieldType.int))) { frames := 1, cells := 0, slots := 0, locals := 20 } (xP D cA s0 [.ref (b + o)] (WC D cA s0 z b ν)) (xQr (some (.int r))) 0 0 xN := by
  refine x_start (own := RX5) [(0, .ref (b + o))] rfl rfl (by decide) (nb rfl) ?_
  intro p e s m args below meth c C hw
  obtain ⟨hpo, hF⟩ := asr_e hF
  have h_L4 : ∀ (n : Nat) (x1 : Int32) (x2 : Int32), g_X5_pendingDays_L4 ν o n x1 x2 = some r → xW p l e { frames := 1, cells := 0, slots := 0, locals := 20 } s m args below meth c 3 (MQ below (xQr (some (.int r))) args s 0 0 xN) s.heap [] 0 0 4 [(0, .ref (b + o)), (1, .int x1), (2, .int x2)] [] := by
    intro n
    induction n with
    | zero =>
      intro x1 x2 hF
      exact no_some hF
    | succ n ih =>
      intro x1 x2 hF
      have ih4 := ih
      refine x_iload_n C dX5_pendingDays_4 rfl ?_
      refine x_aload_n C dX5_pendingDays_5 rfl ?_
      refine x_get (.int (ν.1 o 6)) C fl_X5_50 (C_Led hpo hw) rfl dX5_pendingDays_6 ?_
      refine x_icmp_ge 33 C dX5_pendingDays_9 (by decide) (fun c1 => ?_) (fun c1 => ?_)
      · have hF := ite_t hF c1
        refine x_iload_n C dX5_pendingDays_33 rfl ?_
        exact x_iretR C rfl dX5_pendingDays_34  (r_i hF)
      · have hF := ite_f hF c1
        refine x_iload_n C dX5_pendingDays_12 rfl ?_
        refine x_aload_n C dX5_pendingDays_13 rfl ?_
        refine x_get (.ref (b + (o + 2))) C fl_X5_19 (C_Led hpo hw) rfl dX5_pendingDays_14 ?_
        refine x_iload_n C dX5_pendingDays_17 rfl ?_
        obtain ⟨h2, hF⟩ := asr_e hF
        obtain ⟨hn3, hl4⟩ := vpn h2 (by decide)
        refine x_aald 4 C (C_calls hpo hw) rfl hn3 hl4 (by decide) rfl dX5_pendingDays_18 ?_
        refine x_get (.int (ν.1 (o + (22 + (cl x2))) 5)) C fl_X5_115 (C_Cal (mk_Cal hpo hl4) hw) rfl dX5_pendingDays_19 ?_
        obtain ⟨q5, hq6, hF⟩ := bnd_e hF
        refine x_goR (fun ls h => x_runS (As := [.int (ν.1 (o + (22 + (cl x2))) 5)]) [.int x1] h C ml_X5_125 (k_J6_bitCount_0f7a4 l D cA s0 z hG (ν.1 (o + (22 + (cl x2))) 5) q5 hq6) ⟨rfl, rfl, nb rfl, nb rfl⟩ rfl trivial (nb rfl) ⟨Nat.zero_le _, Nat.zero_le _⟩ dX5_pendingDays_22) ?_
        refine x_iadd C dX5_pendingDays_25 ?_
        refine x_istore_n [(1, .int (x1 + q5)), (0, .ref (b + o)), (2, .int x2)] C dX5_pendingDays_26 rfl (by decide) rfl ?_
        refine x_iinc (x2 + (1 : Int32)) [(2, .int (x2 + (1 : Int32))), (1, .int (x1 + q5)), (0, .ref (b + o))] C dX5_pendingDays_27 rfl rfl (by decide) rfl ?_
        refine x_goto 4 C dX5_pendingDays_30 (by decide) ?_
        refine x_sub [(0, .ref (b + o)), (1, .int (x1 + q5)), (2, .int (x2 + (1 : Int32)))] [2, 1, 0] rfl ?_
        exact ih4 (x1 + q5) (x2 + (1 : Int32)) hF
  refine x_iconst (0 : Int32) C dX5_pendingDays_0 rfl ?_
  refine x_istore_n [(1, .int (0 : Int32)), (0, .ref (b + o))] C dX5_pendingDays_1 rfl (by decide) rfl ?_
  refine x_iconst (0 : Int32) C dX5_pendingDays_2 rfl ?_
  refine x_istore_n [(2, .int (0 : Int32)), (1, .int (0 : Int32)), (0, .ref (b + o))] C dX5_pendingDays_3 rfl (by decide) rfl ?_
  refine x_sub [(0, .ref (b + o)), (1, .int (0 : Int32)), (2, .int (0 : Int32))] [2, 1, 0] rfl ?_
  exact h_L4 10000 (0 : Int32) (0 : Int32) hF
