noncomputable def g_X7_tokenIsName (ν : Mm) : Option (Bool) := (if (ν.1 661 2) = (1 : Int32) then (if ((ν.1 661 4) - (ν.1 661 3)) ≤ (6 : Int32) then bnd (g_X7_tokenIs ν 126879296744563) (fun q5 => (if q5 = true then some false else bnd (g_X7_tokenIs ν 1650551923) (fun q10 => (if q10 = true then some false else bnd (g_X7_tokenIs ν 1684955490) (fun q15 => (if q15 = true then some false else bnd (g_X7_tokenIs ν 1702125938) (fun q20 => (if q20 = true then some false else bnd (g_X7_tokenIs ν 111550524450162) (fun q25 => (if q25 = true then some false else bnd (g_X7_tokenIs ν 32772479037629808) (fun q30 => (if q30 = true then some false else bnd (g_X7_tokenIs ν 435745415543) (fun q35 => (if q35 = true then some false else bnd (g_X7_tokenIs ν 431199119718) (fun q40 => (if q40 = true then some false else bnd (g_X7_tokenIs ν 1701147238) (fun q45 => (if q45 = true then some false else bnd (g_X7_tokenIs ν 435459551856) (fun q50 => (if q50 = true then some false else bnd (g_X7_tokenIs ν 7954796) (fun q55 => (if q55 = true then some false else bnd (g_X7_tokenIs ν 1885956211) (fun q60 => (if q60 = true then some false else bnd (g_X7_tokenIs ν 1936617332) (fun q65 => (if q65 = true then some false else bnd (g_X7_tokenIs ν 1819042147) (fun q70 => (if q70 = true then some false else bnd (g_X7_tokenIs ν 28532) (fun q75 => (if q75 = true then some false else some true)))))))))))))))))))))))))))))) else some false) else some false)
set_option maxRecDepth 20000 in
set_option maxHeartbeats 4000000 in
theorem k_X7_tokenIsName (l : Launch) (D : va_G) (cA : Nat → ClassId) (s0 : State) (z : Nat) (b : Nat) (ν : Mm) (hG : xG l D cA s0) (r : Bool) (hF : g_X7_tokenIsName ν = some r) : Met l yX7_tokenIsName (wsG yX7_tokenIsName cX7_tokenIsName 2 (some (FieldType.boolean))) { frames := 6, cells := 0, slots := 0, locals := 130 } (xP D cA s0 [.ref (b + 661)] (WC D cA s0 z b ν)) (xQr (some (.int (bI r)))) 0 0 xN := by
  refine x_start (own := RX7) [(0, .ref (b + 661))] rfl rfl (by decide) (nb rfl) ?_
  intro p e s m args below meth c C hw
  refine x_aload_n C dX7_tokenIsName_0 rfl ?_
  refine x_get (.int (ν.1 661 2)) C fl_X7_47 (C_Par hw) rfl dX7_tokenIsName_1 ?_
  refine x_iconst (1 : Int32) C dX7_tokenIsName_4 rfl ?_
  refine x_icmp_ne 22 C dX7_tokenIsName_5 (by decide) (fun c1 => ?_) (fun c1 => ?_)
  · have hF := ite_f hF c1
    refine x_iconst (0 : Int32) C dX7_tokenIsName_22 rfl ?_
    exact x_zretR C rfl dX7_tokenIsName_23 rfl (r_b0 hF)
  · have hF := ite_t hF c1
    refine x_aload_n C dX7_tokenIsName_8 rfl ?_
    refine x_get (.int (ν.1 661 4)) C fl_X7_41 (C_Par hw) rfl dX7_tokenIsName_9 ?_
    refine x_aload_n C dX7_tokenIsName_12 rfl ?_
    refine x_get (.int (ν.1 661 3)) C fl_X7_173 (C_Par hw) rfl dX7_tokenIsName_13 ?_
    refine x_isub C dX7_tokenIsName_16 ?_
    refine x_bipush (6 : Int32) C dX7_tokenIsName_17 rfl ?_
    refine x_icmp_le 24 C dX7_tokenIsName_19 (by decide) (fun c2 => ?_) (fun c2 => ?_)
    · have hF := ite_t hF c2
      refine x_aload_n C dX7_tokenIsName_24 rfl ?_
      refine x_ldcS (z := z) 126879296744563 C hG.2.2.2 xl_X7_62 hw.2.2.2.1 dX7_tokenIsName_25 (fun ra3 hst4 => ?_)
      obtain ⟨q5, hq6, hF⟩ := bnd_e hF
      refine x_goR (fun ls h => x_runV (As := [.ref ra3]) [] h C ml_X7_64 (k_X7_tokenIs l D cA s0 z b ν hG ra3 126879296744563 q5 hq6) ⟨rfl, rfl, nb rfl, nb rfl⟩ rfl (C_Par hw) rfl ⟨hw, hst4⟩ (nb rfl) ⟨Nat.zero_le _, Nat.zero_le _⟩ dX7_tokenIsName_27) ?_
      refine x_ifB_ne 159 C dX7_tokenIsName_30 (by decide) (fun c7 => ?_) (fun c7 => ?_)
      · have hF := ite_t hF c7
        refine x_iconst (1 : Int32) C dX7_tokenIsName_159 rfl ?_
        refine x_goto 164 C dX7_tokenIsName_160 (by decide) ?_
        refine x_istore_n [(1, .int (1 : Int32)), (0, .ref (b + 661))] C dX7_tokenIsName_164 rfl (by decide) rfl ?_
        refine x_iload_n C dX7_tokenIsName_165 rfl ?_
        refine x_if_ne 173 C dX7_tokenIsName_166 (by decide) (fun _ => ?_) (fun z => absurd z (by decide))
        refine x_iconst (0 : Int32) C dX7_tokenIsName_173 rfl ?_
        exact x_zretR C rfl dX7_tokenIsName_174 rfl (r_b0 hF)
      · have hF := ite_f hF (nbt c7)
        refine x_aload_n C dX7_tokenIsName_33 rfl ?_
        refine x_ldcS (z := z) 1650551923 C hG.2.2.2 xl_X7_72 hw.2.2.2.1 dX7_tokenIsName_34 (fun ra8 hst9 => ?_)
        obtain ⟨q10, hq11, hF⟩ := bnd_e hF
        refine x_goR (fun ls h => x_runV (As := [.ref ra8]) [] h C ml_X7_64 (k_X7_tokenIs l D cA s0 z b ν hG ra8 1650551923 q10 hq11) ⟨rfl, rfl, nb rfl, nb rfl⟩ rfl (C_Par hw) rfl ⟨hw, hst9⟩ (nb rfl) ⟨Nat.zero_le _, Nat.zero_le _⟩ dX7_tokenIsName_36) ?_
        refine x_ifB_ne 159 C dX7_tokenIsName_39 (by decide) (fun c12 => ?_) (fun c12 => ?_)
        · have hF := ite_t hF c12
          refine x_iconst (1 : Int32) C dX7_tokenIsName_159 rfl ?_
          refine x_goto 164 C dX7_tokenIsName_160 (by decide) ?_
          refine x_istore_n [(1, .int (1 : Int32)), (0, .ref (b + 661))] C dX7_tokenIsName_164 rfl (by decide) rfl ?_
          refine x_iload_n C dX7_tokenIsName_165 rfl ?_
          refine x_if_ne 173 C dX7_tokenIsName_166 (by decide) (fun _ => ?_) (fun z => absurd z (by decide))
          refine x_iconst (0 : Int32) C dX7_tokenIsName_173 rfl ?_
          exact x_zretR C rfl dX7_tokenIsName_174 rfl (r_b0 hF)
        · have hF := ite_f hF (nbt c12)
          refine x_aload_n C dX7_tokenIsName_42 rfl ?_
          refine x_ldcS (z := z) 1684955490 C hG.2.2.2 xl_X7_74 hw.2.2.2.1 dX7_tokenIsName_43 (fun ra13 hst14 => ?_)
          obtain ⟨q15, hq16, hF⟩ := bnd_e hF
          refine x_goR (fun ls h => x_runV (As := [.ref ra13]) [] h C ml_X7_64 (k_X7_tokenIs l D cA s0 z b ν hG ra13 1684955490 q15 hq16) ⟨rfl, rfl, nb rfl, nb rfl⟩ rfl (C_Par hw) rfl ⟨hw, hst14⟩ (nb rfl) ⟨Nat.zero_le _, Nat.zero_le _⟩ dX7_tokenIsName_45) ?_
          refine x_ifB_ne 159 C dX7_tokenIsName_48 (by decide) (fun c17 => ?_) (fun c17 => ?_)
          · have hF := ite_t hF c17
            refine x_iconst (1 : Int32) C dX7_tokenIsName_159 rfl ?_
            refine x_goto 164 C dX7_tokenIsName_160 (by decide) ?_
            refine x_istore_n [(1, .int (1 : Int32)), (0, .ref (b + 661))] C dX7_tokenIsName_164 rfl (by decide) rfl ?_
            refine x_iload_n C dX7_tokenIsName_165 rfl ?_
            refine x_if_ne 173 C dX7_tokenIsName_166 (by decide) (fun _ => ?_) (fun z => absurd z (by decide))
            refine x_iconst (0 : Int32) C dX7_tokenIsName_173 rfl ?_
            exact x_zretR C rfl dX7_tokenIsName_174 rfl (r_b0 hF)
          · have hF := ite_f hF (nbt c17)
            refine x_aload_n C dX7_tokenIsName_51 rfl ?_
            refine x_ldcS (z := z) 1702125938 C hG.2.2.2 xl_X7_127 hw.2.2.2.1 dX7_tokenIsName_52 (fun ra18 hst19 => ?_)
            obtain ⟨q20, hq21, hF⟩ := bnd_e hF
            refine x_goR (fun ls h => x_runV (As := [.ref ra18]) [] h C ml_X7_64 (k_X7_tokenIs l D cA s0 z b ν hG ra18 1702125938 q20 hq21) ⟨rfl, rfl, nb rfl, nb rfl⟩ rfl (C_Par hw) rfl ⟨hw, hst19⟩ (nb rfl) ⟨Nat.zero_le _, Nat.zero_le _⟩ dX7_tokenIsName_54) ?_
            refine x_ifB_ne 159 C dX7_tokenIsName_57 (by decide) (fun c22 => ?_) (fun c22 => ?_)
            · have hF := ite_t hF c22
              refine x_iconst (1 : Int32) C dX7_tokenIsName_159 rfl ?_
              refine x_goto 164 C dX7_tokenIsName_160 (by decide) ?_
              refine x_istore_n [(1, .int (1 : Int32)), (0, .ref (b + 661))] C dX7_tokenIsName_164 rfl (by decide) rfl ?_
              refine x_iload_n C dX7_tokenIsName_165 rfl ?_
              refine x_if_ne 173 C dX7_tokenIsName_166 (by decide) (fun _ => ?_) (fun z => absurd z (by decide))
              refine x_iconst (0 : Int32) C dX7_tokenIsName_173 rfl ?_
              exact x_zretR C rfl dX7_tokenIsName_174 rfl (r_b0 hF)
            · have hF := ite_f hF (nbt c22)
              refine x_aload_n C dX7_tokenIsName_60 rfl ?_
              refine x_ldcS (z := z) 111550524450162 C hG.2.2.2 xl_X7_84 hw.2.2.2.1 dX7_tokenIsName_61 (fun ra23 hst24 => ?_)
              obtain ⟨q25, hq26, hF⟩ := bnd_e hF
              refine x_goR (fun ls h => x_runV (As := [.ref ra23]) [] h C ml_X7_64 (k_X7_tokenIs l D cA s0 z b ν hG ra23 111550524450162 q25 hq26) ⟨rfl, rfl, nb rfl, nb rfl⟩ rfl (C_Par hw) rfl ⟨hw, hst24⟩ (nb rfl) ⟨Nat.zero_le _, Nat.zero_le _⟩ dX7_tokenIsName_63) ?_
              refine x_ifB_ne 159 C dX7_tokenIsName_66 (by decide) (fun c27 => ?_) (fun c27 => ?_)
              · have hF := ite_t hF c27
                refine x_iconst (1 : Int32) C dX7_tokenIsName_159 rfl ?_
                refine x_goto 164 C dX7_tokenIsName_160 (by decide) ?_
                refine x_istore_n [(1, .int (1 : Int32)), (0, .ref (b + 661))] C dX7_tokenIsName_164 rfl (by decide) rfl ?_
                refine x_iload_n C dX7_tokenIsName_165 rfl ?_
                refine x_if_ne 173 C dX7_tokenIsName_166 (by decide) (fun _ => ?_) (fun z => absurd z (by decide))
                refine x_iconst (0 : Int32) C dX7_tokenIsName_173 rfl ?_
                exact x_zretR C rfl dX7_tokenIsName_174 rfl (r_b0 hF)
              · have hF := ite_f hF (nbt c27)
                refine x_aload_n C dX7_tokenIsName_69 rfl ?_
                refine x_ldcS (z := z) 32772479037629808 C hG.2.2.2 xl_X7_141 hw.2.2.2.1 dX7_tokenIsName_70 (fun ra28 hst29 => ?_)
                obtain ⟨q30, hq31, hF⟩ := bnd_e hF
                refine x_goR (fun ls h => x_runV (As := [.ref ra28]) [] h C ml_X7_64 (k_X7_tokenIs l D cA s0 z b ν hG ra28 32772479037629808 q30 hq31) ⟨rfl, rfl, nb rfl, nb rfl⟩ rfl (C_Par hw) rfl ⟨hw, hst29⟩ (nb rfl) ⟨Nat.zero_le _, Nat.zero_le _⟩ dX7_tokenIsName_72) ?_
                refine x_ifB_ne 159 C dX7_tokenIsName_75 (by decide) (fun c32 => ?_) (fun c32 => ?_)
                · have hF := ite_t hF c32
                  refine x_iconst (1 : Int32) C dX7_tokenIsName_159 rfl ?_
                  refine x_goto 164 C dX7_tokenIsName_160 (by decide) ?_
                  refine x_istore_n [(1, .int (1 : Int32)), (0, .ref (b + 661))] C dX7_tokenIsName_164 rfl (by decide) rfl ?_
                  refine x_iload_n C dX7_tokenIsName_165 rfl ?_
                  refine x_if_ne 173 C dX7_tokenIsName_166 (by decide) (fun _ => ?_) (fun z => absurd z (by decide))
                  refine x_iconst (0 : Int32) C dX7_tokenIsName_173 rfl ?_
                  exact x_zretR C rfl dX7_tokenIsName_174 rfl (r_b0 hF)
                · have hF := ite_f hF (nbt c32)
                  refine x_aload_n C dX7_tokenIsName_78 rfl ?_
                  refine x_ldcS (z := z) 435745415543 C hG.2.2.2 xl_X7_89 hw.2.2.2.1 dX7_tokenIsName_79 (fun ra33 hst34 => ?_)
                  obtain ⟨q35, hq36, hF⟩ := bnd_e hF
                  refine x_goR (fun ls h => x_runV (As := [.ref ra33]) [] h C ml_X7_64 (k_X7_tokenIs l D cA s0 z b ν hG ra33 435745415543 q35 hq36) ⟨rfl, rfl, nb rfl, nb rfl⟩ rfl (C_Par hw) rfl ⟨hw, hst34⟩ (nb rfl) ⟨Nat.zero_le _, Nat.zero_le _⟩ dX7_tokenIsName_81) ?_
                  refine x_ifB_ne 159 C dX7_tokenIsName_84 (by decide) (fun c37 => ?_) (fun c37 => ?_)
                  · have hF := ite_t hF c37
                    refine x_iconst (1 : Int32) C dX7_tokenIsName_159 rfl ?_
                    refine x_goto 164 C dX7_tokenIsName_160 (by decide) ?_
                    refine x_istore_n [(1, .int (1 : Int32)), (0, .ref (b + 661))] C dX7_tokenIsName_164 rfl (by decide) rfl ?_
                    refine x_iload_n C dX7_tokenIsName_165 rfl ?_
                    refine x_if_ne 173 C dX7_tokenIsName_166 (by decide) (fun _ => ?_) (fun z => absurd z (by decide))
                    refine x_iconst (0 : Int32) C dX7_tokenIsName_173 rfl ?_
                    exact x_zretR C rfl dX7_tokenIsName_174 rfl (r_b0 hF)
                  · have hF := ite_f hF (nbt c37)
                    refine x_aload_n C dX7_tokenIsName_87 rfl ?_
                    refine x_ldcS (z := z) 431199119718 C hG.2.2.2 xl_X7_146 hw.2.2.2.1 dX7_tokenIsName_88 (fun ra38 hst39 => ?_)
                    obtain ⟨q40, hq41, hF⟩ := bnd_e hF
                    refine x_goR (fun ls h => x_runV (As := [.ref ra38]) [] h C ml_X7_64 (k_X7_tokenIs l D cA s0 z b ν hG ra38 431199119718 q40 hq41) ⟨rfl, rfl, nb rfl, nb rfl⟩ rfl (C_Par hw) rfl ⟨hw, hst39⟩ (nb rfl) ⟨Nat.zero_le _, Nat.zero_le _⟩ dX7_tokenIsName_90) ?_
                    refine x_ifB_ne 159 C dX7_tokenIsName_93 (by decide) (fun c42 => ?_) (fun c42 => ?_)
                    · have hF := ite_t hF c42
                      refine x_iconst (1 : Int32) C dX7_tokenIsName_159 rfl ?_
                      refine x_goto 164 C dX7_tokenIsName_160 (by decide) ?_
                      refine x_istore_n [(1, .int (1 : Int32)), (0, .ref (b + 661))] C dX7_tokenIsName_164 rfl (by decide) rfl ?_
                      refine x_iload_n C dX7_tokenIsName_165 rfl ?_
                      refine x_if_ne 173 C dX7_tokenIsName_166 (by decide) (fun _ => ?_) (fun z => absurd z (by decide))
                      refine x_iconst (0 : Int32) C dX7_tokenIsName_173 rfl ?_
                      exact x_zretR C rfl dX7_tokenIsName_174 rfl (r_b0 hF)
                    · have hF := ite_f hF (nbt c42)
                      refine x_aload_n C dX7_tokenIsName_96 rfl ?_
                      refine x_ldcS (z := z) 1701147238 C hG.2.2.2 xl_X7_151 hw.2.2.2.1 dX7_tokenIsName_97 (fun ra43 hst44 => ?_)
                      obtain ⟨q45, hq46, hF⟩ := bnd_e hF
                      refine x_goR (fun ls h => x_runV (As := [.ref ra43]) [] h C ml_X7_64 (k_X7_tokenIs l D cA s0 z b ν hG ra43 1701147238 q45 hq46) ⟨rfl, rfl, nb rfl, nb rfl⟩ rfl (C_Par hw) rfl ⟨hw, hst44⟩ (nb rfl) ⟨Nat.zero_le _, Nat.zero_le _⟩ dX7_tokenIsName_99) ?_
                      refine x_ifB_ne 159 C dX7_tokenIsName_102 (by decide) (fun c47 => ?_) (fun c47 => ?_)
                      · have hF := ite_t hF c47
                        refine x_iconst (1 : Int32) C dX7_tokenIsName_159 rfl ?_
                        refine x_goto 164 C dX7_tokenIsName_160 (by decide) ?_
                        refine x_istore_n [(1, .int (1 : Int32)), (0, .ref (b + 661))] C dX7_tokenIsName_164 rfl (by decide) rfl ?_
                        refine x_iload_n C dX7_tokenIsName_165 rfl ?_
                        refine x_if_ne 173 C dX7_tokenIsName_166 (by decide) (fun _ => ?_) (fun z => absurd z (by decide))
                        refine x_iconst (0 : Int32) C dX7_tokenIsName_173 rfl ?_
                        exact x_zretR C rfl dX7_tokenIsName_174 rfl (r_b0 hF)
                      · have hF := ite_f hF (nbt c47)
                        refine x_aload_n C dX7_tokenIsName_105 rfl ?_
                        refine x_ldcS (z := z) 435459551856 C hG.2.2.2 xl_X7_156 hw.2.2.2.1 dX7_tokenIsName_106 (fun ra48 hst49 => ?_)
                        obtain ⟨q50, hq51, hF⟩ := bnd_e hF
                        refine x_goR (fun ls h => x_runV (As := [.ref ra48]) [] h C ml_X7_64 (k_X7_tokenIs l D cA s0 z b ν hG ra48 435459551856 q50 hq51) ⟨rfl, rfl, nb rfl, nb rfl⟩ rfl (C_Par hw) rfl ⟨hw, hst49⟩ (nb rfl) ⟨Nat.zero_le _, Nat.zero_le _⟩ dX7_tokenIsName_108) ?_
                        refine x_ifB_ne 159 C dX7_tokenIsName_111 (by decide) (fun c52 => ?_) (fun c52 => ?_)
                        · have hF := ite_t hF c52
                          refine x_iconst (1 : Int32) C dX7_tokenIsName_159 rfl ?_
                          refine x_goto 164 C dX7_tokenIsName_160 (by decide) ?_
                          refine x_istore_n [(1, .int (1 : Int32)), (0, .ref (b + 661))] C dX7_tokenIsName_164 rfl (by decide) rfl ?_
                          refine x_iload_n C dX7_tokenIsName_165 rfl ?_
                          refine x_if_ne 173 C dX7_tokenIsName_166 (by decide) (fun _ => ?_) (fun z => absurd z (by decide))
                          refine x_iconst (0 : Int32) C dX7_tokenIsName_173 rfl ?_
                          exact x_zretR C rfl dX7_tokenIsName_174 rfl (r_b0 hF)
                        · have hF := ite_f hF (nbt c52)
                          refine x_aload_n C dX7_tokenIsName_114 rfl ?_
                          refine x_ldcS (z := z) 7954796 C hG.2.2.2 xl_X7_94 hw.2.2.2.1 dX7_tokenIsName_115 (fun ra53 hst54 => ?_)
                          obtain ⟨q55, hq56, hF⟩ := bnd_e hF
                          refine x_goR (fun ls h => x_runV (As := [.ref ra53]) [] h C ml_X7_64 (k_X7_tokenIs l D cA s0 z b ν hG ra53 7954796 q55 hq56) ⟨rfl, rfl, nb rfl, nb rfl⟩ rfl (C_Par hw) rfl ⟨hw, hst54⟩ (nb rfl) ⟨Nat.zero_le _, Nat.zero_le _⟩ dX7_tokenIsName_117) ?_
                          refine x_ifB_ne 159 C dX7_tokenIsName_120 (by decide) (fun c57 => ?_) (fun c57 => ?_)
                          · have hF := ite_t hF c57
                            refine x_iconst (1 : Int32) C dX7_tokenIsName_159 rfl ?_
                            refine x_goto 164 C dX7_tokenIsName_160 (by decide) ?_
                            refine x_istore_n [(1, .int (1 : Int32)), (0, .ref (b + 661))] C dX7_tokenIsName_164 rfl (by decide) rfl ?_
                            refine x_iload_n C dX7_tokenIsName_165 rfl ?_
                            refine x_if_ne 173 C dX7_tokenIsName_166 (by decide) (fun _ => ?_) (fun z => absurd z (by decide))
                            refine x_iconst (0 : Int32) C dX7_tokenIsName_173 rfl ?_
                            exact x_zretR C rfl dX7_tokenIsName_174 rfl (r_b0 hF)
                          · have hF := ite_f hF (nbt c57)
                            refine x_aload_n C dX7_tokenIsName_123 rfl ?_
                            refine x_ldcS (z := z) 1885956211 C hG.2.2.2 xl_X7_99 hw.2.2.2.1 dX7_tokenIsName_124 (fun ra58 hst59 => ?_)
                            obtain ⟨q60, hq61, hF⟩ := bnd_e hF
                            refine x_goR (fun ls h => x_runV (As := [.ref ra58]) [] h C ml_X7_64 (k_X7_tokenIs l D cA s0 z b ν hG ra58 1885956211 q60 hq61) ⟨rfl, rfl, nb rfl, nb rfl⟩ rfl (C_Par hw) rfl ⟨hw, hst59⟩ (nb rfl) ⟨Nat.zero_le _, Nat.zero_le _⟩ dX7_tokenIsName_126) ?_
                            refine x_ifB_ne 159 C dX7_tokenIsName_129 (by decide) (fun c62 => ?_) (fun c62 => ?_)
                            · have hF := ite_t hF c62
                              refine x_iconst (1 : Int32) C dX7_tokenIsName_159 rfl ?_
                              refine x_goto 164 C dX7_tokenIsName_160 (by decide) ?_
                              refine x_istore_n [(1, .int (1 : Int32)), (0, .ref (b + 661))] C dX7_tokenIsName_164 rfl (by decide) rfl ?_
                              refine x_iload_n C dX7_tokenIsName_165 rfl ?_
                              refine x_if_ne 173 C dX7_tokenIsName_166 (by decide) (fun _ => ?_) (fun z => absurd z (by decide))
                              refine x_iconst (0 : Int32) C dX7_tokenIsName_173 rfl ?_
                              exact x_zretR C rfl dX7_tokenIsName_174 rfl (r_b0 hF)
                            · have hF := ite_f hF (nbt c62)
                              refine x_aload_n C dX7_tokenIsName_132 rfl ?_
                              refine x_ldcS (z := z) 1936617332 C hG.2.2.2 xl_X7_180 hw.2.2.2.1 dX7_tokenIsName_133 (fun ra63 hst64 => ?_)
                              obtain ⟨q65, hq66, hF⟩ := bnd_e hF
                              refine x_goR (fun ls h => x_runV (As := [.ref ra63]) [] h C ml_X7_64 (k_X7_tokenIs l D cA s0 z b ν hG ra63 1936617332 q65 hq66) ⟨rfl, rfl, nb rfl, nb rfl⟩ rfl (C_Par hw) rfl ⟨hw, hst64⟩ (nb rfl) ⟨Nat.zero_le _, Nat.zero_le _⟩ dX7_tokenIsName_135) ?_
                              refine x_ifB_ne 159 C dX7_tokenIsName_138 (by decide) (fun c67 => ?_) (fun c67 => ?_)
                              · have hF := ite_t hF c67
                                refine x_iconst (1 : Int32) C dX7_tokenIsName_159 rfl ?_
                                refine x_goto 164 C dX7_tokenIsName_160 (by decide) ?_
                                refine x_istore_n [(1, .int (1 : Int32)), (0, .ref (b + 661))] C dX7_tokenIsName_164 rfl (by decide) rfl ?_
                                refine x_iload_n C dX7_tokenIsName_165 rfl ?_
                                refine x_if_ne 173 C dX7_tokenIsName_166 (by decide) (fun _ => ?_) (fun z => absurd z (by decide))
                                refine x_iconst (0 : Int32) C dX7_tokenIsName_173 rfl ?_
                                exact x_zretR C rfl dX7_tokenIsName_174 rfl (r_b0 hF)
                              · have hF := ite_f hF (nbt c67)
                                refine x_aload_n C dX7_tokenIsName_141 rfl ?_
                                refine x_ldcS (z := z) 1819042147 C hG.2.2.2 xl_X7_104 hw.2.2.2.1 dX7_tokenIsName_142 (fun ra68 hst69 => ?_)
                                obtain ⟨q70, hq71, hF⟩ := bnd_e hF
                                refine x_goR (fun ls h => x_runV (As := [.ref ra68]) [] h C ml_X7_64 (k_X7_tokenIs l D cA s0 z b ν hG ra68 1819042147 q70 hq71) ⟨rfl, rfl, nb rfl, nb rfl⟩ rfl (C_Par hw) rfl ⟨hw, hst69⟩ (nb rfl) ⟨Nat.zero_le _, Nat.zero_le _⟩ dX7_tokenIsName_144) ?_
                                refine x_ifB_ne 159 C dX7_tokenIsName_147 (by decide) (fun c72 => ?_) (fun c72 => ?_)
                                · have hF := ite_t hF c72
                                  refine x_iconst (1 : Int32) C dX7_tokenIsName_159 rfl ?_
                                  refine x_goto 164 C dX7_tokenIsName_160 (by decide) ?_
                                  refine x_istore_n [(1, .int (1 : Int32)), (0, .ref (b + 661))] C dX7_tokenIsName_164 rfl (by decide) rfl ?_
                                  refine x_iload_n C dX7_tokenIsName_165 rfl ?_
                                  refine x_if_ne 173 C dX7_tokenIsName_166 (by decide) (fun _ => ?_) (fun z => absurd z (by decide))
                                  refine x_iconst (0 : Int32) C dX7_tokenIsName_173 rfl ?_
                                  exact x_zretR C rfl dX7_tokenIsName_174 rfl (r_b0 hF)
                                · have hF := ite_f hF (nbt c72)
                                  refine x_aload_n C dX7_tokenIsName_150 rfl ?_
                                  refine x_ldcS (z := z) 28532 C hG.2.2.2 xl_X7_189 hw.2.2.2.1 dX7_tokenIsName_151 (fun ra73 hst74 => ?_)
                                  obtain ⟨q75, hq76, hF⟩ := bnd_e hF
                                  refine x_goR (fun ls h => x_runV (As := [.ref ra73]) [] h C ml_X7_64 (k_X7_tokenIs l D cA s0 z b ν hG ra73 28532 q75 hq76) ⟨rfl, rfl, nb rfl, nb rfl⟩ rfl (C_Par hw) rfl ⟨hw, hst74⟩ (nb rfl) ⟨Nat.zero_le _, Nat.zero_le _⟩ dX7_tokenIsName_153) ?_
                                  refine x_ifB_eq 163 C dX7_tokenIsName_156 (by decide) (fun c77 => ?_) (fun c77 => ?_)
                                  · have hF := ite_f hF (nbt c77)
                                    refine x_iconst (0 : Int32) C dX7_tokenIsName_163 rfl ?_
                                    refine x_istore_n [(1, .int (0 : Int32)), (0, .ref (b + 661))] C dX7_tokenIsName_164 rfl (by decide) rfl ?_
                                    refine x_iload_n C dX7_tokenIsName_165 rfl ?_
                                    refine x_if_ne 173 C dX7_tokenIsName_166 (by decide) (fun z => absurd z (by decide)) (fun _ => ?_)
                                    refine x_iconst (1 : Int32) C dX7_tokenIsName_169 rfl ?_
                                    refine x_goto 174 C dX7_tokenIsName_170 (by decide) ?_
                                    exact x_zretR C rfl dX7_tokenIsName_174 rfl (r_b1 hF)
                                  · have hF := ite_t hF c77
                                    refine x_iconst (1 : Int32) C dX7_tokenIsName_159 rfl ?_
                                    refine x_goto 164 C dX7_tokenIsName_160 (by decide) ?_
                                    refine x_istore_n [(1, .int (1 : Int32)), (0, .ref (b + 661))] C dX7_tokenIsName_164 rfl (by decide) rfl ?_
                                    refine x_iload_n C dX7_tokenIsName_165 rfl ?_
                                    refine x_if_ne 173 C dX7_tokenIsName_166 (by decide) (fun _ => ?_) (fun z => absurd z (by decide))
                                    refine x_iconst (0 : Int32) C dX7_tokenIsName_173 rfl ?_
                                    exact x_zretR C rfl dX7_tokenIsName_174 rfl (r_b0 hF)
    · have hF := ite_f hF c2
      refine x_iconst (0 : Int32) C dX7_tokenIsName_22 rfl ?_
      exact x_zretR C rfl dX7_tokenIsName_23 rfl (r_b0 hF)
noncomputable def g_X7_shipStatement (ν : Mm) : Option (Bool × Mm) := (if (ν.1 334 5) < (8 : Int32) then bnd (g_X7_readToken ν) (fun q2 => bnd (g_X7_tokenIsName q2) (fun q4 => (if q4 = true then bnd (g_X5_shipNamed q2 334 1 (q2.1 661 3) (q2.1 661 4)) (fun q7 => (if q7 = (-1 : Int32) then bnd (g_X7_readToken q2) (fun q10 => bnd (g_X7_word q10 1936617332) (fun q14 => (if q14.1 = true then bnd (g_X7_number q14.2 (1 : Int32) (9999 : Int32)) (fun q17 => (if q17.1 = true then bnd (g_X5_newShip q17.2 334 1 (q2.1 661 3) (q2.1 661 4) (q17.2.1 661 5)) (fun q20 => some (true, q20.2)) else some (false, q17.2))) else some (false, q14.2)))) else bnd (g_X7_fail q2 (3 : Int32)) (fun q22 => some (q22.1, q22.2)))) else bnd (g_X7_fail q2 (1 : Int32)) (fun q24 => some (q24.1, q24.2))))) else bnd (g_X7_fail ν (4 : Int32)) (fun q26 => some (q26.1, q26.2)))
set_option maxRecDepth 20000 in
set_option maxHeartbeats 4000000 in
theorem k_X7_shipStatement (l : Launch) (D : va_G) (cA : Nat → ClassId) (s0 : State) (z : Nat) (b : Nat) (ν : Mm) (sz : Nat) (hG : xG l D cA s0) (r : Bool × Mm) (hF : g_X7_shipStatement ν = some r) : Met l yX7_shipStatement (wsG yX7_shipStatement cX7_shipStatement 3 (some (FieldType.boolean))) { frames := 7, cells := 0, slots := 0, locals := 151 } (xP D cA s0 [.ref (b + 661)] (fun H => H.size = sz ∧ WC D cA s0 z b ν H)) (xQm (some (.int (bI r.1))) (fun H => WC D cA s0 z b r.2 H) (xA b 2628 sz)) 0 0 (xA b 2628 sz) := by
  refine x_start (own := RX7) [(0, .ref (b + 661))] rfl rfl (by decide) (nb rfl) ?_
  intro p e s m args below meth c C hw
  obtain ⟨hsz, hw⟩ := hw
  subst hsz
  have hS : va_S (xA b 2628 s.heap.size) s.heap s.heap [] := va_S.rf
  refine x_aload_n C dX7_shipStatement_0 rfl ?_
  refine x_get (.ref (b + 334)) C fl_X7_19 (C_Par hw) rfl dX7_shipStatement_1 ?_
  refine x_get (.int (ν.1 334 5)) C fl_X7_167 (C_Led led334 hw) rfl dX7_shipStatement_4 ?_
  refine x_bipush (8 : Int32) C dX7_shipStatement_7 rfl ?_
  refine x_icmp_lt 18 C dX7_shipStatement_9 (by decide) (fun c1 => ?_) (fun c1 => ?_)
  · have hF := ite_t hF c1
    refine x_aload_n C dX7_shipStatement_18 rfl ?_
    obtain ⟨q2, hq3, hF⟩ := bnd_e hF
    refine x_goM (fun ls h => x_runV (As := []) [] h C ml_X7_44 (k_X7_readToken l D cA s0 z b ν _ hG q2 hq3) ⟨rfl, rfl, nb rfl, nb rfl⟩ rfl (C_Par hw) rfl ⟨rfl, hw⟩ (nb rfl) ⟨Nat.zero_le _, Nat.zero_le _⟩ dX7_shipStatement_19) hS (xA_le hS) (fun H locs hw hz hk hS => ?_)
    have hw : WC D cA s0 z b q2 H := hw
    refine x_aload_n C dX7_shipStatement_22 rfl ?_
    obtain ⟨q4, hq5, hF⟩ := bnd_e hF
    refine x_goR (fun ls h => x_runV (As := []) [] h C ml_X7_170 (k_X7_tokenIsName l D cA s0 z b q2 hG q4 hq5) ⟨rfl, rfl, nb rfl, nb rfl⟩ rfl (C_Par hw) rfl hw (nb rfl) ⟨Nat.zero_le _, Nat.zero_le _⟩ dX7_shipStatement_23) ?_
    refine x_ifB_ne 35 C dX7_shipStatement_26 (by decide) (fun c6 => ?_) (fun c6 => ?_)
    · have hF := ite_t hF c6
      refine x_aload_n C dX7_shipStatement_35 rfl ?_
      refine x_get (.ref (b + 334)) C fl_X7_19 (C_Par hw) rfl dX7_shipStatement_36 ?_
      refine x_aload_n C dX7_shipStatement_39 rfl ?_
      refine x_get (.ref (b + 1)) C fl_X7_15 (C_Par hw) rfl dX7_shipStatement_40 ?_
      refine x_aload_n C dX7_shipStatement_43 rfl ?_
      refine x_get (.int (q2.1 661 3)) C fl_X7_173 (C_Par hw) rfl dX7_shipStatement_44 ?_
      refine x_aload_n C dX7_shipStatement_47 rfl ?_
      refine x_get (.int (q2.1 661 4)) C fl_X7_41 (C_Par hw) rfl dX7_shipStatement_48 ?_
      obtain ⟨q7, hq8, hF⟩ := bnd_e hF
      refine x_goR (fun ls h => x_runV (As := [.ref (b + 1), .int (q2.1 661 3), .int (q2.1 661 4)]) [] h C ml_X7_176 (k_X5_shipNamed l D cA s0 z b q2 hG 334 1 (q2.1 661 3) (q2.1 661 4) q7 hq8) ⟨rfl, rfl, nb rfl, nb rfl⟩ rfl (C_Led led334 hw) rfl hw (nb rfl) ⟨Nat.zero_le _, Nat.zero_le _⟩ dX7_shipStatement_51) ?_
      refine x_iconst (-1 : Int32) C dX7_shipStatement_54 rfl ?_
      refine x_icmp_eq 64 C dX7_shipStatement_55 (by decide) (fun c9 => ?_) (fun c9 => ?_)
      · have hF := ite_t hF c9
        refine x_aload_n C dX7_shipStatement_64 rfl ?_
        refine x_get (.int (q2.1 661 3)) C fl_X7_173 (C_Par hw) rfl dX7_shipStatement_65 ?_
        refine x_istore_n [(1, .int (q2.1 661 3)), (0, .ref (b + 661))] C dX7_shipStatement_68 rfl (by decide) rfl ?_
        refine x_aload_n C dX7_shipStatement_69 rfl ?_
        refine x_get (.int (q2.1 661 4)) C fl_X7_41 (C_Par hw) rfl dX7_shipStatement_70 ?_
        refine x_istore_n [(2, .int (q2.1 661 4)), (1, .int (q2.1 661 3)), (0, .ref (b + 661))] C dX7_shipStatement_73 rfl (by decide) rfl ?_
        refine x_aload_n C dX7_shipStatement_74 rfl ?_
        obtain ⟨q10, hq11, hF⟩ := bnd_e hF
        refine x_goM (fun ls h => x_runV (As := []) [] h C ml_X7_44 (k_X7_readToken l D cA s0 z b q2 _ hG q10 hq11) ⟨rfl, rfl, nb rfl, nb rfl⟩ rfl (C_Par hw) rfl ⟨rfl, hw⟩ (nb rfl) ⟨Nat.zero_le _, Nat.zero_le _⟩ dX7_shipStatement_75) hS (xA_le hS) (fun H locs hw hz hk hS => ?_)
        have hw : WC D cA s0 z b q10 H := hw
        refine x_aload_n C dX7_shipStatement_78 rfl ?_
        refine x_ldcS (z := z) 1936617332 C hG.2.2.2 xl_X7_180 hw.2.2.2.1 dX7_shipStatement_79 (fun ra12 hst13 => ?_)
        obtain ⟨q14, hq15, hF⟩ := bnd_e hF
        refine x_goM (fun ls h => x_runV (As := [.ref ra12]) [] h C ml_X7_129 (k_X7_word l D cA s0 z b q10 _ hG ra12 1936617332 q14 hq15) ⟨rfl, rfl, nb rfl, nb rfl⟩ rfl (C_Par hw) rfl ⟨rfl, hw, hst13⟩ (nb rfl) ⟨Nat.zero_le _, Nat.zero_le _⟩ dX7_shipStatement_81) hS (xA_le hS) (fun H locs hw hz hk hS => ?_)
        have hw : WC D cA s0 z b q14.2 H := hw
        refine x_ifB_eq 98 C dX7_shipStatement_84 (by decide) (fun c16 => ?_) (fun c16 => ?_)
        · have hF := ite_f hF (nbt c16)
          refine x_iconst (0 : Int32) C dX7_shipStatement_98 rfl ?_
          exact x_zretM2 C rfl dX7_shipStatement_99 rfl (rm_b0 hF) (rm_m (W := fun m => WC D cA s0 z b m _) hF hw) hS (nb rfl) (nb rfl)
        · have hF := ite_t hF c16
          refine x_aload_n C dX7_shipStatement_87 rfl ?_
          refine x_iconst (1 : Int32) C dX7_shipStatement_88 rfl ?_
          refine x_sipush (9999 : Int32) C dX7_shipStatement_89 rfl ?_
          obtain ⟨q17, hq18, hF⟩ := bnd_e hF
          refine x_goM (fun ls h => x_runV (As := [.int (1 : Int32), .int (9999 : Int32)]) [] h C ml_X7_120 (k_X7_number l D cA s0 z b q14.2 _ hG (1 : Int32) (9999 : Int32) q17 hq18) ⟨rfl, rfl, nb rfl, nb rfl⟩ rfl (C_Par hw) rfl ⟨rfl, hw⟩ (nb rfl) ⟨Nat.zero_le _, Nat.zero_le _⟩ dX7_shipStatement_92) hS (xA_le hS) (fun H locs hw hz hk hS => ?_)
          have hw : WC D cA s0 z b q17.2 H := hw
          refine x_ifB_ne 100 C dX7_shipStatement_95 (by decide) (fun c19 => ?_) (fun c19 => ?_)
          · have hF := ite_t hF c19
            refine x_aload_n C dX7_shipStatement_100 rfl ?_
            refine x_get (.ref (b + 334)) C fl_X7_19 (C_Par hw) rfl dX7_shipStatement_101 ?_
            refine x_aload_n C dX7_shipStatement_104 rfl ?_
            refine x_get (.ref (b + 1)) C fl_X7_15 (C_Par hw) rfl dX7_shipStatement_105 ?_
            refine x_iload_n C dX7_shipStatement_108 rfl ?_
            refine x_iload_n C dX7_shipStatement_109 rfl ?_
            refine x_aload_n C dX7_shipStatement_110 rfl ?_
            refine x_get (.int (q17.2.1 661 5)) C fl_X7_124 (C_Par hw) rfl dX7_shipStatement_111 ?_
            obtain ⟨q20, hq21, hF⟩ := bnd_e hF
            refine x_goM (fun ls h => x_runV (As := [.ref (b + 1), .int (q2.1 661 3), .int (q2.1 661 4), .int (q17.2.1 661 5)]) [] h C ml_X7_182 (k_X5_newShip l D cA s0 z b q17.2 _ hG 334 1 (q2.1 661 3) (q2.1 661 4) (q17.2.1 661 5) q20 hq21) ⟨rfl, rfl, nb rfl, nb rfl⟩ rfl (C_Led led334 hw) rfl ⟨rfl, hw⟩ (nb rfl) ⟨Nat.zero_le _, Nat.zero_le _⟩ dX7_shipStatement_114) hS (xA_le hS) (fun H locs hw hz hk hS => ?_)
            have hw : WC D cA s0 z b q20.2 H := hw
            refine x_pop C dX7_shipStatement_117 rfl ?_
            refine x_iconst (1 : Int32) C dX7_shipStatement_118 rfl ?_
            exact x_zretM2 C rfl dX7_shipStatement_119 rfl (rm_b1 hF) (rm_m (W := fun m => WC D cA s0 z b m _) hF hw) hS (nb rfl) (nb rfl)
          · have hF := ite_f hF (nbt c19)
            refine x_iconst (0 : Int32) C dX7_shipStatement_98 rfl ?_
            exact x_zretM2 C rfl dX7_shipStatement_99 rfl (rm_b0 hF) (rm_m (W := fun m => WC D cA s0 z b m _) hF hw) hS (nb rfl) (nb rfl)
      · have hF := ite_f hF c9
        refine x_aload_n C dX7_shipStatement_58 rfl ?_
        refine x_iconst (3 : Int32) C dX7_shipStatement_59 rfl ?_
        obtain ⟨q22, hq23, hF⟩ := bnd_e hF
        refine x_goM (fun ls h => x_runV (As := [.int (3 : Int32)]) [] h C ml_X7_50 (k_X7_fail l D cA s0 z b q2 _ hG (3 : Int32) q22 hq23) ⟨rfl, rfl, nb rfl, nb rfl⟩ rfl (C_Par hw) rfl ⟨rfl, hw⟩ (nb rfl) ⟨Nat.zero_le _, Nat.zero_le _⟩ dX7_shipStatement_60) hS (xA_le hS) (fun H locs hw hz hk hS => ?_)
        have hw : WC D cA s0 z b q22.2 H := hw
        exact x_zretM2 C rfl dX7_shipStatement_63 (bI_nar _) (rm_b hF) (rm_m (W := fun m => WC D cA s0 z b m _) hF hw) hS (nb rfl) (nb rfl)
    · have hF := ite_f hF (nbt c6)
      refine x_aload_n C dX7_shipStatement_29 rfl ?_
      refine x_iconst (1 : Int32) C dX7_shipStatement_30 rfl ?_
      obtain ⟨q24, hq25, hF⟩ := bnd_e hF
      refine x_goM (fun ls h => x_runV (As := [.int (1 : Int32)]) [] h C ml_X7_50 (k_X7_fail l D cA s0 z b q2 _ hG (1 : Int32) q24 hq25) ⟨rfl, rfl, nb rfl, nb rfl⟩ rfl (C_Par hw) rfl ⟨rfl, hw⟩ (nb rfl) ⟨Nat.zero_le _, Nat.zero_le _⟩ dX7_shipStatement_31) hS (xA_le hS) (fun H locs hw hz hk hS => ?_)
      have hw : WC D cA s0 z b q24.2 H := hw
      exact x_zretM2 C rfl dX7_shipStatement_34 (bI_nar _) (rm_b hF) (rm_m (W := fun m => WC D cA s0 z b m _) hF hw) hS (nb rfl) (nb rfl)
  · have hF := ite_f hF c1
    refine x_aload_n C dX7_shipStatement_12 rfl ?_
    refine x_iconst (4 : Int32) C dX7_shipStatement_13 rfl ?_
    obtain ⟨q26, hq27, hF⟩ := bnd_e hF
    refine x_goM (fun ls h => x_runV (As := [.int (4 : Int32)]) [] h C ml_X7_50 (k_X7_fail l D cA s0 z b ν _ hG (4 : Int32) q26 hq27) ⟨rfl, rfl, nb rfl, nb rfl⟩ rfl (C_Par hw) rfl ⟨rfl, hw⟩ (nb rfl) ⟨Nat.zero_le _, Nat.zero_le _⟩ dX7_shipStatement_14) hS (xA_le hS) (fun H locs hw hz hk hS => ?_)
    have hw : WC D cA s0 z b q26.2 H := hw
    exact x_zretM2 C rfl dX7_shipStatement_17 (bI_nar _) (rm_b hF) (rm_m (W := fun m => WC D cA s0 z b m _) hF hw) hS (nb rfl) (nb rfl)
noncomputable def g_X7_callStatement (ν : Mm) : Option (Bool × Mm) := (if (ν.1 334 6) < (20 : Int32) then bnd (g_X7_readToken ν) (fun q2 => bnd (g_X7_tokenIsName q2) (fun q4 => (if q4 = true then bnd (g_X5_shipNamed q2 334 1 (q2.1 661 3) (q2.1 661 4)) (fun q7 => (if q7 = (-1 : Int32) then bnd (g_X7_fail q2 (3 : Int32)) (fun q33 => some (q33.1, q33.2)) else bnd (g_X7_readToken q2) (fun q10 => bnd (g_X7_number q10 (0 : Int32) (3599 : Int32)) (fun q12 => (if q12.1 = true then bnd (g_X7_word q12.2 28532) (fun q17 => (if q17.1 = true then bnd (g_X7_number q17.2 (q12.2.1 661 5) (((q12.2.1 661 5) + (30 : Int32)) - (1 : Int32))) (fun q20 => (if q20.1 = true then bnd (g_X7_word q20.2 435745415543) (fun q25 => (if q25.1 = true then bnd (g_X7_number q25.2 (0 : Int32) (999 : Int32)) (fun q28 => (if q28.1 = true then bnd (g_X5_newCall q28.2 334 q7 (q12.2.1 661 5) (q20.2.1 661 5) (q28.2.1 661 5)) (fun q31 => some (true, q31.2)) else some (false, q28.2))) else some (false, q25.2))) else some (false, q20.2))) else some (false, q17.2))) else some (false, q12.2)))))) else bnd (g_X7_fail q2 (1 : Int32)) (fun q35 => some (q35.1, q35.2))))) else bnd (g_X7_fail ν (4 : Int32)) (fun q37 => some (q37.1, q37.2)))
set_option maxRecDepth 20000 in
set_option maxHeartbeats 4000000 in
theorem k_X7_callStatement (l : Launch) (D : va_G) (cA : Nat → ClassId) (s0 : State) (z : Nat) (b : Nat) (ν : Mm) (sz : Nat) (hG : xG l D cA s0) (r : Bool × Mm) (hF : g_X7_callStatement ν = some r) : Met l yX7_callStatement (wsG yX7_callStatement cX7_callStatement 4 (some (FieldType.boolean))) { frames := 7, cells := 0, slots := 0, locals := 151 } (xP D cA s0 [.ref (b + 661)] (fun H => H.size = sz ∧ WC D cA s0 z b ν H)) (xQm (some (.int (bI r.1))) (fun H => WC D cA s0 z b r.2 H) (xA b 2628 sz)) 0 0 (xA b 2628 sz) := by
  refine x_start (own := RX7) [(0, .ref (b + 661))] rfl rfl (by decide) (nb rfl) ?_
  intro p e s m args below meth c C hw
  obtain ⟨hsz, hw⟩ := hw
  subst hsz
  have hS : va_S (xA b 2628 s.heap.size) s.heap s.heap [] := va_S.rf
  refine x_aload_n C dX7_callStatement_0 rfl ?_
  refine x_get (.ref (b + 334)) C fl_X7_19 (C_Par hw) rfl dX7_callStatement_1 ?_
  refine x_get (.int (ν.1 334 6)) C fl_X7_186 (C_Led led334 hw) rfl dX7_callStatement_4 ?_
  refine x_bipush (20 : Int32) C dX7_callStatement_7 rfl ?_
  refine x_icmp_lt 18 C dX7_callStatement_9 (by decide) (fun c1 => ?_) (fun c1 => ?_)
  · have hF := ite_t hF c1
    refine x_aload_n C dX7_callStatement_18 rfl ?_
    obtain ⟨q2, hq3, hF⟩ := bnd_e hF
    refine x_goM (fun ls h => x_runV (As := []) [] h C ml_X7_44 (k_X7_readToken l D cA s0 z b ν _ hG q2 hq3) ⟨rfl, rfl, nb rfl, nb rfl⟩ rfl (C_Par hw) rfl ⟨rfl, hw⟩ (nb rfl) ⟨Nat.zero_le _, Nat.zero_le _⟩ dX7_callStatement_19) hS (xA_le hS) (fun H locs hw hz hk hS => ?_)
    have hw : WC D cA s0 z b q2 H := hw
    refine x_aload_n C dX7_callStatement_22 rfl ?_
    obtain ⟨q4, hq5, hF⟩ := bnd_e hF
    refine x_goR (fun ls h => x_runV (As := []) [] h C ml_X7_170 (k_X7_tokenIsName l D cA s0 z b q2 hG q4 hq5) ⟨rfl, rfl, nb rfl, nb rfl⟩ rfl (C_Par hw) rfl hw (nb rfl) ⟨Nat.zero_le _, Nat.zero_le _⟩ dX7_callStatement_23) ?_
    refine x_ifB_ne 35 C dX7_callStatement_26 (by decide) (fun c6 => ?_) (fun c6 => ?_)
    · have hF := ite_t hF c6
      refine x_aload_n C dX7_callStatement_35 rfl ?_
      refine x_get (.ref (b + 334)) C fl_X7_19 (C_Par hw) rfl dX7_callStatement_36 ?_
      refine x_aload_n C dX7_callStatement_39 rfl ?_
      refine x_get (.ref (b + 1)) C fl_X7_15 (C_Par hw) rfl dX7_callStatement_40 ?_
      refine x_aload_n C dX7_callStatement_43 rfl ?_
      refine x_get (.int (q2.1 661 3)) C fl_X7_173 (C_Par hw) rfl dX7_callStatement_44 ?_
      refine x_aload_n C dX7_callStatement_47 rfl ?_
      refine x_get (.int (q2.1 661 4)) C fl_X7_41 (C_Par hw) rfl dX7_callStatement_48 ?_
      obtain ⟨q7, hq8, hF⟩ := bnd_e hF
      refine x_goR (fun ls h => x_runV (As := [.ref (b + 1), .int (q2.1 661 3), .int (q2.1 661 4)]) [] h C ml_X7_176 (k_X5_shipNamed l D cA s0 z b q2 hG 334 1 (q2.1 661 3) (q2.1 661 4) q7 hq8) ⟨rfl, rfl, nb rfl, nb rfl⟩ rfl (C_Led led334 hw) rfl hw (nb rfl) ⟨Nat.zero_le _, Nat.zero_le _⟩ dX7_callStatement_51) ?_
      refine x_istore_n [(1, .int q7), (0, .ref (b + 661))] C dX7_callStatement_54 rfl (by decide) rfl ?_
      refine x_iload_n C dX7_callStatement_55 rfl ?_
      refine x_iconst (-1 : Int32) C dX7_callStatement_56 rfl ?_
      refine x_icmp_ne 66 C dX7_callStatement_57 (by decide) (fun c9 => ?_) (fun c9 => ?_)
      · have hF := ite_f hF c9
        refine x_aload_n C dX7_callStatement_66 rfl ?_
        obtain ⟨q10, hq11, hF⟩ := bnd_e hF
        refine x_goM (fun ls h => x_runV (As := []) [] h C ml_X7_44 (k_X7_readToken l D cA s0 z b q2 _ hG q10 hq11) ⟨rfl, rfl, nb rfl, nb rfl⟩ rfl (C_Par hw) rfl ⟨rfl, hw⟩ (nb rfl) ⟨Nat.zero_le _, Nat.zero_le _⟩ dX7_callStatement_67) hS (xA_le hS) (fun H locs hw hz hk hS => ?_)
        have hw : WC D cA s0 z b q10 H := hw
        refine x_aload_n C dX7_callStatement_70 rfl ?_
        refine x_iconst (0 : Int32) C dX7_callStatement_71 rfl ?_
        refine x_sipush (3599 : Int32) C dX7_callStatement_72 rfl ?_
        obtain ⟨q12, hq13, hF⟩ := bnd_e hF
        refine x_goM (fun ls h => x_runV (As := [.int (0 : Int32), .int (3599 : Int32)]) [] h C ml_X7_120 (k_X7_number l D cA s0 z b q10 _ hG (0 : Int32) (3599 : Int32) q12 hq13) ⟨rfl, rfl, nb rfl, nb rfl⟩ rfl (C_Par hw) rfl ⟨rfl, hw⟩ (nb rfl) ⟨Nat.zero_le _, Nat.zero_le _⟩ dX7_callStatement_75) hS (xA_le hS) (fun H locs hw hz hk hS => ?_)
        have hw : WC D cA s0 z b q12.2 H := hw
        refine x_ifB_ne 83 C dX7_callStatement_78 (by decide) (fun c14 => ?_) (fun c14 => ?_)
        · have hF := ite_t hF c14
          refine x_aload_n C dX7_callStatement_83 rfl ?_
          refine x_get (.int (q12.2.1 661 5)) C fl_X7_124 (C_Par hw) rfl dX7_callStatement_84 ?_
          refine x_istore_n [(2, .int (q12.2.1 661 5)), (1, .int q7), (0, .ref (b + 661))] C dX7_callStatement_87 rfl (by decide) rfl ?_
          refine x_aload_n C dX7_callStatement_88 rfl ?_
          refine x_ldcS (z := z) 28532 C hG.2.2.2 xl_X7_189 hw.2.2.2.1 dX7_callStatement_89 (fun ra15 hst16 => ?_)
          obtain ⟨q17, hq18, hF⟩ := bnd_e hF
          refine x_goM (fun ls h => x_runV (As := [.ref ra15]) [] h C ml_X7_129 (k_X7_word l D cA s0 z b q12.2 _ hG ra15 28532 q17 hq18) ⟨rfl, rfl, nb rfl, nb rfl⟩ rfl (C_Par hw) rfl ⟨rfl, hw, hst16⟩ (nb rfl) ⟨Nat.zero_le _, Nat.zero_le _⟩ dX7_callStatement_91) hS (xA_le hS) (fun H locs hw hz hk hS => ?_)
          have hw : WC D cA s0 z b q17.2 H := hw
          refine x_ifB_eq 111 C dX7_callStatement_94 (by decide) (fun c19 => ?_) (fun c19 => ?_)
          · have hF := ite_f hF (nbt c19)
            refine x_iconst (0 : Int32) C dX7_callStatement_111 rfl ?_
            exact x_zretM2 C rfl dX7_callStatement_112 rfl (rm_b0 hF) (rm_m (W := fun m => WC D cA s0 z b m _) hF hw) hS (nb rfl) (nb rfl)
          · have hF := ite_t hF c19
            refine x_aload_n C dX7_callStatement_97 rfl ?_
            refine x_iload_n C dX7_callStatement_98 rfl ?_
            refine x_iload_n C dX7_callStatement_99 rfl ?_
            refine x_bipush (30 : Int32) C dX7_callStatement_100 rfl ?_
            refine x_iadd C dX7_callStatement_102 ?_
            refine x_iconst (1 : Int32) C dX7_callStatement_103 rfl ?_
            refine x_isub C dX7_callStatement_104 ?_
            obtain ⟨q20, hq21, hF⟩ := bnd_e hF
            refine x_goM (fun ls h => x_runV (As := [.int (q12.2.1 661 5), .int (((q12.2.1 661 5) + (30 : Int32)) - (1 : Int32))]) [] h C ml_X7_120 (k_X7_number l D cA s0 z b q17.2 _ hG (q12.2.1 661 5) (((q12.2.1 661 5) + (30 : Int32)) - (1 : Int32)) q20 hq21) ⟨rfl, rfl, nb rfl, nb rfl⟩ rfl (C_Par hw) rfl ⟨rfl, hw⟩ (nb rfl) ⟨Nat.zero_le _, Nat.zero_le _⟩ dX7_callStatement_105) hS (xA_le hS) (fun H locs hw hz hk hS => ?_)
            have hw : WC D cA s0 z b q20.2 H := hw
            refine x_ifB_ne 113 C dX7_callStatement_108 (by decide) (fun c22 => ?_) (fun c22 => ?_)
            · have hF := ite_t hF c22
              refine x_aload_n C dX7_callStatement_113 rfl ?_
              refine x_get (.int (q20.2.1 661 5)) C fl_X7_124 (C_Par hw) rfl dX7_callStatement_114 ?_
              refine x_istore_n [(3, .int (q20.2.1 661 5)), (2, .int (q12.2.1 661 5)), (1, .int q7), (0, .ref (b + 661))] C dX7_callStatement_117 rfl (by decide) rfl ?_
              refine x_aload_n C dX7_callStatement_118 rfl ?_
              refine x_ldcS (z := z) 435745415543 C hG.2.2.2 xl_X7_89 hw.2.2.2.1 dX7_callStatement_119 (fun ra23 hst24 => ?_)
              obtain ⟨q25, hq26, hF⟩ := bnd_e hF
              refine x_goM (fun ls h => x_runV (As := [.ref ra23]) [] h C ml_X7_129 (k_X7_word l D cA s0 z b q20.2 _ hG ra23 435745415543 q25 hq26) ⟨rfl, rfl, nb rfl, nb rfl⟩ rfl (C_Par hw) rfl ⟨rfl, hw, hst24⟩ (nb rfl) ⟨Nat.zero_le _, Nat.zero_le _⟩ dX7_callStatement_121) hS (xA_le hS) (fun H locs hw hz hk hS => ?_)
              have hw : WC D cA s0 z b q25.2 H := hw
              refine x_ifB_eq 138 C dX7_callStatement_124 (by decide) (fun c27 => ?_) (fun c27 => ?_)
              · have hF := ite_f hF (nbt c27)
                refine x_iconst (0 : Int32) C dX7_callStatement_138 rfl ?_
                exact x_zretM2 C rfl dX7_callStatement_139 rfl (rm_b0 hF) (rm_m (W := fun m => WC D cA s0 z b m _) hF hw) hS (nb rfl) (nb rfl)
              · have hF := ite_t hF c27
                refine x_aload_n C dX7_callStatement_127 rfl ?_
                refine x_iconst (0 : Int32) C dX7_callStatement_128 rfl ?_
                refine x_sipush (999 : Int32) C dX7_callStatement_129 rfl ?_
                obtain ⟨q28, hq29, hF⟩ := bnd_e hF
                refine x_goM (fun ls h => x_runV (As := [.int (0 : Int32), .int (999 : Int32)]) [] h C ml_X7_120 (k_X7_number l D cA s0 z b q25.2 _ hG (0 : Int32) (999 : Int32) q28 hq29) ⟨rfl, rfl, nb rfl, nb rfl⟩ rfl (C_Par hw) rfl ⟨rfl, hw⟩ (nb rfl) ⟨Nat.zero_le _, Nat.zero_le _⟩ dX7_callStatement_132) hS (xA_le hS) (fun H locs hw hz hk hS => ?_)
                have hw : WC D cA s0 z b q28.2 H := hw
                refine x_ifB_ne 140 C dX7_callStatement_135 (by decide) (fun c30 => ?_) (fun c30 => ?_)
                · have hF := ite_t hF c30
                  refine x_aload_n C dX7_callStatement_140 rfl ?_
                  refine x_get (.ref (b + 334)) C fl_X7_19 (C_Par hw) rfl dX7_callStatement_141 ?_
                  refine x_iload_n C dX7_callStatement_144 rfl ?_
                  refine x_iload_n C dX7_callStatement_145 rfl ?_
                  refine x_iload_n C dX7_callStatement_146 rfl ?_
                  refine x_aload_n C dX7_callStatement_147 rfl ?_
                  refine x_get (.int (q28.2.1 661 5)) C fl_X7_124 (C_Par hw) rfl dX7_callStatement_148 ?_
                  obtain ⟨q31, hq32, hF⟩ := bnd_e hF
                  refine x_goM (fun ls h => x_runV (As := [.int q7, .int (q12.2.1 661 5), .int (q20.2.1 661 5), .int (q28.2.1 661 5)]) [] h C ml_X7_191 (k_X5_newCall l D cA s0 z b q28.2 _ hG 334 q7 (q12.2.1 661 5) (q20.2.1 661 5) (q28.2.1 661 5) q31 hq32) ⟨rfl, rfl, nb rfl, nb rfl⟩ rfl (C_Led led334 hw) rfl ⟨rfl, hw⟩ (nb rfl) ⟨Nat.zero_le _, Nat.zero_le _⟩ dX7_callStatement_151) hS (xA_le hS) (fun H locs hw hz hk hS => ?_)
                  have hw : WC D cA s0 z b q31.2 H := hw
                  refine x_pop C dX7_callStatement_154 rfl ?_
                  refine x_iconst (1 : Int32) C dX7_callStatement_155 rfl ?_
                  exact x_zretM2 C rfl dX7_callStatement_156 rfl (rm_b1 hF) (rm_m (W := fun m => WC D cA s0 z b m _) hF hw) hS (nb rfl) (nb rfl)
                · have hF := ite_f hF (nbt c30)
                  refine x_iconst (0 : Int32) C dX7_callStatement_138 rfl ?_
                  exact x_zretM2 C rfl dX7_callStatement_139 rfl (rm_b0 hF) (rm_m (W := fun m => WC D cA s0 z b m _) hF hw) hS (nb rfl) (nb rfl)
            · have hF := ite_f hF (nbt c22)
              refine x_iconst (0 : Int32) C dX7_callStatement_111 rfl ?_
              exact x_zretM2 C rfl dX7_callStatement_112 rfl (rm_b0 hF) (rm_m (W := fun m => WC D cA s0 z b m _) hF hw) hS (nb rfl) (nb rfl)
        · have hF := ite_f hF (nbt c14)
          refine x_iconst (0 : Int32) C dX7_callStatement_81 rfl ?_
          exact x_zretM2 C rfl dX7_callStatement_82 rfl (rm_b0 hF) (rm_m (W := fun m => WC D cA s0 z b m _) hF hw) hS (nb rfl) (nb rfl)
      · have hF := ite_t hF c9
        refine x_aload_n C dX7_callStatement_60 rfl ?_
        refine x_iconst (3 : Int32) C dX7_callStatement_61 rfl ?_
        obtain ⟨q33, hq34, hF⟩ := bnd_e hF
        refine x_goM (fun ls h => x_runV (As := [.int (3 : Int32)]) [] h C ml_X7_50 (k_X7_fail l D cA s0 z b q2 _ hG (3 : Int32) q33 hq34) ⟨rfl, rfl, nb rfl, nb rfl⟩ rfl (C_Par hw) rfl ⟨rfl, hw⟩ (nb rfl) ⟨Nat.zero_le _, Nat.zero_le _⟩ dX7_callStatement_62) hS (xA_le hS) (fun H locs hw hz hk hS => ?_)
        have hw : WC D cA s0 z b q33.2 H := hw
        exact x_zretM2 C rfl dX7_callStatement_65 (bI_nar _) (rm_b hF) (rm_m (W := fun m => WC D cA s0 z b m _) hF hw) hS (nb rfl) (nb rfl)
    · have hF := ite_f hF (nbt c6)
      refine x_aload_n C dX7_callStatement_29 rfl ?_
      refine x_iconst (1 : Int32) C dX7_callStatement_30 rfl ?_
      obtain ⟨q35, hq36, hF⟩ := bnd_e hF
      refine x_goM (fun ls h => x_runV (As := [.int (1 : Int32)]) [] h C ml_X7_50 (k_X7_fail l D cA s0 z b q2 _ hG (1 : Int32) q35 hq36) ⟨rfl, rfl, nb rfl, nb rfl⟩ rfl (C_Par hw) rfl ⟨rfl, hw⟩ (nb rfl) ⟨Nat.zero_le _, Nat.zero_le _⟩ dX7_callStatement_31) hS (xA_le hS) (fun H locs hw hz hk hS => ?_)
      have hw : WC D cA s0 z b q35.2 H := hw
      exact x_zretM2 C rfl dX7_callStatement_34 (bI_nar _) (rm_b hF) (rm_m (W := fun m => WC D cA s0 z b m _) hF hw) hS (nb rfl) (nb rfl)
  · have hF := ite_f hF c1
    refine x_aload_n C dX7_callStatement_12 rfl ?_
    refine x_iconst (4 : Int32) C dX7_callStatement_13 rfl ?_
    obtain ⟨q37, hq38, hF⟩ := bnd_e hF
    refine x_goM (fun ls h => x_runV (As := [.int (4 : Int32)]) [] h C ml_X7_50 (k_X7_fail l D cA s0 z b ν _ hG (4 : Int32) q37 hq38) ⟨rfl, rfl, nb rfl, nb rfl⟩ rfl (C_Par hw) rfl ⟨rfl, hw⟩ (nb rfl) ⟨Nat.zero_le _, Nat.zero_le _⟩ dX7_callStatement_14) hS (xA_le hS) (fun H locs hw hz hk hS => ?_)
    have hw : WC D cA s0 z b q37.2 H := hw
    exact x_zretM2 C rfl dX7_callStatement_17 (bI_nar _) (rm_b hF) (rm_m (W := fun m => WC D cA s0 z b m _) hF hw) hS (nb rfl) (nb rfl)
noncomputable def g_X7_statement (ν : Mm) : Option (Bool × Mm) := bnd (g_X7_tokenIs ν 126879296744563) (fun q3 => (if q3 = true then bnd (g_X7_modeStatement ν false) (fun q69 => some (q69.1, q69.2)) else bnd (g_X7_tokenIs ν 1650551923) (fun q8 => (if q8 = true then bnd (g_X7_modeStatement ν true) (fun q67 => some (q67.1, q67.2)) else bnd (g_X7_tokenIs ν 1684955490) (fun q13 => (if q13 = true then bnd (g_X5_present ν 334) (fun q62 => asr (isTar q62) (bnd (g_X7_bandStatement ν q62) (fun q65 => some (q65.1, q65.2)))) else bnd (g_X7_tokenIs ν 111550524450162) (fun q18 => (if q18 = true then bnd (g_X5_present ν 334) (fun q57 => asr (isTar q57) (bnd (g_X7_rebateStatement ν q57) (fun q60 => some (q60.1, q60.2)))) else bnd (g_X7_tokenIs ν 435745415543) (fun q23 => (if q23 = true then bnd (g_X5_present ν 334) (fun q52 => asr (isTar q52) (bnd (g_X7_wasteStatement ν q52) (fun q55 => some (q55.1, q55.2)))) else bnd (g_X7_tokenIs ν 7954796) (fun q28 => (if q28 = true then bnd (g_X5_present ν 334) (fun q47 => asr (isTar q47) (bnd (g_X7_layStatement ν q47) (fun q50 => some (q50.1, q50.2)))) else bnd (g_X7_tokenIs ν 1885956211) (fun q33 => (if q33 = true then bnd (g_X7_shipStatement ν) (fun q45 => some (q45.1, q45.2)) else bnd (g_X7_tokenIs ν 1819042147) (fun q38 => (if q38 = true then bnd (g_X7_callStatement ν) (fun q43 => some (q43.1, q43.2)) else bnd (g_X7_fail ν (1 : Int32)) (fun q41 => some (q41.1, q41.2))))))))))))))))))
set_option maxRecDepth 20000 in
set_option maxHeartbeats 4000000 in
theorem k_X7_statement (l : Launch) (D : va_G) (cA : Nat → ClassId) (s0 : State) (z : Nat) (b : Nat) (ν : Mm) (sz : Nat) (hG : xG l D cA s0) (r : Bool × Mm) (hF : g_X7_statement ν = some r) : Met l yX7_statement (wsG yX7_statement cX7_statement 1 (some (FieldType.boolean))) { frames := 8, cells := 0, slots := 0, locals := 174 } (xP D cA s0 [.ref (b + 661)] (fun H => H.size = sz ∧ WC D cA s0 z b ν H)) (xQm (some (.int (bI r.1))) (fun H => WC D cA s0 z b r.2 H) (xA b 2628 sz)) 0 0 (xA b 2628 sz) := by
  refine x_start (own := RX7) [(0, .ref (b + 661))] rfl rfl (by decide) (nb rfl) ?_
  intro p e s m args below meth c C hw
  obtain ⟨hsz, hw⟩ := hw
  subst hsz
  have hS : va_S (xA b 2628 s.heap.size) s.heap s.heap [] := va_S.rf
  refine x_aload_n C dX7_statement_0 rfl ?_
  refine x_ldcS (z := z) 126879296744563 C hG.2.2.2 xl_X7_62 hw.2.2.2.1 dX7_statement_1 (fun ra1 hst2 => ?_)
  obtain ⟨q3, hq4, hF⟩ := bnd_e hF
  refine x_goR (fun ls h => x_runV (As := [.ref ra1]) [] h C ml_X7_64 (k_X7_tokenIs l D cA s0 z b ν hG ra1 126879296744563 q3 hq4) ⟨rfl, rfl, nb rfl, nb rfl⟩ rfl (C_Par hw) rfl ⟨hw, hst2⟩ (nb rfl) ⟨Nat.zero_le _, Nat.zero_le _⟩ dX7_statement_3) ?_
  refine x_ifB_eq 15 C dX7_statement_6 (by decide) (fun c5 => ?_) (fun c5 => ?_)
  · have hF := ite_f hF (nbt c5)
    refine x_aload_n C dX7_statement_15 rfl ?_
    refine x_ldcS (z := z) 1650551923 C hG.2.2.2 xl_X7_72 hw.2.2.2.1 dX7_statement_16 (fun ra6 hst7 => ?_)
    obtain ⟨q8, hq9, hF⟩ := bnd_e hF
    refine x_goR (fun ls h => x_runV (As := [.ref ra6]) [] h C ml_X7_64 (k_X7_tokenIs l D cA s0 z b ν hG ra6 1650551923 q8 hq9) ⟨rfl, rfl, nb rfl, nb rfl⟩ rfl (C_Par hw) rfl ⟨hw, hst7⟩ (nb rfl) ⟨Nat.zero_le _, Nat.zero_le _⟩ dX7_statement_18) ?_
    refine x_ifB_eq 30 C dX7_statement_21 (by decide) (fun c10 => ?_) (fun c10 => ?_)
    · have hF := ite_f hF (nbt c10)
      refine x_aload_n C dX7_statement_30 rfl ?_
      refine x_ldcS (z := z) 1684955490 C hG.2.2.2 xl_X7_74 hw.2.2.2.1 dX7_statement_31 (fun ra11 hst12 => ?_)
      obtain ⟨q13, hq14, hF⟩ := bnd_e hF
      refine x_goR (fun ls h => x_runV (As := [.ref ra11]) [] h C ml_X7_64 (k_X7_tokenIs l D cA s0 z b ν hG ra11 1684955490 q13 hq14) ⟨rfl, rfl, nb rfl, nb rfl⟩ rfl (C_Par hw) rfl ⟨hw, hst12⟩ (nb rfl) ⟨Nat.zero_le _, Nat.zero_le _⟩ dX7_statement_33) ?_
      refine x_ifB_eq 51 C dX7_statement_36 (by decide) (fun c15 => ?_) (fun c15 => ?_)
      · have hF := ite_f hF (nbt c15)
        refine x_aload_n C dX7_statement_51 rfl ?_
        refine x_ldcS (z := z) 111550524450162 C hG.2.2.2 xl_X7_84 hw.2.2.2.1 dX7_statement_52 (fun ra16 hst17 => ?_)
        obtain ⟨q18, hq19, hF⟩ := bnd_e hF
        refine x_goR (fun ls h => x_runV (As := [.ref ra16]) [] h C ml_X7_64 (k_X7_tokenIs l D cA s0 z b ν hG ra16 111550524450162 q18 hq19) ⟨rfl, rfl, nb rfl, nb rfl⟩ rfl (C_Par hw) rfl ⟨hw, hst17⟩ (nb rfl) ⟨Nat.zero_le _, Nat.zero_le _⟩ dX7_statement_54) ?_
        refine x_ifB_eq 72 C dX7_statement_57 (by decide) (fun c20 => ?_) (fun c20 => ?_)
        · have hF := ite_f hF (nbt c20)
          refine x_aload_n C dX7_statement_72 rfl ?_
          refine x_ldcS (z := z) 435745415543 C hG.2.2.2 xl_X7_89 hw.2.2.2.1 dX7_statement_73 (fun ra21 hst22 => ?_)
          obtain ⟨q23, hq24, hF⟩ := bnd_e hF
          refine x_goR (fun ls h => x_runV (As := [.ref ra21]) [] h C ml_X7_64 (k_X7_tokenIs l D cA s0 z b ν hG ra21 435745415543 q23 hq24) ⟨rfl, rfl, nb rfl, nb rfl⟩ rfl (C_Par hw) rfl ⟨hw, hst22⟩ (nb rfl) ⟨Nat.zero_le _, Nat.zero_le _⟩ dX7_statement_75) ?_
          refine x_ifB_eq 93 C dX7_statement_78 (by decide) (fun c25 => ?_) (fun c25 => ?_)
          · have hF := ite_f hF (nbt c25)
            refine x_aload_n C dX7_statement_93 rfl ?_
            refine x_ldcS (z := z) 7954796 C hG.2.2.2 xl_X7_94 hw.2.2.2.1 dX7_statement_94 (fun ra26 hst27 => ?_)
            obtain ⟨q28, hq29, hF⟩ := bnd_e hF
            refine x_goR (fun ls h => x_runV (As := [.ref ra26]) [] h C ml_X7_64 (k_X7_tokenIs l D cA s0 z b ν hG ra26 7954796 q28 hq29) ⟨rfl, rfl, nb rfl, nb rfl⟩ rfl (C_Par hw) rfl ⟨hw, hst27⟩ (nb rfl) ⟨Nat.zero_le _, Nat.zero_le _⟩ dX7_statement_96) ?_
            refine x_ifB_eq 114 C dX7_statement_99 (by decide) (fun c30 => ?_) (fun c30 => ?_)
            · have hF := ite_f hF (nbt c30)
              refine x_aload_n C dX7_statement_114 rfl ?_
              refine x_ldcS (z := z) 1885956211 C hG.2.2.2 xl_X7_99 hw.2.2.2.1 dX7_statement_115 (fun ra31 hst32 => ?_)
              obtain ⟨q33, hq34, hF⟩ := bnd_e hF
              refine x_goR (fun ls h => x_runV (As := [.ref ra31]) [] h C ml_X7_64 (k_X7_tokenIs l D cA s0 z b ν hG ra31 1885956211 q33 hq34) ⟨rfl, rfl, nb rfl, nb rfl⟩ rfl (C_Par hw) rfl ⟨hw, hst32⟩ (nb rfl) ⟨Nat.zero_le _, Nat.zero_le _⟩ dX7_statement_117) ?_
              refine x_ifB_eq 128 C dX7_statement_120 (by decide) (fun c35 => ?_) (fun c35 => ?_)
              · have hF := ite_f hF (nbt c35)
                refine x_aload_n C dX7_statement_128 rfl ?_
                refine x_ldcS (z := z) 1819042147 C hG.2.2.2 xl_X7_104 hw.2.2.2.1 dX7_statement_129 (fun ra36 hst37 => ?_)
                obtain ⟨q38, hq39, hF⟩ := bnd_e hF
                refine x_goR (fun ls h => x_runV (As := [.ref ra36]) [] h C ml_X7_64 (k_X7_tokenIs l D cA s0 z b ν hG ra36 1819042147 q38 hq39) ⟨rfl, rfl, nb rfl, nb rfl⟩ rfl (C_Par hw) rfl ⟨hw, hst37⟩ (nb rfl) ⟨Nat.zero_le _, Nat.zero_le _⟩ dX7_statement_131) ?_
                refine x_ifB_eq 142 C dX7_statement_134 (by decide) (fun c40 => ?_) (fun c40 => ?_)
                · have hF := ite_f hF (nbt c40)
                  refine x_aload_n C dX7_statement_142 rfl ?_
                  refine x_iconst (1 : Int32) C dX7_statement_143 rfl ?_
                  obtain ⟨q41, hq42, hF⟩ := bnd_e hF
                  refine x_goM (fun ls h => x_runV (As := [.int (1 : Int32)]) [] h C ml_X7_50 (k_X7_fail l D cA s0 z b ν _ hG (1 : Int32) q41 hq42) ⟨rfl, rfl, nb rfl, nb rfl⟩ rfl (C_Par hw) rfl ⟨rfl, hw⟩ (nb rfl) ⟨Nat.zero_le _, Nat.zero_le _⟩ dX7_statement_144) hS (xA_le hS) (fun H locs hw hz hk hS => ?_)
                  have hw : WC D cA s0 z b q41.2 H := hw
                  exact x_zretM2 C rfl dX7_statement_147 (bI_nar _) (rm_b hF) (rm_m (W := fun m => WC D cA s0 z b m _) hF hw) hS (nb rfl) (nb rfl)
                · have hF := ite_t hF c40
                  refine x_aload_n C dX7_statement_137 rfl ?_
                  obtain ⟨q43, hq44, hF⟩ := bnd_e hF
                  refine x_goM (fun ls h => x_runV (As := []) [] h C ml_X7_106 (k_X7_callStatement l D cA s0 z b ν _ hG q43 hq44) ⟨rfl, rfl, nb rfl, nb rfl⟩ rfl (C_Par hw) rfl ⟨rfl, hw⟩ (nb rfl) ⟨Nat.zero_le _, Nat.zero_le _⟩ dX7_statement_138) hS (xA_le hS) (fun H locs hw hz hk hS => ?_)
                  have hw : WC D cA s0 z b q43.2 H := hw
                  exact x_zretM2 C rfl dX7_statement_141 (bI_nar _) (rm_b hF) (rm_m (W := fun m => WC D cA s0 z b m _) hF hw) hS (nb rfl) (nb rfl)
              · have hF := ite_t hF c35
                refine x_aload_n C dX7_statement_123 rfl ?_
                obtain ⟨q45, hq46, hF⟩ := bnd_e hF
                refine x_goM (fun ls h => x_runV (As := []) [] h C ml_X7_101 (k_X7_shipStatement l D cA s0 z b ν _ hG q45 hq46) ⟨rfl, rfl, nb rfl, nb rfl⟩ rfl (C_Par hw) rfl ⟨rfl, hw⟩ (nb rfl) ⟨Nat.zero_le _, Nat.zero_le _⟩ dX7_statement_124) hS (xA_le hS) (fun H locs hw hz hk hS => ?_)
                have hw : WC D cA s0 z b q45.2 H := hw
                exact x_zretM2 C rfl dX7_statement_127 (bI_nar _) (rm_b hF) (rm_m (W := fun m => WC D cA s0 z b m _) hF hw) hS (nb rfl) (nb rfl)
            · have hF := ite_t hF c30
              refine x_aload_n C dX7_statement_102 rfl ?_
              refine x_aload_n C dX7_statement_103 rfl ?_
              refine x_get (.ref (b + 334)) C fl_X7_19 (C_Par hw) rfl dX7_statement_104 ?_
              obtain ⟨q47, hq48, hF⟩ := bnd_e hF
              refine x_goR (fun ls h => x_runV (As := []) [.ref (b + 661)] h C ml_X7_76 (k_X5_present l D cA s0 z b ν hG 334 q47 hq48) ⟨rfl, rfl, nb rfl, nb rfl⟩ rfl (C_Led led334 hw) rfl hw (nb rfl) ⟨Nat.zero_le _, Nat.zero_le _⟩ dX7_statement_107) ?_
              obtain ⟨h49, hF⟩ := asr_e hF
              obtain ⟨q50, hq51, hF⟩ := bnd_e hF
              refine x_goM (fun ls h => x_runV (As := [.ref (b + q47)]) [] h C ml_X7_96 (k_X7_layStatement l D cA s0 z b ν _ hG q47 q50 hq51) ⟨rfl, rfl, nb rfl, nb rfl⟩ rfl (C_Par hw) rfl ⟨rfl, hw⟩ (nb rfl) ⟨Nat.zero_le _, Nat.zero_le _⟩ dX7_statement_110) hS (xA_le hS) (fun H locs hw hz hk hS => ?_)
              have hw : WC D cA s0 z b q50.2 H := hw
              exact x_zretM2 C rfl dX7_statement_113 (bI_nar _) (rm_b hF) (rm_m (W := fun m => WC D cA s0 z b m _) hF hw) hS (nb rfl) (nb rfl)
          · have hF := ite_t hF c25
            refine x_aload_n C dX7_statement_81 rfl ?_
            refine x_aload_n C dX7_statement_82 rfl ?_
            refine x_get (.ref (b + 334)) C fl_X7_19 (C_Par hw) rfl dX7_statement_83 ?_
            obtain ⟨q52, hq53, hF⟩ := bnd_e hF
            refine x_goR (fun ls h => x_runV (As := []) [.ref (b + 661)] h C ml_X7_76 (k_X5_present l D cA s0 z b ν hG 334 q52 hq53) ⟨rfl, rfl, nb rfl, nb rfl⟩ rfl (C_Led led334 hw) rfl hw (nb rfl) ⟨Nat.zero_le _, Nat.zero_le _⟩ dX7_statement_86) ?_
            obtain ⟨h54, hF⟩ := asr_e hF
            obtain ⟨q55, hq56, hF⟩ := bnd_e hF
            refine x_goM (fun ls h => x_runV (As := [.ref (b + q52)]) [] h C ml_X7_91 (k_X7_wasteStatement l D cA s0 z b ν _ hG q52 q55 hq56) ⟨rfl, rfl, nb rfl, nb rfl⟩ rfl (C_Par hw) rfl ⟨rfl, hw⟩ (nb rfl) ⟨Nat.zero_le _, Nat.zero_le _⟩ dX7_statement_89) hS (xA_le hS) (fun H locs hw hz hk hS => ?_)
            have hw : WC D cA s0 z b q55.2 H := hw
            exact x_zretM2 C rfl dX7_statement_92 (bI_nar _) (rm_b hF) (rm_m (W := fun m => WC D cA s0 z b m _) hF hw) hS (nb rfl) (nb rfl)
        · have hF := ite_t hF c20
          refine x_aload_n C dX7_statement_60 rfl ?_
          refine x_aload_n C dX7_statement_61 rfl ?_
          refine x_get (.ref (b + 334)) C fl_X7_19 (C_Par hw) rfl dX7_statement_62 ?_
          obtain ⟨q57, hq58, hF⟩ := bnd_e hF
          refine x_goR (fun ls h => x_runV (As := []) [.ref (b + 661)] h C ml_X7_76 (k_X5_present l D cA s0 z b ν hG 334 q57 hq58) ⟨rfl, rfl, nb rfl, nb rfl⟩ rfl (C_Led led334 hw) rfl hw (nb rfl) ⟨Nat.zero_le _, Nat.zero_le _⟩ dX7_statement_65) ?_
          obtain ⟨h59, hF⟩ := asr_e hF
          obtain ⟨q60, hq61, hF⟩ := bnd_e hF
          refine x_goM (fun ls h => x_runV (As := [.ref (b + q57)]) [] h C ml_X7_86 (k_X7_rebateStatement l D cA s0 z b ν _ hG q57 q60 hq61) ⟨rfl, rfl, nb rfl, nb rfl⟩ rfl (C_Par hw) rfl ⟨rfl, hw⟩ (nb rfl) ⟨Nat.zero_le _, Nat.zero_le _⟩ dX7_statement_68) hS (xA_le hS) (fun H locs hw hz hk hS => ?_)
          have hw : WC D cA s0 z b q60.2 H := hw
          exact x_zretM2 C rfl dX7_statement_71 (bI_nar _) (rm_b hF) (rm_m (W := fun m => WC D cA s0 z b m _) hF hw) hS (nb rfl) (nb rfl)
      · have hF := ite_t hF c15
        refine x_aload_n C dX7_statement_39 rfl ?_
        refine x_aload_n C dX7_statement_40 rfl ?_
        refine x_get (.ref (b + 334)) C fl_X7_19 (C_Par hw) rfl dX7_statement_41 ?_
        obtain ⟨q62, hq63, hF⟩ := bnd_e hF
        refine x_goR (fun ls h => x_runV (As := []) [.ref (b + 661)] h C ml_X7_76 (k_X5_present l D cA s0 z b ν hG 334 q62 hq63) ⟨rfl, rfl, nb rfl, nb rfl⟩ rfl (C_Led led334 hw) rfl hw (nb rfl) ⟨Nat.zero_le _, Nat.zero_le _⟩ dX7_statement_44) ?_
        obtain ⟨h64, hF⟩ := asr_e hF
        obtain ⟨q65, hq66, hF⟩ := bnd_e hF
        refine x_goM (fun ls h => x_runV (As := [.ref (b + q62)]) [] h C ml_X7_80 (k_X7_bandStatement l D cA s0 z b ν _ hG q62 q65 hq66) ⟨rfl, rfl, nb rfl, nb rfl⟩ rfl (C_Par hw) rfl ⟨rfl, hw⟩ (nb rfl) ⟨Nat.zero_le _, Nat.zero_le _⟩ dX7_statement_47) hS (xA_le hS) (fun H locs hw hz hk hS => ?_)
        have hw : WC D cA s0 z b q65.2 H := hw
        exact x_zretM2 C rfl dX7_statement_50 (bI_nar _) (rm_b hF) (rm_m (W := fun m => WC D cA s0 z b m _) hF hw) hS (nb rfl) (nb rfl)
    · have hF := ite_t hF c10
      refine x_aload_n C dX7_statement_24 rfl ?_
      refine x_iconst (1 : Int32) C dX7_statement_25 rfl ?_
      obtain ⟨q67, hq68, hF⟩ := bnd_e hF
      refine x_goM (fun ls h => x_runV (As := [.int (bI true)]) [] h C ml_X7_68 (k_X7_modeStatement l D cA s0 z b ν _ hG true q67 hq68) ⟨rfl, rfl, nb rfl, nb rfl⟩ rfl (C_Par hw) rfl ⟨rfl, hw⟩ (nb rfl) ⟨Nat.zero_le _, Nat.zero_le _⟩ dX7_statement_26) hS (xA_le hS) (fun H locs hw hz hk hS => ?_)
      have hw : WC D cA s0 z b q67.2 H := hw
      exact x_zretM2 C rfl dX7_statement_29 (bI_nar _) (rm_b hF) (rm_m (W := fun m => WC D cA s0 z b m _) hF hw) hS (nb rfl) (nb rfl)
  · have hF := ite_t hF c5
    refine x_aload_n C dX7_statement_9 rfl ?_
    refine x_iconst (0 : Int32) C dX7_statement_10 rfl ?_
    obtain ⟨q69, hq70, hF⟩ := bnd_e hF
    refine x_goM (fun ls h => x_runV (As := [.int (bI false)]) [] h C ml_X7_68 (k_X7_modeStatement l D cA s0 z b ν _ hG false q69 hq70) ⟨rfl, rfl, nb rfl, nb rfl⟩ rfl (C_Par hw) rfl ⟨rfl, hw⟩ (nb rfl) ⟨Nat.zero_le _, Nat.zero_le _⟩ dX7_statement_11) hS (xA_le hS) (fun H locs hw hz hk hS => ?_)
    have hw : WC D cA s0 z b q69.2 H := hw
    exact x_zretM2 C rfl dX7_statement_14 (bI_nar _) (rm_b hF) (rm_m (W := fun m => WC D cA s0 z b m _) hF hw) hS (nb rfl) (nb rfl)
noncomputable def g_X7_symbol (ν : Mm) (a1 : Int32) : Option (Bool × Mm) := (if (ν.1 661 2) = (3 : Int32) then bnd (g_X1_byteAt ν 1 (ν.1 661 3)) (fun q4 => (if q4 = a1 then bnd (g_X7_readToken ν) (fun q7 => some (true, q7)) else bnd (g_X7_fail ν (1 : Int32)) (fun q9 => some (q9.1, q9.2)))) else bnd (g_X7_fail ν (1 : Int32)) (fun q2 => some (q2.1, q2.2)))
set_option maxRecDepth 20000 in
set_option maxHeartbeats 4000000 in
theorem k_X7_symbol (l : Launch) (D : va_G) (cA : Nat → ClassId) (s0 : State) (z : Nat) (b : Nat) (ν : Mm) (sz : Nat) (hG : xG l D cA s0) (a1 : Int32) (r : Bool × Mm) (hF : g_X7_symbol ν a1 = some r) : Met l yX7_symbol (wsG yX7_symbol cX7_symbol 2 (some (FieldType.boolean))) { frames := 3, cells := 0, slots := 0, locals := 63 } (xP D cA s0 [.ref (b + 661), .int a1] (fun H => H.size = sz ∧ WC D cA s0 z b ν H)) (xQm (some (.int (bI r.1))) (fun H => WC D cA s0 z b r.2 H) (xA b 2628 sz)) 0 0 (xA b 2628 sz) := by
  refine x_start (own := RX7) [(0, .ref (b + 661)), (1, .int a1)] rfl rfl (by decide) (nb rfl) ?_
  intro p e s m args below meth c C hw
  obtain ⟨hsz, hw⟩ := hw
  subst hsz
  have hS : va_S (xA b 2628 s.heap.size) s.heap s.heap [] := va_S.rf
  refine x_aload_n C dX7_symbol_0 rfl ?_
  refine x_get (.int (ν.1 661 2)) C fl_X7_47 (C_Par hw) rfl dX7_symbol_1 ?_
  refine x_iconst (3 : Int32) C dX7_symbol_4 rfl ?_
  refine x_icmp_ne 23 C dX7_symbol_5 (by decide) (fun c1 => ?_) (fun c1 => ?_)
  · have hF := ite_f hF c1
    refine x_aload_n C dX7_symbol_23 rfl ?_
    refine x_iconst (1 : Int32) C dX7_symbol_24 rfl ?_
    obtain ⟨q2, hq3, hF⟩ := bnd_e hF
    refine x_goM (fun ls h => x_runV (As := [.int (1 : Int32)]) [] h C ml_X7_50 (k_X7_fail l D cA s0 z b ν _ hG (1 : Int32) q2 hq3) ⟨rfl, rfl, nb rfl, nb rfl⟩ rfl (C_Par hw) rfl ⟨rfl, hw⟩ (nb rfl) ⟨Nat.zero_le _, Nat.zero_le _⟩ dX7_symbol_25) hS (xA_le hS) (fun H locs hw hz hk hS => ?_)
    have hw : WC D cA s0 z b q2.2 H := hw
    exact x_zretM2 C rfl dX7_symbol_28 (bI_nar _) (rm_b hF) (rm_m (W := fun m => WC D cA s0 z b m _) hF hw) hS (nb rfl) (nb rfl)
  · have hF := ite_t hF c1
    refine x_aload_n C dX7_symbol_8 rfl ?_
    refine x_get (.ref (b + 1)) C fl_X7_15 (C_Par hw) rfl dX7_symbol_9 ?_
    refine x_aload_n C dX7_symbol_12 rfl ?_
    refine x_get (.int (ν.1 661 3)) C fl_X7_173 (C_Par hw) rfl dX7_symbol_13 ?_
    obtain ⟨q4, hq5, hF⟩ := bnd_e hF
    refine x_goR (fun ls h => x_runV (As := [.int (ν.1 661 3)]) [] h C ml_X7_195 (k_X1_byteAt l D cA s0 z b ν hG 1 (ν.1 661 3) q4 hq5) ⟨rfl, rfl, nb rfl, nb rfl⟩ rfl (C_Byt byt1 hw) rfl hw (nb rfl) ⟨Nat.zero_le _, Nat.zero_le _⟩ dX7_symbol_16) ?_
    refine x_iload_n C dX7_symbol_19 rfl ?_
    refine x_icmp_eq 29 C dX7_symbol_20 (by decide) (fun c6 => ?_) (fun c6 => ?_)
    · have hF := ite_t hF c6
      refine x_aload_n C dX7_symbol_29 rfl ?_
      obtain ⟨q7, hq8, hF⟩ := bnd_e hF
      refine x_goM (fun ls h => x_runV (As := []) [] h C ml_X7_44 (k_X7_readToken l D cA s0 z b ν _ hG q7 hq8) ⟨rfl, rfl, nb rfl, nb rfl⟩ rfl (C_Par hw) rfl ⟨rfl, hw⟩ (nb rfl) ⟨Nat.zero_le _, Nat.zero_le _⟩ dX7_symbol_30) hS (xA_le hS) (fun H locs hw hz hk hS => ?_)
      have hw : WC D cA s0 z b q7 H := hw
      refine x_iconst (1 : Int32) C dX7_symbol_33 rfl ?_
      exact x_zretM2 C rfl dX7_symbol_34 rfl (rm_b1 hF) (rm_m (W := fun m => WC D cA s0 z b m _) hF hw) hS (nb rfl) (nb rfl)
    · have hF := ite_f hF c6
      refine x_aload_n C dX7_symbol_23 rfl ?_
      refine x_iconst (1 : Int32) C dX7_symbol_24 rfl ?_
      obtain ⟨q9, hq10, hF⟩ := bnd_e hF
      refine x_goM (fun ls h => x_runV (As := [.int (1 : Int32)]) [] h C ml_X7_50 (k_X7_fail l D cA s0 z b ν _ hG (1 : Int32) q9 hq10) ⟨rfl, rfl, nb rfl, nb rfl⟩ rfl (C_Par hw) rfl ⟨rfl, hw⟩ (nb rfl) ⟨Nat.zero_le _, Nat.zero_le _⟩ dX7_symbol_25) hS (xA_le hS) (fun H locs hw hz hk hS => ?_)
      have hw : WC D cA s0 z b q9.2 H := hw
      exact x_zretM2 C rfl dX7_symbol_28 (bI_nar _) (rm_b hF) (rm_m (W := fun m => WC D cA s0 z b m _) hF hw) hS (nb rfl) (nb rfl)
noncomputable def g_X7_parseText_L56 (ν : Mm) : Nat → Mm → Int32 → Option (Bool × Mm)
  | 0, _, _ => none
  | n + 1, μ0, x1 => (if (800 : Int32) ≤ x1 then some (true, μ0) else (if (μ0.1 661 2) = 0 then some (true, μ0) else bnd (g_X7_statement μ0) (fun q20 => (if q20.1 = true then bnd (g_X7_symbol q20.2 (59 : Int32)) (fun q23 => (if q23.1 = true then (g_X7_parseText_L56 ν n q23.2 (x1 + (1 : Int32))) else some (false, q23.2))) else some (false, q20.2)))))
noncomputable def g_X7_parseText (ν : Mm) : Option (Bool × Mm) := bnd (g_X5_clear ν 334) (fun q1 => bnd (some (uI q1 661 6 (0 : Int32))) (fun μ3 => bnd (some (uI μ3 661 7 (0 : Int32))) (fun μ5 => bnd (some (uI μ5 661 8 (0 : Int32))) (fun μ7 => bnd (some (uI μ7 661 9 (0 : Int32))) (fun μ9 => bnd (some (uI μ9 661 10 (-1 : Int32))) (fun μ11 => bnd (some (uI μ11 661 4 (0 : Int32))) (fun μ13 => bnd (g_X7_readToken μ13) (fun q15 => (if (q15.1 661 2) = 0 then bnd (g_X7_fail q15 (1 : Int32)) (fun q26 => some (q26.1, q26.2)) else (g_X7_parseText_L56 ν 45 q15 (0 : Int32)))))))))))
set_option maxRecDepth 20000 in
set_option maxHeartbeats 4000000 in
theorem k_X7_parseText (l : Launch) (D : va_G) (cA : Nat → ClassId) (s0 : State) (z : Nat) (b : Nat) (ν : Mm) (sz : Nat) (hG : xG l D cA s0) (r : Bool × Mm) (hF : g_X7_parseText ν = some r) : Met l yX7_parseText (wsG yX7_parseText cX7_parseText 2 (some (FieldType.boolean))) { frames := 9, cells := 0, slots := 0, locals := 194 } (xP D cA s0 [.ref (b + 661)] (fun H => H.size = sz ∧ WC D cA s0 z b ν H)) (xQm (some (.int (bI r.1))) (fun H => WC D cA s0 z b r.2 H) (xA b 2628 sz)) 0 0 (xA b 2628 sz) := by
  refine x_start (own := RX7) [(0, .ref (b + 661))] rfl rfl (by decide) (nb rfl) ?_
  intro p e s m args below meth c C hw
  obtain ⟨hsz, hw⟩ := hw
  subst hsz
  have hS : va_S (xA b 2628 s.heap.size) s.heap s.heap [] := va_S.rf
  have h_L56 : ∀ (n : Nat) (μ0 : Mm) (x1 : Int32) (H : Heap) (locs : List Loc) (hw : WC D cA s0 z b μ0 H) (hS : va_S (xA b 2628 s.heap.size) s.heap H locs), g_X7_parseText_L56 ν n μ0 x1 = some r → xW p l e { frames := 9, cells := 0, slots := 0, locals := 194 } s m args below meth c 2 (MQ below (xQm (some (.int (bI r.1))) (fun H => WC D cA s0 z b r.2 H) (xA b 2628 s.heap.size)) args s 0 0 (xA b 2628 s.heap.size)) H locs 0 0 56 [(0, .ref (b + 661)), (1, .int x1)] [] := by
    intro n
    induction n with
    | zero =>
      intro μ0 x1 H locs hw hS hF
      exact no_some hF
    | succ n ih =>
      intro μ0 x1 H locs hw hS hF
      have ih56 := ih
      refine x_iload_n C dX7_parseText_56 rfl ?_
      refine x_sipush (800 : Int32) C dX7_parseText_57 rfl ?_
      refine x_icmp_ge 94 C dX7_parseText_60 (by decide) (fun c18 => ?_) (fun c18 => ?_)
      · have hF := ite_t hF c18
        refine x_iconst (1 : Int32) C dX7_parseText_94 rfl ?_
        exact x_zretM2 C rfl dX7_parseText_95 rfl (rm_b1 hF) (rm_m (W := fun m => WC D cA s0 z b m _) hF hw) hS (nb rfl) (nb rfl)
      · have hF := ite_f hF c18
        refine x_aload_n C dX7_parseText_63 rfl ?_
        refine x_get (.int (μ0.1 661 2)) C fl_X7_47 (C_Par hw) rfl dX7_parseText_64 ?_
        refine x_if_eq 94 C dX7_parseText_67 (by decide) (fun c19 => ?_) (fun c19 => ?_)
        · have hF := ite_t hF c19
          refine x_iconst (1 : Int32) C dX7_parseText_94 rfl ?_
          exact x_zretM2 C rfl dX7_parseText_95 rfl (rm_b1 hF) (rm_m (W := fun m => WC D cA s0 z b m _) hF hw) hS (nb rfl) (nb rfl)
        · have hF := ite_f hF c19
          refine x_aload_n C dX7_parseText_70 rfl ?_
          obtain ⟨q20, hq21, hF⟩ := bnd_e hF
          refine x_goM (fun ls h => x_runV (As := []) [] h C ml_X7_54 (k_X7_statement l D cA s0 z b μ0 _ hG q20 hq21) ⟨rfl, rfl, nb rfl, nb rfl⟩ rfl (C_Par hw) rfl ⟨rfl, hw⟩ (nb rfl) ⟨Nat.zero_le _, Nat.zero_le _⟩ dX7_parseText_71) hS (xA_le hS) (fun H locs hw hz hk hS => ?_)
          have hw : WC D cA s0 z b q20.2 H := hw
          refine x_ifB_eq 86 C dX7_parseText_74 (by decide) (fun c22 => ?_) (fun c22 => ?_)
          · have hF := ite_f hF (nbt c22)
            refine x_iconst (0 : Int32) C dX7_parseText_86 rfl ?_
            exact x_zretM2 C rfl dX7_parseText_87 rfl (rm_b0 hF) (rm_m (W := fun m => WC D cA s0 z b m _) hF hw) hS (nb rfl) (nb rfl)
          · have hF := ite_t hF c22
            refine x_aload_n C dX7_parseText_77 rfl ?_
            refine x_bipush (59 : Int32) C dX7_parseText_78 rfl ?_
            obtain ⟨q23, hq24, hF⟩ := bnd_e hF
            refine x_goM (fun ls h => x_runV (As := [.int (59 : Int32)]) [] h C ml_X7_58 (k_X7_symbol l D cA s0 z b q20.2 _ hG (59 : Int32) q23 hq24) ⟨rfl, rfl, nb rfl, nb rfl⟩ rfl (C_Par hw) rfl ⟨rfl, hw⟩ (nb rfl) ⟨Nat.zero_le _, Nat.zero_le _⟩ dX7_parseText_80) hS (xA_le hS) (fun H locs hw hz hk hS => ?_)
            have hw : WC D cA s0 z b q23.2 H := hw
            refine x_ifB_ne 88 C dX7_parseText_83 (by decide) (fun c25 => ?_) (fun c25 => ?_)
            · have hF := ite_t hF c25
              refine x_iinc (x1 + (1 : Int32)) [(1, .int (x1 + (1 : Int32))), (0, .ref (b + 661))] C dX7_parseText_88 rfl rfl (by decide) rfl ?_
              refine x_goto 56 C dX7_parseText_91 (by decide) ?_
              refine x_sub [(0, .ref (b + 661)), (1, .int (x1 + (1 : Int32)))] [1, 0] rfl ?_
              exact ih56 q23.2 (x1 + (1 : Int32)) _ _ hw hS hF
            · have hF := ite_f hF (nbt c25)
              refine x_iconst (0 : Int32) C dX7_parseText_86 rfl ?_
              exact x_zretM2 C rfl dX7_parseText_87 rfl (rm_b0 hF) (rm_m (W := fun m => WC D cA s0 z b m _) hF hw) hS (nb rfl) (nb rfl)
  refine x_aload_n C dX7_parseText_0 rfl ?_
  refine x_get (.ref (b + 334)) C fl_X7_19 (C_Par hw) rfl dX7_parseText_1 ?_
  obtain ⟨q1, hq2, hF⟩ := bnd_e hF
  refine x_goM (fun ls h => x_runV (As := []) [] h C ml_X7_23 (k_X5_clear l D cA s0 z b ν _ hG 334 q1 hq2) ⟨rfl, rfl, nb rfl, nb rfl⟩ rfl (C_Led led334 hw) rfl ⟨rfl, hw⟩ (nb rfl) ⟨Nat.zero_le _, Nat.zero_le _⟩ dX7_parseText_4) hS (xA_le hS) (fun H locs hw hz hk hS => ?_)
  have hw : WC D cA s0 z b q1 H := hw
  refine x_aload_n C dX7_parseText_7 rfl ?_
  refine x_iconst (0 : Int32) C dX7_parseText_8 rfl ?_
  refine y_putZ (kk0 := 6) 661 C fl_X7_28 hw (by decide) (fun nm => S_Par) (fun nm => S_Par) rfl rfl rfl (fun _ => nb rfl) dX7_parseText_9 hS (xA_in (by decide)) (fun H locs hw hS => ?_)
  obtain ⟨μ3, hm4, hF⟩ := bnd_e hF
  have hw : WC D cA s0 z b μ3 H := rv_m (W := fun m => WC D cA s0 z b m _) hm4 hw
  refine x_aload_n C dX7_parseText_12 rfl ?_
  refine x_iconst (0 : Int32) C dX7_parseText_13 rfl ?_
  refine y_putZ (kk0 := 7) 661 C fl_X7_32 hw (by decide) (fun nm => S_Par) (fun nm => S_Par) rfl rfl rfl (fun _ => nb rfl) dX7_parseText_14 hS (xA_in (by decide)) (fun H locs hw hS => ?_)
  obtain ⟨μ5, hm6, hF⟩ := bnd_e hF
  have hw : WC D cA s0 z b μ5 H := rv_m (W := fun m => WC D cA s0 z b m _) hm6 hw
  refine x_aload_n C dX7_parseText_17 rfl ?_
  refine x_iconst (0 : Int32) C dX7_parseText_18 rfl ?_
  refine y_putZ (kk0 := 8) 661 C fl_X7_35 hw (by decide) (fun nm => S_Par) (fun nm => S_Par) rfl rfl rfl (fun _ => nb rfl) dX7_parseText_19 hS (xA_in (by decide)) (fun H locs hw hS => ?_)
  obtain ⟨μ7, hm8, hF⟩ := bnd_e hF
  have hw : WC D cA s0 z b μ7 H := rv_m (W := fun m => WC D cA s0 z b m _) hm8 hw
  refine x_aload_n C dX7_parseText_22 rfl ?_
  refine x_iconst (0 : Int32) C dX7_parseText_23 rfl ?_
  refine y_putI (kk0 := 9) 661 C fl_X7_38 hw (by decide) (fun nm => S_Par) (fun nm => S_Par) rfl rfl (fun _ => nb rfl) dX7_parseText_24 hS (xA_in (by decide)) (fun H locs hw hS => ?_)
  obtain ⟨μ9, hm10, hF⟩ := bnd_e hF
  have hw : WC D cA s0 z b μ9 H := rv_m (W := fun m => WC D cA s0 z b m _) hm10 hw
  refine x_aload_n C dX7_parseText_27 rfl ?_
  refine x_iconst (-1 : Int32) C dX7_parseText_28 rfl ?_
  refine y_putI (kk0 := 10) 661 C fl_X7_9 hw (by decide) (fun nm => S_Par) (fun nm => S_Par) rfl rfl (fun _ => nb rfl) dX7_parseText_29 hS (xA_in (by decide)) (fun H locs hw hS => ?_)
  obtain ⟨μ11, hm12, hF⟩ := bnd_e hF
  have hw : WC D cA s0 z b μ11 H := rv_m (W := fun m => WC D cA s0 z b m _) hm12 hw
  refine x_aload_n C dX7_parseText_32 rfl ?_
  refine x_iconst (0 : Int32) C dX7_parseText_33 rfl ?_
  refine y_putI (kk0 := 4) 661 C fl_X7_41 hw (by decide) (fun nm => S_Par) (fun nm => S_Par) rfl rfl (fun _ => nb rfl) dX7_parseText_34 hS (xA_in (by decide)) (fun H locs hw hS => ?_)
  obtain ⟨μ13, hm14, hF⟩ := bnd_e hF
  have hw : WC D cA s0 z b μ13 H := rv_m (W := fun m => WC D cA s0 z b m _) hm14 hw
  refine x_aload_n C dX7_parseText_37 rfl ?_
  obtain ⟨q15, hq16, hF⟩ := bnd_e hF
  refine x_goM (fun ls h => x_runV (As := []) [] h C ml_X7_44 (k_X7_readToken l D cA s0 z b μ13 _ hG q15 hq16) ⟨rfl, rfl, nb rfl, nb rfl⟩ rfl (C_Par hw) rfl ⟨rfl, hw⟩ (nb rfl) ⟨Nat.zero_le _, Nat.zero_le _⟩ dX7_parseText_38) hS (xA_le hS) (fun H locs hw hz hk hS => ?_)
  have hw : WC D cA s0 z b q15 H := hw
  refine x_aload_n C dX7_parseText_41 rfl ?_
  refine x_get (.int (q15.1 661 2)) C fl_X7_47 (C_Par hw) rfl dX7_parseText_42 ?_
  refine x_if_ne 54 C dX7_parseText_45 (by decide) (fun c17 => ?_) (fun c17 => ?_)
  · have hF := ite_f hF c17
    refine x_iconst (0 : Int32) C dX7_parseText_54 rfl ?_
    refine x_istore_n [(1, .int (0 : Int32)), (0, .ref (b + 661))] C dX7_parseText_55 rfl (by decide) rfl ?_
    refine x_sub [(0, .ref (b + 661)), (1, .int (0 : Int32))] [1, 0] rfl ?_
    exact h_L56 45 q15 (0 : Int32) _ _ hw hS hF
  · have hF := ite_t hF c17
    refine x_aload_n C dX7_parseText_48 rfl ?_
    refine x_iconst (1 : Int32) C dX7_parseText_49 rfl ?_
    obtain ⟨q26, hq27, hF⟩ := bnd_e hF
    refine x_goM (fun ls h => x_runV (As := [.int (1 : Int32)]) [] h C ml_X7_50 (k_X7_fail l D cA s0 z b q15 _ hG (1 : Int32) q26 hq27) ⟨rfl, rfl, nb rfl, nb rfl⟩ rfl (C_Par hw) rfl ⟨rfl, hw⟩ (nb rfl) ⟨Nat.zero_le _, Nat.zero_le _⟩ dX7_parseText_50) hS (xA_le hS) (fun H locs hw hz hk hS => ?_)
    have hw : WC D cA s0 z b q26.2 H := hw
    exact x_zretM2 C rfl dX7_parseText_53 (bI_nar _) (rm_b hF) (rm_m (W := fun m => WC D cA s0 z b m _) hF hw) hS (nb rfl) (nb rfl)
noncomputable def g_X8_shipName_L2 (ν : Mm) (a1 : Nat) : Nat → Mm → Int32 → Option (Mm)
  | 0, _, _ => none
  | n + 1, μ0, x2 => (if (μ0.1 a1 1) ≤ x2 then some μ0 else asr (vp_in x2 6) (bnd (g_X1_put μ0 4 (vp_nar .byte (μ0.1 (a1 + 1) (cl x2)))) (fun q5 => (g_X8_shipName_L2 ν a1 n q5 (x2 + (1 : Int32))))))
noncomputable def g_X8_shipName (ν : Mm) (a1 : Nat) : Option (Mm) := asr (isShip a1) ((g_X8_shipName_L2 ν a1 10000 ν (0 : Int32)))
set_option maxRecDepth 20000 in
set_option maxHeartbeats 4000000 in
theorem k_X8_shipName (l : Launch) (D : va_G) (cA : Nat → ClassId) (s0 : State) (z : Nat) (b : Nat) (ν : Mm) (sz : Nat) (hG : xG l D cA s0) (a1 : Nat) (r : Mm) (hF : g_X8_shipName ν a1 = some r) : Met l yX8_shipName (wsG yX8_shipName cX8_shipName 3 none) { frames := 1, cells := 0, slots := 0, locals := 21 } (xP D cA s0 [.ref (b + 2627), .ref (b + a1)] (fun H => H.size = sz ∧ WC D cA s0 z b ν H)) (xQm none (fun H => WC D cA s0 z b r H) (xA b 2628 sz)) 0 0 (xA b 2628 sz) := by
  refine x_start (own := RX8) [(0, .ref (b + 2627)), (1, .ref (b + a1))] rfl rfl (by decide) (nb rfl) ?_
  intro p e s m args below meth c C hw
  obtain ⟨hsz, hw⟩ := hw
  subst hsz
  have hS : va_S (xA b 2628 s.heap.size) s.heap s.heap [] := va_S.rf
  obtain ⟨hpa1, hF⟩ := asr_e hF
  have h_L2 : ∀ (n : Nat) (μ0 : Mm) (x2 : Int32) (H : Heap) (locs : List Loc) (hw : WC D cA s0 z b μ0 H) (hS : va_S (xA b 2628 s.heap.size) s.heap H locs), g_X8_shipName_L2 ν a1 n μ0 x2 = some r → xW p l e { frames := 1, cells := 0, slots := 0, locals := 21 } s m args below meth c 3 (MQ below (xQm none (fun H => WC D cA s0 z b r H) (xA b 2628 s.heap.size)) args s 0 0 (xA b 2628 s.heap.size)) H locs 0 0 2 [(0, .ref (b + 2627)), (1, .ref (b + a1)), (2, .int x2)] [] := by
    intro n
    induction n with
    | zero =>
      intro μ0 x2 H locs hw hS hF
      exact no_some hF
    | succ n ih =>
      intro μ0 x2 H locs hw hS hF
      have ih2 := ih
      refine x_iload_n C dX8_shipName_2 rfl ?_
      refine x_aload_n C dX8_shipName_3 rfl ?_
      refine x_get (.int (μ0.1 a1 1)) C fl_X8_238 (C_Ship hpa1 hw) rfl dX8_shipName_4 ?_
      refine x_icmp_ge 29 C dX8_shipName_7 (by decide) (fun c1 => ?_) (fun c1 => ?_)
      · have hF := ite_t hF c1
        exact x_vretM2 C rfl dX8_shipName_29 rfl (rv_m (W := fun m => WC D cA s0 z b m _) hF hw) hS (nb rfl) (nb rfl)
      · have hF := ite_f hF c1
        refine x_aload_n C dX8_shipName_10 rfl ?_
        refine x_get (.ref (b + 4)) C fl_X8_19 (C_Rep hw) rfl dX8_shipName_11 ?_
        refine x_aload_n C dX8_shipName_14 rfl ?_
        refine x_get (.ref (b + (a1 + 1))) C fl_X8_243 (C_Ship hpa1 hw) rfl dX8_shipName_15 ?_
        refine x_iload_n C dX8_shipName_18 rfl ?_
        obtain ⟨h2, hF⟩ := asr_e hF
        obtain ⟨hn3, hl4⟩ := vpn h2 (by decide)
        refine x_baldN C (C_name hpa1 hw) hn3 hl4 (by decide) dX8_shipName_19 ?_
        obtain ⟨q5, hq6, hF⟩ := bnd_e hF
        refine x_goM (fun ls h => x_runV (As := [.int (vp_nar .byte (μ0.1 (a1 + 1) (cl x2)))]) [] h C ml_X8_39 (k_X1_put l D cA s0 z b μ0 _ hG 4 (vp_nar .byte (μ0.1 (a1 + 1) (cl x2))) q5 hq6) ⟨rfl, rfl, nb rfl, nb rfl⟩ rfl (C_Byt byt4 hw) rfl ⟨rfl, hw⟩ (nb rfl) ⟨Nat.zero_le _, Nat.zero_le _⟩ dX8_shipName_20) hS (xA_le hS) (fun H locs hw hz hk hS => ?_)
        have hw : WC D cA s0 z b q5 H := hw
        refine x_iinc (x2 + (1 : Int32)) [(2, .int (x2 + (1 : Int32))), (0, .ref (b + 2627)), (1, .ref (b + a1))] C dX8_shipName_23 rfl rfl (by decide) rfl ?_
        refine x_goto 2 C dX8_shipName_26 (by decide) ?_
        refine x_sub [(0, .ref (b + 2627)), (1, .ref (b + a1)), (2, .int (x2 + (1 : Int32)))] [1, 2, 0] rfl ?_
        exact ih2 q5 (x2 + (1 : Int32)) _ _ hw hS hF
  refine x_iconst (0 : Int32) C dX8_shipName_0 rfl ?_
  refine x_istore_n [(2, .int (0 : Int32)), (0, .ref (b + 2627)), (1, .ref (b + a1))] C dX8_shipName_1 rfl (by decide) rfl ?_
  refine x_sub [(0, .ref (b + 2627)), (1, .ref (b + a1)), (2, .int (0 : Int32))] [1, 2, 0] rfl ?_
  exact h_L2 10000 ν (0 : Int32) _ _ hw hS hF
noncomputable def g_X8_wordAndNumber (ν : Mm) (a1 : Nat) (a2 : Int64) : Option (Mm) := bnd (g_X1_putText ν 4 a1) (fun q1 => bnd (g_X1_putNumber q1 4 a2) (fun q3 => some q3))
set_option maxRecDepth 20000 in
set_option maxHeartbeats 4000000 in
theorem k_X8_wordAndNumber (l : Launch) (D : va_G) (cA : Nat → ClassId) (s0 : State) (z : Nat) (b : Nat) (ν : Mm) (sz : Nat) (hG : xG l D cA s0) (a1r : Nat) (a1 : Nat) (a2 : Int64) (r : Mm) (hF : g_X8_wordAndNumber ν a1 a2 = some r) : Met l yX8_wordAndNumber (wsG yX8_wordAndNumber cX8_wordAndNumber 4 none) { frames := 5, cells := 0, slots := 0, locals := 107 } (xP D cA s0 [.ref (b + 2627), .ref a1r, .long a2] (fun H => H.size = sz ∧ WC D cA s0 z b ν H ∧ Str D cA s0 z a1r a1 H)) (xQm none (fun H => WC D cA s0 z b r H) (xA b 2628 sz)) 0 0 (xA b 2628 sz) := by
  refine x_start (own := RX8) [(0, .ref (b + 2627)), (1, .ref a1r), (2, .long a2)] rfl rfl (by decide) (nb rfl) ?_
  intro p e s m args below meth c C hw
  obtain ⟨hsz, hw, hst0_a1⟩ := hw
  subst hsz
  have hS : va_S (xA b 2628 s.heap.size) s.heap s.heap [] := va_S.rf
  refine x_aload_n C dX8_wordAndNumber_0 rfl ?_
  refine x_get (.ref (b + 4)) C fl_X8_19 (C_Rep hw) rfl dX8_wordAndNumber_1 ?_
  refine x_aload_n C dX8_wordAndNumber_4 rfl ?_
  obtain ⟨q1, hq2, hF⟩ := bnd_e hF
  refine x_goM (fun ls h => x_runV (As := [.ref a1r]) [] h C ml_X8_83 (k_X1_putText l D cA s0 z b ν _ hG a1r 4 a1 q1 hq2) ⟨rfl, rfl, nb rfl, nb rfl⟩ rfl (C_Byt byt4 hw) rfl ⟨rfl, hw, (Str.now hst0_a1 hw.1 hw.2.1 hS)⟩ (nb rfl) ⟨Nat.zero_le _, Nat.zero_le _⟩ dX8_wordAndNumber_5) hS (xA_le hS) (fun H locs hw hz hk hS => ?_)
  have hw : WC D cA s0 z b q1 H := hw
  refine x_aload_n C dX8_wordAndNumber_8 rfl ?_
  refine x_get (.ref (b + 4)) C fl_X8_19 (C_Rep hw) rfl dX8_wordAndNumber_9 ?_
  refine x_lload_n C dX8_wordAndNumber_12 rfl ?_
  obtain ⟨q3, hq4, hF⟩ := bnd_e hF
  refine x_goM (fun ls h => x_runV (As := [.long a2]) [] h C ml_X8_52 (k_X1_putNumber l D cA s0 z b q1 _ hG 4 a2 q3 hq4) ⟨rfl, rfl, nb rfl, nb rfl⟩ rfl (C_Byt byt4 hw) rfl ⟨rfl, hw⟩ (nb rfl) ⟨Nat.zero_le _, Nat.zero_le _⟩ dX8_wordAndNumber_13) hS (xA_le hS) (fun H locs hw hz hk hS => ?_)
  have hw : WC D cA s0 z b q3 H := hw
  exact x_vretM2 C rfl dX8_wordAndNumber_16 rfl (rv_m (W := fun m => WC D cA s0 z b m _) hF hw) hS (nb rfl) (nb rfl)
noncomputable def g_X8_statement_L32 (ν : Mm) (a1 : Int32) : Nat → Mm → Int32 → Option (Mm)
  | 0, _, _ => none
  | n + 1, μ0, x2 => (if (μ0.1 7 7) ≤ x2 then bnd (g_X0_balanceOf μ0 a1) (fun q11 => bnd (g_X1_putNumber μ0 4 q11) (fun q13 => bnd (g_X1_put q13 4 (10 : Int32)) (fun q15 => some q15))) else bnd (g_X0_shipOf μ0 x2) (fun q17 => (if q17 = a1 then bnd (g_X1_putNumber μ0 4 x2.toInt64) (fun q20 => asr (vp_in x2 60) (bnd (g_X4_netAmount q20 (7 + (62 + 2 * (cl x2)))) (fun q27 => bnd (g_X8_wordAndNumber q20 32 q27.toInt64) (fun q29 => bnd (g_X0_openAmount q29 x2) (fun q33 => bnd (g_X8_wordAndNumber q29 32 q33.toInt64) (fun q35 => bnd (g_X1_put q35 4 (10 : Int32)) (fun q37 => (g_X8_statement_L32 ν a1 n q37 (x2 + (1 : Int32)))))))))) else (g_X8_statement_L32 ν a1 n μ0 (x2 + (1 : Int32))))))
noncomputable def g_X8_statement (ν : Mm) (a1 : Int32) : Option (Mm) := bnd (some (uI ν 4 2 (0 : Int32))) (fun μ1 => asr (vp_in a1 8) (bnd (g_X8_shipName μ1 (7 + (6 + 2 * (cl a1)))) (fun q6 => bnd (g_X1_put q6 4 (10 : Int32)) (fun q8 => (g_X8_statement_L32 ν a1 10000 q8 (0 : Int32))))))
set_option maxRecDepth 20000 in
set_option maxHeartbeats 4000000 in
theorem k_X8_statement (l : Launch) (D : va_G) (cA : Nat → ClassId) (s0 : State) (z : Nat) (b : Nat) (ν : Mm) (sz : Nat) (hG : xG l D cA s0) (a1 : Int32) (r : Mm) (hF : g_X8_statement ν a1 = some r) : Met l yX8_statement (wsG yX8_statement cX8_statement 3 none) { frames := 6, cells := 0, slots := 0, locals := 130 } (xP D cA s0 [.ref (b + 2627), .int a1] (fun H => H.size = sz ∧ WC D cA s0 z b ν H)) (xQm none (fun H => WC D cA s0 z b r H) (xA b 2628 sz)) 0 0 (xA b 2628 sz) := by
  refine x_start (own := RX8) [(0, .ref (b + 2627)), (1, .int a1)] rfl rfl (by decide) (nb rfl) ?_
  intro p e s m args below meth c C hw
  obtain ⟨hsz, hw⟩ := hw
  subst hsz
  have hS : va_S (xA b 2628 s.heap.size) s.heap s.heap [] := va_S.rf
  have h_L32 : ∀ (n : Nat) (μ0 : Mm) (x2 : Int32) (H : Heap) (locs : List Loc) (hw : WC D cA s0 z b μ0 H) (hS : va_S (xA b 2628 s.heap.size) s.heap H locs), g_X8_statement_L32 ν a1 n μ0 x2 = some r → xW p l e { frames := 6, cells := 0, slots := 0, locals := 130 } s m args below meth c 3 (MQ below (xQm none (fun H => WC D cA s0 z b r H) (xA b 2628 s.heap.size)) args s 0 0 (xA b 2628 s.heap.size)) H locs 0 0 32 [(0, .ref (b + 2627)), (1, .int a1), (2, .int x2)] [] := by
    intro n
    induction n with
    | zero =>
      intro μ0 x2 H locs hw hS hF
      exact no_some hF
    | succ n ih =>
      intro μ0 x2 H locs hw hS hF
      have ih32 := ih
      refine x_iload_n C dX8_statement_32 rfl ?_
      refine x_aload_n C dX8_statement_33 rfl ?_
      refine x_get (.ref (b + 7)) C fl_X8_9 (C_Rep hw) rfl dX8_statement_34 ?_
      refine x_get (.int (μ0.1 7 7)) C fl_X8_43 (C_Led led7 hw) rfl dX8_statement_37 ?_
      refine x_icmp_ge 113 C dX8_statement_40 (by decide) (fun c10 => ?_) (fun c10 => ?_)
      · have hF := ite_t hF c10
        refine x_aload_n C dX8_statement_113 rfl ?_
        refine x_get (.ref (b + 4)) C fl_X8_19 (C_Rep hw) rfl dX8_statement_114 ?_
        refine x_aload_n C dX8_statement_117 rfl ?_
        refine x_get (.ref (b + 2626)) C fl_X8_15 (C_Rep hw) rfl dX8_statement_118 ?_
        refine x_iload_n C dX8_statement_121 rfl ?_
        obtain ⟨q11, hq12, hF⟩ := bnd_e hF
        refine x_goR (fun ls h => x_runV (As := [.int a1]) [.ref (b + 4)] h C ml_X8_75 (k_X0_balanceOf l D cA s0 z b μ0 hG a1 q11 hq12) ⟨rfl, rfl, nb rfl, nb rfl⟩ rfl (C_Acc hw) rfl hw (nb rfl) ⟨Nat.zero_le _, Nat.zero_le _⟩ dX8_statement_122) ?_
        obtain ⟨q13, hq14, hF⟩ := bnd_e hF
        refine x_goM (fun ls h => x_runV (As := [.long q11]) [] h C ml_X8_52 (k_X1_putNumber l D cA s0 z b μ0 _ hG 4 q11 q13 hq14) ⟨rfl, rfl, nb rfl, nb rfl⟩ rfl (C_Byt byt4 hw) rfl ⟨rfl, hw⟩ (nb rfl) ⟨Nat.zero_le _, Nat.zero_le _⟩ dX8_statement_125) hS (xA_le hS) (fun H locs hw hz hk hS => ?_)
        have hw : WC D cA s0 z b q13 H := hw
        refine x_aload_n C dX8_statement_128 rfl ?_
        refine x_get (.ref (b + 4)) C fl_X8_19 (C_Rep hw) rfl dX8_statement_129 ?_
        refine x_bipush (10 : Int32) C dX8_statement_132 rfl ?_
        obtain ⟨q15, hq16, hF⟩ := bnd_e hF
        refine x_goM (fun ls h => x_runV (As := [.int (10 : Int32)]) [] h C ml_X8_39 (k_X1_put l D cA s0 z b q13 _ hG 4 (10 : Int32) q15 hq16) ⟨rfl, rfl, nb rfl, nb rfl⟩ rfl (C_Byt byt4 hw) rfl ⟨rfl, hw⟩ (nb rfl) ⟨Nat.zero_le _, Nat.zero_le _⟩ dX8_statement_134) hS (xA_le hS) (fun H locs hw hz hk hS => ?_)
        have hw : WC D cA s0 z b q15 H := hw
        exact x_vretM2 C rfl dX8_statement_137 rfl (rv_m (W := fun m => WC D cA s0 z b m _) hF hw) hS (nb rfl) (nb rfl)
      · have hF := ite_f hF c10
        refine x_aload_n C dX8_statement_43 rfl ?_
        refine x_get (.ref (b + 2626)) C fl_X8_15 (C_Rep hw) rfl dX8_statement_44 ?_
        refine x_iload_n C dX8_statement_47 rfl ?_
        obtain ⟨q17, hq18, hF⟩ := bnd_e hF
        refine x_goR (fun ls h => x_runV (As := [.int x2]) [] h C ml_X8_46 (k_X0_shipOf l D cA s0 z b μ0 hG x2 q17 hq18) ⟨rfl, rfl, nb rfl, nb rfl⟩ rfl (C_Acc hw) rfl hw (nb rfl) ⟨Nat.zero_le _, Nat.zero_le _⟩ dX8_statement_48) ?_
        refine x_iload_n C dX8_statement_51 rfl ?_
        refine x_icmp_ne 107 C dX8_statement_52 (by decide) (fun c19 => ?_) (fun c19 => ?_)
        · have hF := ite_f hF c19
          refine x_iinc (x2 + (1 : Int32)) [(2, .int (x2 + (1 : Int32))), (0, .ref (b + 2627)), (1, .int a1)] C dX8_statement_107 rfl rfl (by decide) rfl ?_
          refine x_goto 32 C dX8_statement_110 (by decide) ?_
          refine x_sub [(0, .ref (b + 2627)), (1, .int a1), (2, .int (x2 + (1 : Int32)))] [1, 2, 0] rfl ?_
          exact ih32 μ0 (x2 + (1 : Int32)) _ _ hw hS hF
        · have hF := ite_t hF c19
          refine x_aload_n C dX8_statement_55 rfl ?_
          refine x_get (.ref (b + 4)) C fl_X8_19 (C_Rep hw) rfl dX8_statement_56 ?_
          refine x_iload_n C dX8_statement_59 rfl ?_
          refine x_i2l C dX8_statement_60 ?_
          obtain ⟨q20, hq21, hF⟩ := bnd_e hF
          refine x_goM (fun ls h => x_runV (As := [.long x2.toInt64]) [] h C ml_X8_52 (k_X1_putNumber l D cA s0 z b μ0 _ hG 4 x2.toInt64 q20 hq21) ⟨rfl, rfl, nb rfl, nb rfl⟩ rfl (C_Byt byt4 hw) rfl ⟨rfl, hw⟩ (nb rfl) ⟨Nat.zero_le _, Nat.zero_le _⟩ dX8_statement_61) hS (xA_le hS) (fun H locs hw hz hk hS => ?_)
          have hw : WC D cA s0 z b q20 H := hw
          refine x_aload_n C dX8_statement_64 rfl ?_
          refine x_ldcS (z := z) 32 C hG.2.2.2 xl_X8_56 hw.2.2.2.1 dX8_statement_65 (fun ra22 hst23 => ?_)
          refine x_aload_n C dX8_statement_67 rfl ?_
          refine x_get (.ref (b + 7)) C fl_X8_9 (C_Rep hw) rfl dX8_statement_68 ?_
          refine x_get (.ref (b + (7 + 3))) C fl_X8_58 (C_Led led7 hw) rfl dX8_statement_71 ?_
          refine x_iload_n C dX8_statement_74 rfl ?_
          obtain ⟨h24, hF⟩ := asr_e hF
          obtain ⟨hn25, hl26⟩ := vpn h24 (by decide)
          refine x_aald 5 C (C_invoices led7 hw) rfl hn25 hl26 (by decide) rfl dX8_statement_75 ?_
          obtain ⟨q27, hq28, hF⟩ := bnd_e hF
          refine x_goR (fun ls h => x_runV (As := []) [.ref ra22, .ref (b + 2627)] h C ml_X8_62 (k_X4_netAmount l D cA s0 z b q20 hG (7 + (62 + 2 * (cl x2))) q27 hq28) ⟨rfl, rfl, nb rfl, nb rfl⟩ rfl (C_Inv (mk_Inv led7 hl26) hw) rfl hw (nb rfl) ⟨Nat.zero_le _, Nat.zero_le _⟩ dX8_statement_76) ?_
          refine x_i2l C dX8_statement_79 ?_
          obtain ⟨q29, hq30, hF⟩ := bnd_e hF
          refine x_goM (fun ls h => x_runV (As := [.ref ra22, .long q27.toInt64]) [] h C ml_X8_68 (k_X8_wordAndNumber l D cA s0 z b q20 _ hG ra22 32 q27.toInt64 q29 hq30) ⟨rfl, rfl, nb rfl, nb rfl⟩ rfl (C_Rep hw) rfl ⟨rfl, hw, hst23⟩ (nb rfl) ⟨Nat.zero_le _, Nat.zero_le _⟩ dX8_statement_80) hS (xA_le hS) (fun H locs hw hz hk hS => ?_)
          have hw : WC D cA s0 z b q29 H := hw
          refine x_aload_n C dX8_statement_83 rfl ?_
          refine x_ldcS (z := z) 32 C hG.2.2.2 xl_X8_56 hw.2.2.2.1 dX8_statement_84 (fun ra31 hst32 => ?_)
          refine x_aload_n C dX8_statement_86 rfl ?_
          refine x_get (.ref (b + 2626)) C fl_X8_15 (C_Rep hw) rfl dX8_statement_87 ?_
          refine x_iload_n C dX8_statement_90 rfl ?_
          obtain ⟨q33, hq34, hF⟩ := bnd_e hF
          refine x_goR (fun ls h => x_runV (As := [.int x2]) [.ref ra31, .ref (b + 2627)] h C ml_X8_72 (k_X0_openAmount l D cA s0 z b q29 hG x2 q33 hq34) ⟨rfl, rfl, nb rfl, nb rfl⟩ rfl (C_Acc hw) rfl hw (nb rfl) ⟨Nat.zero_le _, Nat.zero_le _⟩ dX8_statement_91) ?_
          refine x_i2l C dX8_statement_94 ?_
          obtain ⟨q35, hq36, hF⟩ := bnd_e hF
          refine x_goM (fun ls h => x_runV (As := [.ref ra31, .long q33.toInt64]) [] h C ml_X8_68 (k_X8_wordAndNumber l D cA s0 z b q29 _ hG ra31 32 q33.toInt64 q35 hq36) ⟨rfl, rfl, nb rfl, nb rfl⟩ rfl (C_Rep hw) rfl ⟨rfl, hw, hst32⟩ (nb rfl) ⟨Nat.zero_le _, Nat.zero_le _⟩ dX8_statement_95) hS (xA_le hS) (fun H locs hw hz hk hS => ?_)
          have hw : WC D cA s0 z b q35 H := hw
          refine x_aload_n C dX8_statement_98 rfl ?_
          refine x_get (.ref (b + 4)) C fl_X8_19 (C_Rep hw) rfl dX8_statement_99 ?_
          refine x_bipush (10 : Int32) C dX8_statement_102 rfl ?_
          obtain ⟨q37, hq38, hF⟩ := bnd_e hF
          refine x_goM (fun ls h => x_runV (As := [.int (10 : Int32)]) [] h C ml_X8_39 (k_X1_put l D cA s0 z b q35 _ hG 4 (10 : Int32) q37 hq38) ⟨rfl, rfl, nb rfl, nb rfl⟩ rfl (C_Byt byt4 hw) rfl ⟨rfl, hw⟩ (nb rfl) ⟨Nat.zero_le _, Nat.zero_le _⟩ dX8_statement_104) hS (xA_le hS) (fun H locs hw hz hk hS => ?_)
          have hw : WC D cA s0 z b q37 H := hw
          refine x_iinc (x2 + (1 : Int32)) [(2, .int (x2 + (1 : Int32))), (0, .ref (b + 2627)), (1, .int a1)] C dX8_statement_107 rfl rfl (by decide) rfl ?_
          refine x_goto 32 C dX8_statement_110 (by decide) ?_
          refine x_sub [(0, .ref (b + 2627)), (1, .int a1), (2, .int (x2 + (1 : Int32)))] [1, 2, 0] rfl ?_
          exact ih32 q37 (x2 + (1 : Int32)) _ _ hw hS hF
  refine x_aload_n C dX8_statement_0 rfl ?_
  refine x_get (.ref (b + 4)) C fl_X8_19 (C_Rep hw) rfl dX8_statement_1 ?_
  refine x_iconst (0 : Int32) C dX8_statement_4 rfl ?_
  refine y_putI (kk0 := 2) 4 C fl_X8_23 hw (l3 (lt_Byt byt4)) (fun nm => S_Byt byt4) (fun nm => S_Byt byt4) rfl rfl (fun _ => nb rfl) dX8_statement_5 hS (xA_in (l3 (lt_Byt byt4))) (fun H locs hw hS => ?_)
  obtain ⟨μ1, hm2, hF⟩ := bnd_e hF
  have hw : WC D cA s0 z b μ1 H := rv_m (W := fun m => WC D cA s0 z b m _) hm2 hw
  refine x_aload_n C dX8_statement_8 rfl ?_
  refine x_aload_n C dX8_statement_9 rfl ?_
  refine x_get (.ref (b + 7)) C fl_X8_9 (C_Rep hw) rfl dX8_statement_10 ?_
  refine x_get (.ref (b + (7 + 1))) C fl_X8_29 (C_Led led7 hw) rfl dX8_statement_13 ?_
  refine x_iload_n C dX8_statement_16 rfl ?_
  obtain ⟨h3, hF⟩ := asr_e hF
  obtain ⟨hn4, hl5⟩ := vpn h3 (by decide)
  refine x_aald 3 C (C_ships led7 hw) rfl hn4 hl5 (by decide) rfl dX8_statement_17 ?_
  obtain ⟨q6, hq7, hF⟩ := bnd_e hF
  refine x_goM (fun ls h => x_runV (As := [.ref (b + (7 + (6 + 2 * (cl a1))))]) [] h C ml_X8_35 (k_X8_shipName l D cA s0 z b μ1 _ hG (7 + (6 + 2 * (cl a1))) q6 hq7) ⟨rfl, rfl, nb rfl, nb rfl⟩ rfl (C_Rep hw) rfl ⟨rfl, hw⟩ (nb rfl) ⟨Nat.zero_le _, Nat.zero_le _⟩ dX8_statement_18) hS (xA_le hS) (fun H locs hw hz hk hS => ?_)
  have hw : WC D cA s0 z b q6 H := hw
  refine x_aload_n C dX8_statement_21 rfl ?_
  refine x_get (.ref (b + 4)) C fl_X8_19 (C_Rep hw) rfl dX8_statement_22 ?_
  refine x_bipush (10 : Int32) C dX8_statement_25 rfl ?_
  obtain ⟨q8, hq9, hF⟩ := bnd_e hF
  refine x_goM (fun ls h => x_runV (As := [.int (10 : Int32)]) [] h C ml_X8_39 (k_X1_put l D cA s0 z b q6 _ hG 4 (10 : Int32) q8 hq9) ⟨rfl, rfl, nb rfl, nb rfl⟩ rfl (C_Byt byt4 hw) rfl ⟨rfl, hw⟩ (nb rfl) ⟨Nat.zero_le _, Nat.zero_le _⟩ dX8_statement_27) hS (xA_le hS) (fun H locs hw hz hk hS => ?_)
  have hw : WC D cA s0 z b q8 H := hw
  refine x_iconst (0 : Int32) C dX8_statement_30 rfl ?_
  refine x_istore_n [(2, .int (0 : Int32)), (0, .ref (b + 2627)), (1, .int a1)] C dX8_statement_31 rfl (by decide) rfl ?_
  refine x_sub [(0, .ref (b + 2627)), (1, .int a1), (2, .int (0 : Int32))] [1, 2, 0] rfl ?_
  exact h_L32 10000 q8 (0 : Int32) _ _ hw hS hF
