/-! The law's wrappers. -/
theorem in01 : vp_in (0 : Int32) 1 := by unfold vp_in; decide
theorem WC.out {D : va_G} {cA : Nat → ClassId} {s0 : State} {z b ro : Nat} {ν : Mm} {H H1 : Heap} (h : WC D cA s0 z b ν H) (hro : b + 2628 ≤ ro) (hn : ∀ q : Nat, q ≠ ro → H1[q]? = H[q]?) (hz : H1.size = H.size) (hz2 : ro < z := by assumption) : WC D cA s0 z b ν H1 := by
  obtain ⟨h1, h2, h3, h4, nm, hR⟩ := h
  have h5 := h4.1
  refine ⟨h1, h2, by rw [hz]; exact h3, ⟨by rw [hz]; exact h4.1, fun q hq => (hn q (by omega)).trans (h4.2 q hq)⟩, nm, hR.kept (fun q _ g => hn q (by omega))⟩
theorem lk_13 : Cond.classLink RL 13 (exN 3) ∈ gW := gW_in (gT4 (List.mem_of_getElem? (i := 62) (by decide +kernel))) (by decide +kernel)
theorem lk_19 : Cond.classLink RL 19 (exN 2) ∈ gW := gW_in (gT4 (List.mem_of_getElem? (i := 148) (by decide +kernel))) (by decide +kernel)
theorem lk_32 : Cond.classLink RL 32 (exN 1) ∈ gW := gW_in (gT4 (List.mem_of_getElem? (i := 197) (by decide +kernel))) (by decide +kernel)
theorem mw_L_append : ∀ ix, Cond.methodLink RL ix yL_append ∈ gW → Cond.methodLink RL ix yL_append ∈ gW ∧ Cond.static yL_append ∈ gW ∧ Cond.initialized yL_append.cls ∈ gW ∧ Cond.codeWith yL_append cL_append 8 (some (FieldType.int)) [(0, 16, 19, 13)] ∈ gW ∧ yL_append.cls ≠ "java/lang/invoke/MethodHandle" ∧ yL_append.cls ≠ "java/lang/invoke/VarHandle" ∧ (parseMethodDescriptor yL_append.desc).map (fun d => d.parameters.length) = some 7 := fun _ h => ⟨h, gW_in (gT4 (List.mem_of_getElem? (i := 60) (by decide +kernel))) (by decide +kernel), gW_in (gT1 (List.mem_of_getElem? (i := 0) (by decide +kernel))) (by decide +kernel), gW_in (gT4 (List.mem_of_getElem? (i := 61) (by decide +kernel))) (by decide +kernel), by decide, by decide, by decide +kernel⟩
set_option maxRecDepth 20000 in
set_option maxHeartbeats 4000000 in
theorem k_L_append (l : Launch) (D : va_G) (cA : Nat → ClassId) (s0 : State) (z : Nat) (b : Nat) (ν : Mm) (sz : Nat) (hG : xG l D cA s0) (hNc : xNc s0) (ro : Nat) (hro : b + 2628 ≤ ro) (hrz : ro < z) (oc : Nat → Int64) (a1 : Int32) (a2 : Int32) (a3 : Int32) (a4 : Int32) (a5 : Int32) (r : Thr (Int32 × Mm)) (hF : g_X11_append ν a1 a2 a3 a4 a5 = some r) (hk : ∀ k, r = .error k → k = 3) : Met l yL_append (wsH yL_append cL_append 8 (some (FieldType.int)) [(0, 16, 19, 13)]) { frames := 9, cells := 1, slots := 6, locals := 178 } (xP D cA s0 [.ref b, .int a1, .int a2, .int a3, .int a4, .int a5, .ref ro] (fun H => H.size = sz ∧ WC D cA s0 z b ν H ∧ oCell cA D ro oc H)) (xQm (some (.int (thC (fun k => if k = 3 then 1 else 0) r))) (fun H => WC D cA s0 z b (thM (fun q => q.2) ν r) H ∧ oCell cA D ro (thO (fun q => q.1.toInt64) oc r) H) (xAL b ro sz)) 1 6 (xAL b ro sz) := by
  refine h_start (own := RL) [(0, .ref b), (1, .int a1), (2, .int a2), (3, .int a3), (4, .int a4), (5, .int a5), (6, .ref ro)] rfl rfl (by decide) (nb rfl) ?_
  intro p e s m args below meth c C htab hw
  obtain ⟨hsz, hw, ho⟩ := hw
  subst hsz
  have hS : va_S (xAL b ro s.heap.size) s.heap s.heap [] := va_S.rf
  have hrl : ro < s.heap.size := at_lt ho
  refine x_aload C dL_append_0 rfl ?_
  refine x_iconst (0 : Int32) C dL_append_2 rfl ?_
  refine x_aload_n C dL_append_3 rfl ?_
  refine x_iload_n C dL_append_4 rfl ?_
  refine x_iload_n C dL_append_5 rfl ?_
  refine x_iload_n C dL_append_6 rfl ?_
  refine x_iload C dL_append_7 rfl ?_
  refine x_iload C dL_append_9 rfl ?_
  refine t_goC (fun ls h => t_runV (As := [.int a1, .int a2, .int a3, .int a4, .int a5]) [.int (0 : Int32), .ref ro] h C ml_L_7 (k_X11_append l D cA s0 z b ν _ hG a1 a2 a3 a4 a5 r hF) ⟨rfl, rfl, nb rfl, nb rfl⟩ rfl (C_PD hw) rfl ⟨rfl, hw⟩ (nb rfl) ⟨nb rfl, nb rfl⟩ dL_append_11) hS (fun _ h => Or.inl h) (fun k hr H1 locs1 q9 ce hw1 hz1 hk1 hS1 hce hcv hcl ls9 hl9 => ?_) (fun q hr H1 locs1 hw1 hz1 hk1 hS1 => ?_)
  · subst hr
    have ho1 : oCell cA D ro oc H1 := ho.kept (hk1 ro hrl (fun zz => zz.elim (fun g => absurd g.2 (by omega)) (fun g => absurd g (by omega))))
    have hk := hk k rfl
    subst hk
    refine x_catch (k := 3) (hpc := 19) (pre := []) (x := (0, 16, 19, 13)) (suf := []) C hG hNc (by decide) htab (fun z hz => nomatch hz) (by decide) (by decide) lk_13 rfl hce hcv hcl hl9 ?_
    refine x_astore [(7, .ref q9), (0, .ref b), (1, .int a1), (2, .int a2), (3, .int a3), (4, .int a4), (5, .int a5), (6, .ref ro)] C dL_append_19 (by decide) rfl ?_
    refine x_iconst (1 : Int32) C dL_append_21 rfl ?_
    exact x_iretM2 C rfl dL_append_22 rfl ⟨hw1, ho1⟩ hS1 (nb rfl) (nb rfl)
  · subst hr
    have ho1 : oCell cA D ro oc H1 := ho.kept (hk1 ro hrl (fun zz => zz.elim (fun g => absurd g.2 (by omega)) (fun g => absurd g (by omega))))
    refine x_i2l C dL_append_14 ?_
    refine x_last0 C ho1 in01 dL_append_15 hS1 (Or.inr rfl) (fun H2 locs2 ho2 hn2 hz2 hS2 => ?_)
    have hw2 := hw1.out hro hn2 hz2
    refine x_goto 23 C dL_append_16 (by decide) ?_
    refine x_iconst (0 : Int32) C dL_append_23 rfl ?_
    exact x_iretM2 C rfl dL_append_24 rfl ⟨hw2, ho2⟩ hS2 (nb rfl) (nb rfl)
theorem mw_L_truncate : ∀ ix, Cond.methodLink RL ix yL_truncate ∈ gW → Cond.methodLink RL ix yL_truncate ∈ gW ∧ Cond.static yL_truncate ∈ gW ∧ Cond.initialized yL_truncate.cls ∈ gW ∧ Cond.codeWith yL_truncate cL_truncate 3 (some (FieldType.int)) [(0, 5, 8, 19)] ∈ gW ∧ yL_truncate.cls ≠ "java/lang/invoke/MethodHandle" ∧ yL_truncate.cls ≠ "java/lang/invoke/VarHandle" ∧ (parseMethodDescriptor yL_truncate.desc).map (fun d => d.parameters.length) = some 2 := fun _ h => ⟨h, gW_in (gT4 (List.mem_of_getElem? (i := 146) (by decide +kernel))) (by decide +kernel), gW_in (gT1 (List.mem_of_getElem? (i := 0) (by decide +kernel))) (by decide +kernel), gW_in (gT4 (List.mem_of_getElem? (i := 147) (by decide +kernel))) (by decide +kernel), by decide, by decide, by decide +kernel⟩
set_option maxRecDepth 20000 in
set_option maxHeartbeats 4000000 in
theorem k_L_truncate (l : Launch) (D : va_G) (cA : Nat → ClassId) (s0 : State) (z : Nat) (b : Nat) (ν : Mm) (sz : Nat) (hG : xG l D cA s0) (hNc : xNc s0) (a1 : Int32) (r : Thr (Mm)) (hF : g_X11_truncate ν a1 = some r) (hk : ∀ k, r = .error k → k = 2) : Met l yL_truncate (wsH yL_truncate cL_truncate 3 (some (FieldType.int)) [(0, 5, 8, 19)]) { frames := 10, cells := 1, slots := 6, locals := 196 } (xP D cA s0 [.ref b, .int a1] (fun H => H.size = sz ∧ WC D cA s0 z b ν H)) (xQm (some (.int (thC (fun k => if k = 2 then 1 else 0) r))) (fun H => WC D cA s0 z b (thM (fun q => q) ν r) H) (xA b 2628 sz)) 1 6 (xA b 2628 sz) := by
  refine h_start (own := RL) [(0, .ref b), (1, .int a1)] rfl rfl (by decide) (nb rfl) ?_
  intro p e s m args below meth c C htab hw
  obtain ⟨hsz, hw⟩ := hw
  subst hsz
  have hS : va_S (xA b 2628 s.heap.size) s.heap s.heap [] := va_S.rf
  refine x_aload_n C dL_truncate_0 rfl ?_
  refine x_iload_n C dL_truncate_1 rfl ?_
  refine t_goC (fun ls h => t_runV (As := [.int a1]) [] h C ml_L_15 (k_X11_truncate l D cA s0 z b ν _ hG a1 r hF) ⟨rfl, rfl, nb rfl, nb rfl⟩ rfl (C_PD hw) rfl ⟨rfl, hw⟩ (nb rfl) ⟨nb rfl, nb rfl⟩ dL_truncate_2) hS (fun _ h => h) (fun k hr H1 locs1 q9 ce hw1 hz1 hk1 hS1 hce hcv hcl ls9 hl9 => ?_) (fun q hr H1 locs1 hw1 hz1 hk1 hS1 => ?_)
  · subst hr
    have hk := hk k rfl
    subst hk
    refine x_catch (k := 2) (hpc := 8) (pre := []) (x := (0, 5, 8, 19)) (suf := []) C hG hNc (by decide) htab (fun z hz => nomatch hz) (by decide) (by decide) lk_19 rfl hce hcv hcl hl9 ?_
    refine x_astore_n [(2, .ref q9), (0, .ref b), (1, .int a1)] C dL_truncate_8 rfl (by decide) rfl ?_
    refine x_iconst (1 : Int32) C dL_truncate_9 rfl ?_
    exact x_iretM2 C rfl dL_truncate_10 rfl hw1 hS1 (nb rfl) (nb rfl)
  · subst hr
    refine x_goto 11 C dL_truncate_5 (by decide) ?_
    refine x_iconst (0 : Int32) C dL_truncate_11 rfl ?_
    exact x_iretM2 C rfl dL_truncate_12 rfl hw1 hS1 (nb rfl) (nb rfl)
theorem mw_L_count : ∀ ix, Cond.methodLink RL ix yL_count ∈ gW → Cond.methodLink RL ix yL_count ∈ gW ∧ Cond.static yL_count ∈ gW ∧ Cond.initialized yL_count.cls ∈ gW ∧ Cond.codeWith yL_count cL_count 4 (some (FieldType.int)) [(0, 9, 12, 19)] ∈ gW ∧ yL_count.cls ≠ "java/lang/invoke/MethodHandle" ∧ yL_count.cls ≠ "java/lang/invoke/VarHandle" ∧ (parseMethodDescriptor yL_count.desc).map (fun d => d.parameters.length) = some 3 := fun _ h => ⟨h, gW_in (gT4 (List.mem_of_getElem? (i := 176) (by decide +kernel))) (by decide +kernel), gW_in (gT1 (List.mem_of_getElem? (i := 0) (by decide +kernel))) (by decide +kernel), gW_in (gT4 (List.mem_of_getElem? (i := 177) (by decide +kernel))) (by decide +kernel), by decide, by decide, by decide +kernel⟩
set_option maxRecDepth 20000 in
set_option maxHeartbeats 4000000 in
theorem k_L_count (l : Launch) (D : va_G) (cA : Nat → ClassId) (s0 : State) (z : Nat) (b : Nat) (ν : Mm) (sz : Nat) (hG : xG l D cA s0) (hNc : xNc s0) (ro : Nat) (hro : b + 2628 ≤ ro) (hrz : ro < z) (oc : Nat → Int64) (a1 : Int32) (r : Thr Int32) (hF : g_X11_count ν a1 = some r) (hk : ∀ k, r = .error k → k = 2) : Met l yL_count (wsH yL_count cL_count 4 (some (FieldType.int)) [(0, 9, 12, 19)]) { frames := 10, cells := 1, slots := 6, locals := 196 } (xP D cA s0 [.ref b, .int a1, .ref ro] (fun H => H.size = sz ∧ WC D cA s0 z b ν H ∧ oCell cA D ro oc H)) (xQm (some (.int (thC (fun k => if k = 2 then 1 else 0) r))) (fun H => WC D cA s0 z b (thM (fun _ => ν) ν r) H ∧ oCell cA D ro (thO (fun q => q.toInt64) oc r) H) (xAL b ro sz)) 1 6 (xAL b ro sz) := by
  refine h_start (own := RL) [(0, .ref b), (1, .int a1), (2, .ref ro)] rfl rfl (by decide) (nb rfl) ?_
  intro p e s m args below meth c C htab hw
  obtain ⟨hsz, hw, ho⟩ := hw
  subst hsz
  have hS : va_S (xAL b ro s.heap.size) s.heap s.heap [] := va_S.rf
  have hrl : ro < s.heap.size := at_lt ho
  refine x_aload_n C dL_count_0 rfl ?_
  refine x_iconst (0 : Int32) C dL_count_1 rfl ?_
  refine x_aload_n C dL_count_2 rfl ?_
  refine x_iload_n C dL_count_3 rfl ?_
  refine t_goC (fun ls h => t_runV (As := [.int a1]) [.int (0 : Int32), .ref ro] h C ml_L_21 (k_X11_count l D cA s0 z b ν _ hG a1 r hF) ⟨rfl, rfl, nb rfl, nb rfl⟩ rfl (C_PD hw) rfl ⟨rfl, hw⟩ (nb rfl) ⟨nb rfl, nb rfl⟩ dL_count_4) hS (fun _ h => Or.inl h) (fun k hr H1 locs1 q9 ce hw1 hz1 hk1 hS1 hce hcv hcl ls9 hl9 => ?_) (fun q hr H1 locs1 hw1 hz1 hk1 hS1 => ?_)
  · subst hr
    have ho1 : oCell cA D ro oc H1 := ho.kept (hk1 ro hrl (fun zz => zz.elim (fun g => absurd g.2 (by omega)) (fun g => absurd g (by omega))))
    have hk := hk k rfl
    subst hk
    refine x_catch (k := 2) (hpc := 12) (pre := []) (x := (0, 9, 12, 19)) (suf := []) C hG hNc (by decide) htab (fun z hz => nomatch hz) (by decide) (by decide) lk_19 rfl hce hcv hcl hl9 ?_
    refine x_astore_n [(3, .ref q9), (0, .ref b), (1, .int a1), (2, .ref ro)] C dL_count_12 rfl (by decide) rfl ?_
    refine x_iconst (1 : Int32) C dL_count_13 rfl ?_
    exact x_iretM2 C rfl dL_count_14 rfl ⟨hw1, ho1⟩ hS1 (nb rfl) (nb rfl)
  · subst hr
    have ho1 : oCell cA D ro oc H1 := ho.kept (hk1 ro hrl (fun zz => zz.elim (fun g => absurd g.2 (by omega)) (fun g => absurd g (by omega))))
    refine x_i2l C dL_count_7 ?_
    refine x_last0 C ho1 in01 dL_count_8 hS1 (Or.inr rfl) (fun H2 locs2 ho2 hn2 hz2 hS2 => ?_)
    have hw2 := hw1.out hro hn2 hz2
    refine x_goto 15 C dL_count_9 (by decide) ?_
    refine x_iconst (0 : Int32) C dL_count_15 rfl ?_
    exact x_iretM2 C rfl dL_count_16 rfl ⟨hw2, ho2⟩ hS2 (nb rfl) (nb rfl)
theorem mw_L_tariff : ∀ ix, Cond.methodLink RL ix yL_tariff ∈ gW → Cond.methodLink RL ix yL_tariff ∈ gW ∧ Cond.static yL_tariff ∈ gW ∧ Cond.initialized yL_tariff.cls ∈ gW ∧ Cond.codeWith yL_tariff cL_tariff 4 (some (FieldType.int)) [(0, 9, 12, 19)] ∈ gW ∧ yL_tariff.cls ≠ "java/lang/invoke/MethodHandle" ∧ yL_tariff.cls ≠ "java/lang/invoke/VarHandle" ∧ (parseMethodDescriptor yL_tariff.desc).map (fun d => d.parameters.length) = some 3 := fun _ h => ⟨h, gW_in (gT4 (List.mem_of_getElem? (i := 188) (by decide +kernel))) (by decide +kernel), gW_in (gT1 (List.mem_of_getElem? (i := 0) (by decide +kernel))) (by decide +kernel), gW_in (gT4 (List.mem_of_getElem? (i := 189) (by decide +kernel))) (by decide +kernel), by decide, by decide, by decide +kernel⟩
set_option maxRecDepth 20000 in
set_option maxHeartbeats 4000000 in
theorem k_L_tariff (l : Launch) (D : va_G) (cA : Nat → ClassId) (s0 : State) (z : Nat) (b : Nat) (ν : Mm) (sz : Nat) (hG : xG l D cA s0) (hNc : xNc s0) (ro : Nat) (hro : b + 2628 ≤ ro) (hrz : ro < z) (oc : Nat → Int64) (a1 : Int32) (r : Thr Int32) (hF : g_X11_tariff ν a1 = some r) (hk : ∀ k, r = .error k → k = 2) : Met l yL_tariff (wsH yL_tariff cL_tariff 4 (some (FieldType.int)) [(0, 9, 12, 19)]) { frames := 10, cells := 1, slots := 6, locals := 197 } (xP D cA s0 [.ref b, .int a1, .ref ro] (fun H => H.size = sz ∧ WC D cA s0 z b ν H ∧ oCell cA D ro oc H)) (xQm (some (.int (thC (fun k => if k = 2 then 1 else 0) r))) (fun H => WC D cA s0 z b (thM (fun _ => ν) ν r) H ∧ oCell cA D ro (thO (fun q => q.toInt64) oc r) H) (xAL b ro sz)) 1 6 (xAL b ro sz) := by
  refine h_start (own := RL) [(0, .ref b), (1, .int a1), (2, .ref ro)] rfl rfl (by decide) (nb rfl) ?_
  intro p e s m args below meth c C htab hw
  obtain ⟨hsz, hw, ho⟩ := hw
  subst hsz
  have hS : va_S (xAL b ro s.heap.size) s.heap s.heap [] := va_S.rf
  have hrl : ro < s.heap.size := at_lt ho
  refine x_aload_n C dL_tariff_0 rfl ?_
  refine x_iconst (0 : Int32) C dL_tariff_1 rfl ?_
  refine x_aload_n C dL_tariff_2 rfl ?_
  refine x_iload_n C dL_tariff_3 rfl ?_
  refine t_goC (fun ls h => t_runV (As := [.int a1]) [.int (0 : Int32), .ref ro] h C ml_L_25 (k_X11_tariff l D cA s0 z b ν _ hG a1 r hF) ⟨rfl, rfl, nb rfl, nb rfl⟩ rfl (C_PD hw) rfl ⟨rfl, hw⟩ (nb rfl) ⟨nb rfl, nb rfl⟩ dL_tariff_4) hS (fun _ h => Or.inl h) (fun k hr H1 locs1 q9 ce hw1 hz1 hk1 hS1 hce hcv hcl ls9 hl9 => ?_) (fun q hr H1 locs1 hw1 hz1 hk1 hS1 => ?_)
  · subst hr
    have ho1 : oCell cA D ro oc H1 := ho.kept (hk1 ro hrl (fun zz => zz.elim (fun g => absurd g.2 (by omega)) (fun g => absurd g (by omega))))
    have hk := hk k rfl
    subst hk
    refine x_catch (k := 2) (hpc := 12) (pre := []) (x := (0, 9, 12, 19)) (suf := []) C hG hNc (by decide) htab (fun z hz => nomatch hz) (by decide) (by decide) lk_19 rfl hce hcv hcl hl9 ?_
    refine x_astore_n [(3, .ref q9), (0, .ref b), (1, .int a1), (2, .ref ro)] C dL_tariff_12 rfl (by decide) rfl ?_
    refine x_iconst (1 : Int32) C dL_tariff_13 rfl ?_
    exact x_iretM2 C rfl dL_tariff_14 rfl ⟨hw1, ho1⟩ hS1 (nb rfl) (nb rfl)
  · subst hr
    have ho1 : oCell cA D ro oc H1 := ho.kept (hk1 ro hrl (fun zz => zz.elim (fun g => absurd g.2 (by omega)) (fun g => absurd g (by omega))))
    refine x_i2l C dL_tariff_7 ?_
    refine x_last0 C ho1 in01 dL_tariff_8 hS1 (Or.inr rfl) (fun H2 locs2 ho2 hn2 hz2 hS2 => ?_)
    have hw2 := hw1.out hro hn2 hz2
    refine x_goto 15 C dL_tariff_9 (by decide) ?_
    refine x_iconst (0 : Int32) C dL_tariff_15 rfl ?_
    exact x_iretM2 C rfl dL_tariff_16 rfl ⟨hw2, ho2⟩ hS2 (nb rfl) (nb rfl)
theorem mw_L_band : ∀ ix, Cond.methodLink RL ix yL_band ∈ gW → Cond.methodLink RL ix yL_band ∈ gW ∧ Cond.static yL_band ∈ gW ∧ Cond.initialized yL_band.cls ∈ gW ∧ Cond.codeWith yL_band cL_band 5 (some (FieldType.int)) [(0, 10, 13, 32), (0, 10, 17, 19)] ∈ gW ∧ yL_band.cls ≠ "java/lang/invoke/MethodHandle" ∧ yL_band.cls ≠ "java/lang/invoke/VarHandle" ∧ (parseMethodDescriptor yL_band.desc).map (fun d => d.parameters.length) = some 4 := fun _ h => ⟨h, gW_in (gT4 (List.mem_of_getElem? (i := 195) (by decide +kernel))) (by decide +kernel), gW_in (gT1 (List.mem_of_getElem? (i := 0) (by decide +kernel))) (by decide +kernel), gW_in (gT4 (List.mem_of_getElem? (i := 196) (by decide +kernel))) (by decide +kernel), by decide, by decide, by decide +kernel⟩
set_option maxRecDepth 20000 in
set_option maxHeartbeats 4000000 in
theorem k_L_band (l : Launch) (D : va_G) (cA : Nat → ClassId) (s0 : State) (z : Nat) (b : Nat) (ν : Mm) (sz : Nat) (hG : xG l D cA s0) (hNc : xNc s0) (ro : Nat) (hro : b + 2628 ≤ ro) (hrz : ro < z) (oc : Nat → Int64) (a1 : Int32) (a2 : Int32) (r : Thr Int32) (hF : g_X11_band ν a1 a2 = some r) (hk : ∀ k, r = .error k → k = 1 ∨ k = 2) : Met l yL_band (wsH yL_band cL_band 5 (some (FieldType.int)) [(0, 10, 13, 32), (0, 10, 17, 19)]) { frames := 10, cells := 2, slots := 12, locals := 198 } (xP D cA s0 [.ref b, .int a1, .int a2, .ref ro] (fun H => H.size = sz ∧ WC D cA s0 z b ν H ∧ oCell cA D ro oc H)) (xQm (some (.int (thC (fun k => if k = 1 then 1 else if k = 2 then 2 else 0) r))) (fun H => WC D cA s0 z b (thM (fun _ => ν) ν r) H ∧ oCell cA D ro (thO (fun q => q.toInt64) oc r) H) (xAL b ro sz)) 2 12 (xAL b ro sz) := by
  refine h_start (own := RL) [(0, .ref b), (1, .int a1), (2, .int a2), (3, .ref ro)] rfl rfl (by decide) (nb rfl) ?_
  intro p e s m args below meth c C htab hw
  obtain ⟨hsz, hw, ho⟩ := hw
  subst hsz
  have hS : va_S (xAL b ro s.heap.size) s.heap s.heap [] := va_S.rf
  have hrl : ro < s.heap.size := at_lt ho
  refine x_aload_n C dL_band_0 rfl ?_
  refine x_iconst (0 : Int32) C dL_band_1 rfl ?_
  refine x_aload_n C dL_band_2 rfl ?_
  refine x_iload_n C dL_band_3 rfl ?_
  refine x_iload_n C dL_band_4 rfl ?_
  refine t_goC (fun ls h => t_runV (As := [.int a1, .int a2]) [.int (0 : Int32), .ref ro] h C ml_L_28 (k_X11_band l D cA s0 z b ν _ hG a1 a2 r hF) ⟨rfl, rfl, nb rfl, nb rfl⟩ rfl (C_PD hw) rfl ⟨rfl, hw⟩ (nb rfl) ⟨nb rfl, nb rfl⟩ dL_band_5) hS (fun _ h => Or.inl h) (fun k hr H1 locs1 q9 ce hw1 hz1 hk1 hS1 hce hcv hcl ls9 hl9 => ?_) (fun q hr H1 locs1 hw1 hz1 hk1 hS1 => ?_)
  · subst hr
    have ho1 : oCell cA D ro oc H1 := ho.kept (hk1 ro hrl (fun zz => zz.elim (fun g => absurd g.2 (by omega)) (fun g => absurd g (by omega))))
    rcases hk k rfl with rfl | rfl
    · refine x_catch (k := 1) (hpc := 13) (pre := []) (x := (0, 10, 13, 32)) (suf := [(0, 10, 17, 19)]) C hG hNc (by decide) htab (fun z hz => nomatch hz) (by decide) (by decide) lk_32 rfl hce hcv hcl hl9 ?_
      refine x_astore [(4, .ref q9), (0, .ref b), (1, .int a1), (2, .int a2), (3, .ref ro)] C dL_band_13 (by decide) rfl ?_
      refine x_iconst (1 : Int32) C dL_band_15 rfl ?_
      exact x_iretM2 C rfl dL_band_16 rfl ⟨hw1, ho1⟩ hS1 (nb rfl) (nb rfl)
    · refine x_catch (k := 2) (hpc := 17) (pre := [(0, 10, 13, 32)]) (x := (0, 10, 17, 19)) (suf := []) C hG hNc (by decide) htab (fun z hz => by
        simp only [List.mem_cons, List.not_mem_nil, or_false] at hz
        rcases hz with rfl
        · exact ⟨by decide, 1, by decide, by decide, lk_32⟩) (by decide) (by decide) lk_19 rfl hce hcv hcl hl9 ?_
      refine x_astore [(4, .ref q9), (0, .ref b), (1, .int a1), (2, .int a2), (3, .ref ro)] C dL_band_17 (by decide) rfl ?_
      refine x_iconst (2 : Int32) C dL_band_19 rfl ?_
      exact x_iretM2 C rfl dL_band_20 rfl ⟨hw1, ho1⟩ hS1 (nb rfl) (nb rfl)
  · subst hr
    have ho1 : oCell cA D ro oc H1 := ho.kept (hk1 ro hrl (fun zz => zz.elim (fun g => absurd g.2 (by omega)) (fun g => absurd g (by omega))))
    refine x_i2l C dL_band_8 ?_
    refine x_last0 C ho1 in01 dL_band_9 hS1 (Or.inr rfl) (fun H2 locs2 ho2 hn2 hz2 hS2 => ?_)
    have hw2 := hw1.out hro hn2 hz2
    refine x_goto 21 C dL_band_10 (by decide) ?_
    refine x_iconst (0 : Int32) C dL_band_21 rfl ?_
    exact x_iretM2 C rfl dL_band_22 rfl ⟨hw2, ho2⟩ hS2 (nb rfl) (nb rfl)
theorem mw_L_rebate : ∀ ix, Cond.methodLink RL ix yL_rebate ∈ gW → Cond.methodLink RL ix yL_rebate ∈ gW ∧ Cond.static yL_rebate ∈ gW ∧ Cond.initialized yL_rebate.cls ∈ gW ∧ Cond.codeWith yL_rebate cL_rebate 5 (some (FieldType.int)) [(0, 10, 13, 32), (0, 10, 17, 19)] ∈ gW ∧ yL_rebate.cls ≠ "java/lang/invoke/MethodHandle" ∧ yL_rebate.cls ≠ "java/lang/invoke/VarHandle" ∧ (parseMethodDescriptor yL_rebate.desc).map (fun d => d.parameters.length) = some 4 := fun _ h => ⟨h, gW_in (gT4 (List.mem_of_getElem? (i := 222) (by decide +kernel))) (by decide +kernel), gW_in (gT1 (List.mem_of_getElem? (i := 0) (by decide +kernel))) (by decide +kernel), gW_in (gT4 (List.mem_of_getElem? (i := 223) (by decide +kernel))) (by decide +kernel), by decide, by decide, by decide +kernel⟩
set_option maxRecDepth 20000 in
set_option maxHeartbeats 4000000 in
theorem k_L_rebate (l : Launch) (D : va_G) (cA : Nat → ClassId) (s0 : State) (z : Nat) (b : Nat) (ν : Mm) (sz : Nat) (hG : xG l D cA s0) (hNc : xNc s0) (ro : Nat) (hro : b + 2628 ≤ ro) (hrz : ro < z) (oc : Nat → Int64) (a1 : Int32) (a2 : Int32) (r : Thr Int32) (hF : g_X11_rebate ν a1 a2 = some r) (hk : ∀ k, r = .error k → k = 1 ∨ k = 2) : Met l yL_rebate (wsH yL_rebate cL_rebate 5 (some (FieldType.int)) [(0, 10, 13, 32), (0, 10, 17, 19)]) { frames := 10, cells := 2, slots := 12, locals := 198 } (xP D cA s0 [.ref b, .int a1, .int a2, .ref ro] (fun H => H.size = sz ∧ WC D cA s0 z b ν H ∧ oCell cA D ro oc H)) (xQm (some (.int (thC (fun k => if k = 1 then 1 else if k = 2 then 2 else 0) r))) (fun H => WC D cA s0 z b (thM (fun _ => ν) ν r) H ∧ oCell cA D ro (thO (fun q => q.toInt64) oc r) H) (xAL b ro sz)) 2 12 (xAL b ro sz) := by
  refine h_start (own := RL) [(0, .ref b), (1, .int a1), (2, .int a2), (3, .ref ro)] rfl rfl (by decide) (nb rfl) ?_
  intro p e s m args below meth c C htab hw
  obtain ⟨hsz, hw, ho⟩ := hw
  subst hsz
  have hS : va_S (xAL b ro s.heap.size) s.heap s.heap [] := va_S.rf
  have hrl : ro < s.heap.size := at_lt ho
  refine x_aload_n C dL_rebate_0 rfl ?_
  refine x_iconst (0 : Int32) C dL_rebate_1 rfl ?_
  refine x_aload_n C dL_rebate_2 rfl ?_
  refine x_iload_n C dL_rebate_3 rfl ?_
  refine x_iload_n C dL_rebate_4 rfl ?_
  refine t_goC (fun ls h => t_runV (As := [.int a1, .int a2]) [.int (0 : Int32), .ref ro] h C ml_L_34 (k_X11_rebate l D cA s0 z b ν _ hG a1 a2 r hF) ⟨rfl, rfl, nb rfl, nb rfl⟩ rfl (C_PD hw) rfl ⟨rfl, hw⟩ (nb rfl) ⟨nb rfl, nb rfl⟩ dL_rebate_5) hS (fun _ h => Or.inl h) (fun k hr H1 locs1 q9 ce hw1 hz1 hk1 hS1 hce hcv hcl ls9 hl9 => ?_) (fun q hr H1 locs1 hw1 hz1 hk1 hS1 => ?_)
  · subst hr
    have ho1 : oCell cA D ro oc H1 := ho.kept (hk1 ro hrl (fun zz => zz.elim (fun g => absurd g.2 (by omega)) (fun g => absurd g (by omega))))
    rcases hk k rfl with rfl | rfl
    · refine x_catch (k := 1) (hpc := 13) (pre := []) (x := (0, 10, 13, 32)) (suf := [(0, 10, 17, 19)]) C hG hNc (by decide) htab (fun z hz => nomatch hz) (by decide) (by decide) lk_32 rfl hce hcv hcl hl9 ?_
      refine x_astore [(4, .ref q9), (0, .ref b), (1, .int a1), (2, .int a2), (3, .ref ro)] C dL_rebate_13 (by decide) rfl ?_
      refine x_iconst (1 : Int32) C dL_rebate_15 rfl ?_
      exact x_iretM2 C rfl dL_rebate_16 rfl ⟨hw1, ho1⟩ hS1 (nb rfl) (nb rfl)
    · refine x_catch (k := 2) (hpc := 17) (pre := [(0, 10, 13, 32)]) (x := (0, 10, 17, 19)) (suf := []) C hG hNc (by decide) htab (fun z hz => by
        simp only [List.mem_cons, List.not_mem_nil, or_false] at hz
        rcases hz with rfl
        · exact ⟨by decide, 1, by decide, by decide, lk_32⟩) (by decide) (by decide) lk_19 rfl hce hcv hcl hl9 ?_
      refine x_astore [(4, .ref q9), (0, .ref b), (1, .int a1), (2, .int a2), (3, .ref ro)] C dL_rebate_17 (by decide) rfl ?_
      refine x_iconst (2 : Int32) C dL_rebate_19 rfl ?_
      exact x_iretM2 C rfl dL_rebate_20 rfl ⟨hw1, ho1⟩ hS1 (nb rfl) (nb rfl)
  · subst hr
    have ho1 : oCell cA D ro oc H1 := ho.kept (hk1 ro hrl (fun zz => zz.elim (fun g => absurd g.2 (by omega)) (fun g => absurd g (by omega))))
    refine x_i2l C dL_rebate_8 ?_
    refine x_last0 C ho1 in01 dL_rebate_9 hS1 (Or.inr rfl) (fun H2 locs2 ho2 hn2 hz2 hS2 => ?_)
    have hw2 := hw1.out hro hn2 hz2
    refine x_goto 21 C dL_rebate_10 (by decide) ?_
    refine x_iconst (0 : Int32) C dL_rebate_21 rfl ?_
    exact x_iretM2 C rfl dL_rebate_22 rfl ⟨hw2, ho2⟩ hS2 (nb rfl) (nb rfl)
theorem mw_L_bandOf : ∀ ix, Cond.methodLink RL ix yL_bandOf ∈ gW → Cond.methodLink RL ix yL_bandOf ∈ gW ∧ Cond.static yL_bandOf ∈ gW ∧ Cond.initialized yL_bandOf.cls ∈ gW ∧ Cond.codeWith yL_bandOf cL_bandOf 4 (some (FieldType.int)) [(0, 9, 12, 19)] ∈ gW ∧ yL_bandOf.cls ≠ "java/lang/invoke/MethodHandle" ∧ yL_bandOf.cls ≠ "java/lang/invoke/VarHandle" ∧ (parseMethodDescriptor yL_bandOf.desc).map (fun d => d.parameters.length) = some 3 := fun _ h => ⟨h, gW_in (gT4 (List.mem_of_getElem? (i := 229) (by decide +kernel))) (by decide +kernel), gW_in (gT1 (List.mem_of_getElem? (i := 0) (by decide +kernel))) (by decide +kernel), gW_in (gT4 (List.mem_of_getElem? (i := 230) (by decide +kernel))) (by decide +kernel), by decide, by decide, by decide +kernel⟩
set_option maxRecDepth 20000 in
set_option maxHeartbeats 4000000 in
theorem k_L_bandOf (l : Launch) (D : va_G) (cA : Nat → ClassId) (s0 : State) (z : Nat) (b : Nat) (ν : Mm) (sz : Nat) (hG : xG l D cA s0) (hNc : xNc s0) (ro : Nat) (hro : b + 2628 ≤ ro) (hrz : ro < z) (oc : Nat → Int64) (a1 : Int32) (r : Thr Int32) (hF : g_X11_bandOf ν a1 = some r) (hk : ∀ k, r = .error k → k = 2) : Met l yL_bandOf (wsH yL_bandOf cL_bandOf 4 (some (FieldType.int)) [(0, 9, 12, 19)]) { frames := 10, cells := 1, slots := 6, locals := 196 } (xP D cA s0 [.ref b, .int a1, .ref ro] (fun H => H.size = sz ∧ WC D cA s0 z b ν H ∧ oCell cA D ro oc H)) (xQm (some (.int (thC (fun k => if k = 2 then 1 else 0) r))) (fun H => WC D cA s0 z b (thM (fun _ => ν) ν r) H ∧ oCell cA D ro (thO (fun q => q.toInt64) oc r) H) (xAL b ro sz)) 1 6 (xAL b ro sz) := by
  refine h_start (own := RL) [(0, .ref b), (1, .int a1), (2, .ref ro)] rfl rfl (by decide) (nb rfl) ?_
  intro p e s m args below meth c C htab hw
  obtain ⟨hsz, hw, ho⟩ := hw
  subst hsz
  have hS : va_S (xAL b ro s.heap.size) s.heap s.heap [] := va_S.rf
  have hrl : ro < s.heap.size := at_lt ho
  refine x_aload_n C dL_bandOf_0 rfl ?_
  refine x_iconst (0 : Int32) C dL_bandOf_1 rfl ?_
  refine x_aload_n C dL_bandOf_2 rfl ?_
  refine x_iload_n C dL_bandOf_3 rfl ?_
  refine t_goC (fun ls h => t_runV (As := [.int a1]) [.int (0 : Int32), .ref ro] h C ml_L_37 (k_X11_bandOf l D cA s0 z b ν _ hG a1 r hF) ⟨rfl, rfl, nb rfl, nb rfl⟩ rfl (C_PD hw) rfl ⟨rfl, hw⟩ (nb rfl) ⟨nb rfl, nb rfl⟩ dL_bandOf_4) hS (fun _ h => Or.inl h) (fun k hr H1 locs1 q9 ce hw1 hz1 hk1 hS1 hce hcv hcl ls9 hl9 => ?_) (fun q hr H1 locs1 hw1 hz1 hk1 hS1 => ?_)
  · subst hr
    have ho1 : oCell cA D ro oc H1 := ho.kept (hk1 ro hrl (fun zz => zz.elim (fun g => absurd g.2 (by omega)) (fun g => absurd g (by omega))))
    have hk := hk k rfl
    subst hk
    refine x_catch (k := 2) (hpc := 12) (pre := []) (x := (0, 9, 12, 19)) (suf := []) C hG hNc (by decide) htab (fun z hz => nomatch hz) (by decide) (by decide) lk_19 rfl hce hcv hcl hl9 ?_
    refine x_astore_n [(3, .ref q9), (0, .ref b), (1, .int a1), (2, .ref ro)] C dL_bandOf_12 rfl (by decide) rfl ?_
    refine x_iconst (1 : Int32) C dL_bandOf_13 rfl ?_
    exact x_iretM2 C rfl dL_bandOf_14 rfl ⟨hw1, ho1⟩ hS1 (nb rfl) (nb rfl)
  · subst hr
    have ho1 : oCell cA D ro oc H1 := ho.kept (hk1 ro hrl (fun zz => zz.elim (fun g => absurd g.2 (by omega)) (fun g => absurd g (by omega))))
    refine x_i2l C dL_bandOf_7 ?_
    refine x_last0 C ho1 in01 dL_bandOf_8 hS1 (Or.inr rfl) (fun H2 locs2 ho2 hn2 hz2 hS2 => ?_)
    have hw2 := hw1.out hro hn2 hz2
    refine x_goto 15 C dL_bandOf_9 (by decide) ?_
    refine x_iconst (0 : Int32) C dL_bandOf_15 rfl ?_
    exact x_iretM2 C rfl dL_bandOf_16 rfl ⟨hw2, ho2⟩ hS2 (nb rfl) (nb rfl)
theorem mw_L_dues : ∀ ix, Cond.methodLink RL ix yL_dues ∈ gW → Cond.methodLink RL ix yL_dues ∈ gW ∧ Cond.static yL_dues ∈ gW ∧ Cond.initialized yL_dues.cls ∈ gW ∧ Cond.codeWith yL_dues cL_dues 4 (some (FieldType.int)) [(0, 9, 12, 19)] ∈ gW ∧ yL_dues.cls ≠ "java/lang/invoke/MethodHandle" ∧ yL_dues.cls ≠ "java/lang/invoke/VarHandle" ∧ (parseMethodDescriptor yL_dues.desc).map (fun d => d.parameters.length) = some 3 := fun _ h => ⟨h, gW_in (gT5 (List.mem_of_getElem? (i := 0) (by decide +kernel))) (by decide +kernel), gW_in (gT1 (List.mem_of_getElem? (i := 0) (by decide +kernel))) (by decide +kernel), gW_in (gT5 (List.mem_of_getElem? (i := 1) (by decide +kernel))) (by decide +kernel), by decide, by decide, by decide +kernel⟩
set_option maxRecDepth 20000 in
set_option maxHeartbeats 4000000 in
theorem k_L_dues (l : Launch) (D : va_G) (cA : Nat → ClassId) (s0 : State) (z : Nat) (b : Nat) (ν : Mm) (sz : Nat) (hG : xG l D cA s0) (hNc : xNc s0) (ro : Nat) (hro : b + 2628 ≤ ro) (hrz : ro < z) (oc : Nat → Int64) (a1 : Int32) (r : Thr Int32) (hF : g_X11_dues ν a1 = some r) (hk : ∀ k, r = .error k → k = 2) : Met l yL_dues (wsH yL_dues cL_dues 4 (some (FieldType.int)) [(0, 9, 12, 19)]) { frames := 10, cells := 1, slots := 6, locals := 196 } (xP D cA s0 [.ref b, .int a1, .ref ro] (fun H => H.size = sz ∧ WC D cA s0 z b ν H ∧ oCell cA D ro oc H)) (xQm (some (.int (thC (fun k => if k = 2 then 1 else 0) r))) (fun H => WC D cA s0 z b (thM (fun _ => ν) ν r) H ∧ oCell cA D ro (thO (fun q => q.toInt64) oc r) H) (xAL b ro sz)) 1 6 (xAL b ro sz) := by
  refine h_start (own := RL) [(0, .ref b), (1, .int a1), (2, .ref ro)] rfl rfl (by decide) (nb rfl) ?_
  intro p e s m args below meth c C htab hw
  obtain ⟨hsz, hw, ho⟩ := hw
  subst hsz
  have hS : va_S (xAL b ro s.heap.size) s.heap s.heap [] := va_S.rf
  have hrl : ro < s.heap.size := at_lt ho
  refine x_aload_n C dL_dues_0 rfl ?_
  refine x_iconst (0 : Int32) C dL_dues_1 rfl ?_
  refine x_aload_n C dL_dues_2 rfl ?_
  refine x_iload_n C dL_dues_3 rfl ?_
  refine t_goC (fun ls h => t_runV (As := [.int a1]) [.int (0 : Int32), .ref ro] h C ml_L_40 (k_X11_dues l D cA s0 z b ν _ hG a1 r hF) ⟨rfl, rfl, nb rfl, nb rfl⟩ rfl (C_PD hw) rfl ⟨rfl, hw⟩ (nb rfl) ⟨nb rfl, nb rfl⟩ dL_dues_4) hS (fun _ h => Or.inl h) (fun k hr H1 locs1 q9 ce hw1 hz1 hk1 hS1 hce hcv hcl ls9 hl9 => ?_) (fun q hr H1 locs1 hw1 hz1 hk1 hS1 => ?_)
  · subst hr
    have ho1 : oCell cA D ro oc H1 := ho.kept (hk1 ro hrl (fun zz => zz.elim (fun g => absurd g.2 (by omega)) (fun g => absurd g (by omega))))
    have hk := hk k rfl
    subst hk
    refine x_catch (k := 2) (hpc := 12) (pre := []) (x := (0, 9, 12, 19)) (suf := []) C hG hNc (by decide) htab (fun z hz => nomatch hz) (by decide) (by decide) lk_19 rfl hce hcv hcl hl9 ?_
    refine x_astore_n [(3, .ref q9), (0, .ref b), (1, .int a1), (2, .ref ro)] C dL_dues_12 rfl (by decide) rfl ?_
    refine x_iconst (1 : Int32) C dL_dues_13 rfl ?_
    exact x_iretM2 C rfl dL_dues_14 rfl ⟨hw1, ho1⟩ hS1 (nb rfl) (nb rfl)
  · subst hr
    have ho1 : oCell cA D ro oc H1 := ho.kept (hk1 ro hrl (fun zz => zz.elim (fun g => absurd g.2 (by omega)) (fun g => absurd g (by omega))))
    refine x_i2l C dL_dues_7 ?_
    refine x_last0 C ho1 in01 dL_dues_8 hS1 (Or.inr rfl) (fun H2 locs2 ho2 hn2 hz2 hS2 => ?_)
    have hw2 := hw1.out hro hn2 hz2
    refine x_goto 15 C dL_dues_9 (by decide) ?_
    refine x_iconst (0 : Int32) C dL_dues_15 rfl ?_
    exact x_iretM2 C rfl dL_dues_16 rfl ⟨hw2, ho2⟩ hS2 (nb rfl) (nb rfl)
theorem mw_L_tonsIn : ∀ ix, Cond.methodLink RL ix yL_tonsIn ∈ gW → Cond.methodLink RL ix yL_tonsIn ∈ gW ∧ Cond.static yL_tonsIn ∈ gW ∧ Cond.initialized yL_tonsIn.cls ∈ gW ∧ Cond.codeWith yL_tonsIn cL_tonsIn 5 (some (FieldType.int)) [(0, 10, 13, 32), (0, 10, 17, 19)] ∈ gW ∧ yL_tonsIn.cls ≠ "java/lang/invoke/MethodHandle" ∧ yL_tonsIn.cls ≠ "java/lang/invoke/VarHandle" ∧ (parseMethodDescriptor yL_tonsIn.desc).map (fun d => d.parameters.length) = some 4 := fun _ h => ⟨h, gW_in (gT5 (List.mem_of_getElem? (i := 8) (by decide +kernel))) (by decide +kernel), gW_in (gT1 (List.mem_of_getElem? (i := 0) (by decide +kernel))) (by decide +kernel), gW_in (gT5 (List.mem_of_getElem? (i := 9) (by decide +kernel))) (by decide +kernel), by decide, by decide, by decide +kernel⟩
set_option maxRecDepth 20000 in
set_option maxHeartbeats 4000000 in
theorem k_L_tonsIn (l : Launch) (D : va_G) (cA : Nat → ClassId) (s0 : State) (z : Nat) (b : Nat) (ν : Mm) (sz : Nat) (hG : xG l D cA s0) (hNc : xNc s0) (ro : Nat) (hro : b + 2628 ≤ ro) (hrz : ro < z) (oc : Nat → Int64) (a1 : Int32) (a2 : Int32) (r : Thr Int32) (hF : g_X11_tonsIn ν a1 a2 = some r) (hk : ∀ k, r = .error k → k = 1 ∨ k = 2) : Met l yL_tonsIn (wsH yL_tonsIn cL_tonsIn 5 (some (FieldType.int)) [(0, 10, 13, 32), (0, 10, 17, 19)]) { frames := 10, cells := 2, slots := 12, locals := 197 } (xP D cA s0 [.ref b, .int a1, .int a2, .ref ro] (fun H => H.size = sz ∧ WC D cA s0 z b ν H ∧ oCell cA D ro oc H)) (xQm (some (.int (thC (fun k => if k = 1 then 1 else if k = 2 then 2 else 0) r))) (fun H => WC D cA s0 z b (thM (fun _ => ν) ν r) H ∧ oCell cA D ro (thO (fun q => q.toInt64) oc r) H) (xAL b ro sz)) 2 12 (xAL b ro sz) := by
  refine h_start (own := RL) [(0, .ref b), (1, .int a1), (2, .int a2), (3, .ref ro)] rfl rfl (by decide) (nb rfl) ?_
  intro p e s m args below meth c C htab hw
  obtain ⟨hsz, hw, ho⟩ := hw
  subst hsz
  have hS : va_S (xAL b ro s.heap.size) s.heap s.heap [] := va_S.rf
  have hrl : ro < s.heap.size := at_lt ho
  refine x_aload_n C dL_tonsIn_0 rfl ?_
  refine x_iconst (0 : Int32) C dL_tonsIn_1 rfl ?_
  refine x_aload_n C dL_tonsIn_2 rfl ?_
  refine x_iload_n C dL_tonsIn_3 rfl ?_
  refine x_iload_n C dL_tonsIn_4 rfl ?_
  refine t_goC (fun ls h => t_runV (As := [.int a1, .int a2]) [.int (0 : Int32), .ref ro] h C ml_L_43 (k_X11_tonsIn l D cA s0 z b ν _ hG a1 a2 r hF) ⟨rfl, rfl, nb rfl, nb rfl⟩ rfl (C_PD hw) rfl ⟨rfl, hw⟩ (nb rfl) ⟨nb rfl, nb rfl⟩ dL_tonsIn_5) hS (fun _ h => Or.inl h) (fun k hr H1 locs1 q9 ce hw1 hz1 hk1 hS1 hce hcv hcl ls9 hl9 => ?_) (fun q hr H1 locs1 hw1 hz1 hk1 hS1 => ?_)
  · subst hr
    have ho1 : oCell cA D ro oc H1 := ho.kept (hk1 ro hrl (fun zz => zz.elim (fun g => absurd g.2 (by omega)) (fun g => absurd g (by omega))))
    rcases hk k rfl with rfl | rfl
    · refine x_catch (k := 1) (hpc := 13) (pre := []) (x := (0, 10, 13, 32)) (suf := [(0, 10, 17, 19)]) C hG hNc (by decide) htab (fun z hz => nomatch hz) (by decide) (by decide) lk_32 rfl hce hcv hcl hl9 ?_
      refine x_astore [(4, .ref q9), (0, .ref b), (1, .int a1), (2, .int a2), (3, .ref ro)] C dL_tonsIn_13 (by decide) rfl ?_
      refine x_iconst (1 : Int32) C dL_tonsIn_15 rfl ?_
      exact x_iretM2 C rfl dL_tonsIn_16 rfl ⟨hw1, ho1⟩ hS1 (nb rfl) (nb rfl)
    · refine x_catch (k := 2) (hpc := 17) (pre := [(0, 10, 13, 32)]) (x := (0, 10, 17, 19)) (suf := []) C hG hNc (by decide) htab (fun z hz => by
        simp only [List.mem_cons, List.not_mem_nil, or_false] at hz
        rcases hz with rfl
        · exact ⟨by decide, 1, by decide, by decide, lk_32⟩) (by decide) (by decide) lk_19 rfl hce hcv hcl hl9 ?_
      refine x_astore [(4, .ref q9), (0, .ref b), (1, .int a1), (2, .int a2), (3, .ref ro)] C dL_tonsIn_17 (by decide) rfl ?_
      refine x_iconst (2 : Int32) C dL_tonsIn_19 rfl ?_
      exact x_iretM2 C rfl dL_tonsIn_20 rfl ⟨hw1, ho1⟩ hS1 (nb rfl) (nb rfl)
  · subst hr
    have ho1 : oCell cA D ro oc H1 := ho.kept (hk1 ro hrl (fun zz => zz.elim (fun g => absurd g.2 (by omega)) (fun g => absurd g (by omega))))
    refine x_i2l C dL_tonsIn_8 ?_
    refine x_last0 C ho1 in01 dL_tonsIn_9 hS1 (Or.inr rfl) (fun H2 locs2 ho2 hn2 hz2 hS2 => ?_)
    have hw2 := hw1.out hro hn2 hz2
    refine x_goto 21 C dL_tonsIn_10 (by decide) ?_
    refine x_iconst (0 : Int32) C dL_tonsIn_21 rfl ?_
    exact x_iretM2 C rfl dL_tonsIn_22 rfl ⟨hw2, ho2⟩ hS2 (nb rfl) (nb rfl)
theorem mw_L_wasteFee : ∀ ix, Cond.methodLink RL ix yL_wasteFee ∈ gW → Cond.methodLink RL ix yL_wasteFee ∈ gW ∧ Cond.static yL_wasteFee ∈ gW ∧ Cond.initialized yL_wasteFee.cls ∈ gW ∧ Cond.codeWith yL_wasteFee cL_wasteFee 4 (some (FieldType.int)) [(0, 9, 12, 19)] ∈ gW ∧ yL_wasteFee.cls ≠ "java/lang/invoke/MethodHandle" ∧ yL_wasteFee.cls ≠ "java/lang/invoke/VarHandle" ∧ (parseMethodDescriptor yL_wasteFee.desc).map (fun d => d.parameters.length) = some 3 := fun _ h => ⟨h, gW_in (gT5 (List.mem_of_getElem? (i := 20) (by decide +kernel))) (by decide +kernel), gW_in (gT1 (List.mem_of_getElem? (i := 0) (by decide +kernel))) (by decide +kernel), gW_in (gT5 (List.mem_of_getElem? (i := 21) (by decide +kernel))) (by decide +kernel), by decide, by decide, by decide +kernel⟩
set_option maxRecDepth 20000 in
set_option maxHeartbeats 4000000 in
theorem k_L_wasteFee (l : Launch) (D : va_G) (cA : Nat → ClassId) (s0 : State) (z : Nat) (b : Nat) (ν : Mm) (sz : Nat) (hG : xG l D cA s0) (hNc : xNc s0) (ro : Nat) (hro : b + 2628 ≤ ro) (hrz : ro < z) (oc : Nat → Int64) (a1 : Int32) (r : Thr Int32) (hF : g_X11_wasteFee ν a1 = some r) (hk : ∀ k, r = .error k → k = 2) : Met l yL_wasteFee (wsH yL_wasteFee cL_wasteFee 4 (some (FieldType.int)) [(0, 9, 12, 19)]) { frames := 10, cells := 1, slots := 6, locals := 196 } (xP D cA s0 [.ref b, .int a1, .ref ro] (fun H => H.size = sz ∧ WC D cA s0 z b ν H ∧ oCell cA D ro oc H)) (xQm (some (.int (thC (fun k => if k = 2 then 1 else 0) r))) (fun H => WC D cA s0 z b (thM (fun _ => ν) ν r) H ∧ oCell cA D ro (thO (fun q => q.toInt64) oc r) H) (xAL b ro sz)) 1 6 (xAL b ro sz) := by
  refine h_start (own := RL) [(0, .ref b), (1, .int a1), (2, .ref ro)] rfl rfl (by decide) (nb rfl) ?_
  intro p e s m args below meth c C htab hw
  obtain ⟨hsz, hw, ho⟩ := hw
  subst hsz
  have hS : va_S (xAL b ro s.heap.size) s.heap s.heap [] := va_S.rf
  have hrl : ro < s.heap.size := at_lt ho
  refine x_aload_n C dL_wasteFee_0 rfl ?_
  refine x_iconst (0 : Int32) C dL_wasteFee_1 rfl ?_
  refine x_aload_n C dL_wasteFee_2 rfl ?_
  refine x_iload_n C dL_wasteFee_3 rfl ?_
  refine t_goC (fun ls h => t_runV (As := [.int a1]) [.int (0 : Int32), .ref ro] h C ml_L_46 (k_X11_wasteFee l D cA s0 z b ν _ hG a1 r hF) ⟨rfl, rfl, nb rfl, nb rfl⟩ rfl (C_PD hw) rfl ⟨rfl, hw⟩ (nb rfl) ⟨nb rfl, nb rfl⟩ dL_wasteFee_4) hS (fun _ h => Or.inl h) (fun k hr H1 locs1 q9 ce hw1 hz1 hk1 hS1 hce hcv hcl ls9 hl9 => ?_) (fun q hr H1 locs1 hw1 hz1 hk1 hS1 => ?_)
  · subst hr
    have ho1 : oCell cA D ro oc H1 := ho.kept (hk1 ro hrl (fun zz => zz.elim (fun g => absurd g.2 (by omega)) (fun g => absurd g (by omega))))
    have hk := hk k rfl
    subst hk
    refine x_catch (k := 2) (hpc := 12) (pre := []) (x := (0, 9, 12, 19)) (suf := []) C hG hNc (by decide) htab (fun z hz => nomatch hz) (by decide) (by decide) lk_19 rfl hce hcv hcl hl9 ?_
    refine x_astore_n [(3, .ref q9), (0, .ref b), (1, .int a1), (2, .ref ro)] C dL_wasteFee_12 rfl (by decide) rfl ?_
    refine x_iconst (1 : Int32) C dL_wasteFee_13 rfl ?_
    exact x_iretM2 C rfl dL_wasteFee_14 rfl ⟨hw1, ho1⟩ hS1 (nb rfl) (nb rfl)
  · subst hr
    have ho1 : oCell cA D ro oc H1 := ho.kept (hk1 ro hrl (fun zz => zz.elim (fun g => absurd g.2 (by omega)) (fun g => absurd g (by omega))))
    refine x_i2l C dL_wasteFee_7 ?_
    refine x_last0 C ho1 in01 dL_wasteFee_8 hS1 (Or.inr rfl) (fun H2 locs2 ho2 hn2 hz2 hS2 => ?_)
    have hw2 := hw1.out hro hn2 hz2
    refine x_goto 15 C dL_wasteFee_9 (by decide) ?_
    refine x_iconst (0 : Int32) C dL_wasteFee_15 rfl ?_
    exact x_iretM2 C rfl dL_wasteFee_16 rfl ⟨hw2, ho2⟩ hS2 (nb rfl) (nb rfl)
theorem mw_L_tons : ∀ ix, Cond.methodLink RL ix yL_tons ∈ gW → Cond.methodLink RL ix yL_tons ∈ gW ∧ Cond.static yL_tons ∈ gW ∧ Cond.initialized yL_tons.cls ∈ gW ∧ Cond.codeWith yL_tons cL_tons 4 (some (FieldType.int)) [(0, 9, 12, 32)] ∈ gW ∧ yL_tons.cls ≠ "java/lang/invoke/MethodHandle" ∧ yL_tons.cls ≠ "java/lang/invoke/VarHandle" ∧ (parseMethodDescriptor yL_tons.desc).map (fun d => d.parameters.length) = some 3 := fun _ h => ⟨h, gW_in (gT5 (List.mem_of_getElem? (i := 28) (by decide +kernel))) (by decide +kernel), gW_in (gT1 (List.mem_of_getElem? (i := 0) (by decide +kernel))) (by decide +kernel), gW_in (gT5 (List.mem_of_getElem? (i := 29) (by decide +kernel))) (by decide +kernel), by decide, by decide, by decide +kernel⟩
set_option maxRecDepth 20000 in
set_option maxHeartbeats 4000000 in
theorem k_L_tons (l : Launch) (D : va_G) (cA : Nat → ClassId) (s0 : State) (z : Nat) (b : Nat) (ν : Mm) (sz : Nat) (hG : xG l D cA s0) (hNc : xNc s0) (ro : Nat) (hro : b + 2628 ≤ ro) (hrz : ro < z) (oc : Nat → Int64) (a1 : Int32) (r : Thr Int32) (hF : g_X11_tons ν a1 = some r) (hk : ∀ k, r = .error k → k = 1) : Met l yL_tons (wsH yL_tons cL_tons 4 (some (FieldType.int)) [(0, 9, 12, 32)]) { frames := 10, cells := 1, slots := 6, locals := 196 } (xP D cA s0 [.ref b, .int a1, .ref ro] (fun H => H.size = sz ∧ WC D cA s0 z b ν H ∧ oCell cA D ro oc H)) (xQm (some (.int (thC (fun k => if k = 1 then 1 else 0) r))) (fun H => WC D cA s0 z b (thM (fun _ => ν) ν r) H ∧ oCell cA D ro (thO (fun q => q.toInt64) oc r) H) (xAL b ro sz)) 1 6 (xAL b ro sz) := by
  refine h_start (own := RL) [(0, .ref b), (1, .int a1), (2, .ref ro)] rfl rfl (by decide) (nb rfl) ?_
  intro p e s m args below meth c C htab hw
  obtain ⟨hsz, hw, ho⟩ := hw
  subst hsz
  have hS : va_S (xAL b ro s.heap.size) s.heap s.heap [] := va_S.rf
  have hrl : ro < s.heap.size := at_lt ho
  refine x_aload_n C dL_tons_0 rfl ?_
  refine x_iconst (0 : Int32) C dL_tons_1 rfl ?_
  refine x_aload_n C dL_tons_2 rfl ?_
  refine x_iload_n C dL_tons_3 rfl ?_
  refine t_goC (fun ls h => t_runV (As := [.int a1]) [.int (0 : Int32), .ref ro] h C ml_L_49 (k_X11_tons l D cA s0 z b ν _ hG a1 r hF) ⟨rfl, rfl, nb rfl, nb rfl⟩ rfl (C_PD hw) rfl ⟨rfl, hw⟩ (nb rfl) ⟨nb rfl, nb rfl⟩ dL_tons_4) hS (fun _ h => Or.inl h) (fun k hr H1 locs1 q9 ce hw1 hz1 hk1 hS1 hce hcv hcl ls9 hl9 => ?_) (fun q hr H1 locs1 hw1 hz1 hk1 hS1 => ?_)
  · subst hr
    have ho1 : oCell cA D ro oc H1 := ho.kept (hk1 ro hrl (fun zz => zz.elim (fun g => absurd g.2 (by omega)) (fun g => absurd g (by omega))))
    have hk := hk k rfl
    subst hk
    refine x_catch (k := 1) (hpc := 12) (pre := []) (x := (0, 9, 12, 32)) (suf := []) C hG hNc (by decide) htab (fun z hz => nomatch hz) (by decide) (by decide) lk_32 rfl hce hcv hcl hl9 ?_
    refine x_astore_n [(3, .ref q9), (0, .ref b), (1, .int a1), (2, .ref ro)] C dL_tons_12 rfl (by decide) rfl ?_
    refine x_iconst (1 : Int32) C dL_tons_13 rfl ?_
    exact x_iretM2 C rfl dL_tons_14 rfl ⟨hw1, ho1⟩ hS1 (nb rfl) (nb rfl)
  · subst hr
    have ho1 : oCell cA D ro oc H1 := ho.kept (hk1 ro hrl (fun zz => zz.elim (fun g => absurd g.2 (by omega)) (fun g => absurd g (by omega))))
    refine x_i2l C dL_tons_7 ?_
    refine x_last0 C ho1 in01 dL_tons_8 hS1 (Or.inr rfl) (fun H2 locs2 ho2 hn2 hz2 hS2 => ?_)
    have hw2 := hw1.out hro hn2 hz2
    refine x_goto 15 C dL_tons_9 (by decide) ?_
    refine x_iconst (0 : Int32) C dL_tons_15 rfl ?_
    exact x_iretM2 C rfl dL_tons_16 rfl ⟨hw2, ho2⟩ hS2 (nb rfl) (nb rfl)
theorem mw_L_calls : ∀ ix, Cond.methodLink RL ix yL_calls ∈ gW → Cond.methodLink RL ix yL_calls ∈ gW ∧ Cond.static yL_calls ∈ gW ∧ Cond.initialized yL_calls.cls ∈ gW ∧ Cond.codeWith yL_calls cL_calls 5 (some (FieldType.int)) [(0, 10, 13, 32), (0, 10, 17, 19)] ∈ gW ∧ yL_calls.cls ≠ "java/lang/invoke/MethodHandle" ∧ yL_calls.cls ≠ "java/lang/invoke/VarHandle" ∧ (parseMethodDescriptor yL_calls.desc).map (fun d => d.parameters.length) = some 4 := fun _ h => ⟨h, gW_in (gT5 (List.mem_of_getElem? (i := 39) (by decide +kernel))) (by decide +kernel), gW_in (gT1 (List.mem_of_getElem? (i := 0) (by decide +kernel))) (by decide +kernel), gW_in (gT5 (List.mem_of_getElem? (i := 40) (by decide +kernel))) (by decide +kernel), by decide, by decide, by decide +kernel⟩
set_option maxRecDepth 20000 in
set_option maxHeartbeats 4000000 in
theorem k_L_calls (l : Launch) (D : va_G) (cA : Nat → ClassId) (s0 : State) (z : Nat) (b : Nat) (ν : Mm) (sz : Nat) (hG : xG l D cA s0) (hNc : xNc s0) (ro : Nat) (hro : b + 2628 ≤ ro) (hrz : ro < z) (oc : Nat → Int64) (a1 : Int32) (a2 : Int32) (r : Thr Int32) (hF : g_X11_calls ν a1 a2 = some r) (hk : ∀ k, r = .error k → k = 1 ∨ k = 2) : Met l yL_calls (wsH yL_calls cL_calls 5 (some (FieldType.int)) [(0, 10, 13, 32), (0, 10, 17, 19)]) { frames := 10, cells := 2, slots := 12, locals := 197 } (xP D cA s0 [.ref b, .int a1, .int a2, .ref ro] (fun H => H.size = sz ∧ WC D cA s0 z b ν H ∧ oCell cA D ro oc H)) (xQm (some (.int (thC (fun k => if k = 1 then 1 else if k = 2 then 2 else 0) r))) (fun H => WC D cA s0 z b (thM (fun _ => ν) ν r) H ∧ oCell cA D ro (thO (fun q => q.toInt64) oc r) H) (xAL b ro sz)) 2 12 (xAL b ro sz) := by
  refine h_start (own := RL) [(0, .ref b), (1, .int a1), (2, .int a2), (3, .ref ro)] rfl rfl (by decide) (nb rfl) ?_
  intro p e s m args below meth c C htab hw
  obtain ⟨hsz, hw, ho⟩ := hw
  subst hsz
  have hS : va_S (xAL b ro s.heap.size) s.heap s.heap [] := va_S.rf
  have hrl : ro < s.heap.size := at_lt ho
  refine x_aload_n C dL_calls_0 rfl ?_
  refine x_iconst (0 : Int32) C dL_calls_1 rfl ?_
  refine x_aload_n C dL_calls_2 rfl ?_
  refine x_iload_n C dL_calls_3 rfl ?_
  refine x_iload_n C dL_calls_4 rfl ?_
  refine t_goC (fun ls h => t_runV (As := [.int a1, .int a2]) [.int (0 : Int32), .ref ro] h C ml_L_52 (k_X11_calls l D cA s0 z b ν _ hG a1 a2 r hF) ⟨rfl, rfl, nb rfl, nb rfl⟩ rfl (C_PD hw) rfl ⟨rfl, hw⟩ (nb rfl) ⟨nb rfl, nb rfl⟩ dL_calls_5) hS (fun _ h => Or.inl h) (fun k hr H1 locs1 q9 ce hw1 hz1 hk1 hS1 hce hcv hcl ls9 hl9 => ?_) (fun q hr H1 locs1 hw1 hz1 hk1 hS1 => ?_)
  · subst hr
    have ho1 : oCell cA D ro oc H1 := ho.kept (hk1 ro hrl (fun zz => zz.elim (fun g => absurd g.2 (by omega)) (fun g => absurd g (by omega))))
    rcases hk k rfl with rfl | rfl
    · refine x_catch (k := 1) (hpc := 13) (pre := []) (x := (0, 10, 13, 32)) (suf := [(0, 10, 17, 19)]) C hG hNc (by decide) htab (fun z hz => nomatch hz) (by decide) (by decide) lk_32 rfl hce hcv hcl hl9 ?_
      refine x_astore [(4, .ref q9), (0, .ref b), (1, .int a1), (2, .int a2), (3, .ref ro)] C dL_calls_13 (by decide) rfl ?_
      refine x_iconst (1 : Int32) C dL_calls_15 rfl ?_
      exact x_iretM2 C rfl dL_calls_16 rfl ⟨hw1, ho1⟩ hS1 (nb rfl) (nb rfl)
    · refine x_catch (k := 2) (hpc := 17) (pre := [(0, 10, 13, 32)]) (x := (0, 10, 17, 19)) (suf := []) C hG hNc (by decide) htab (fun z hz => by
        simp only [List.mem_cons, List.not_mem_nil, or_false] at hz
        rcases hz with rfl
        · exact ⟨by decide, 1, by decide, by decide, lk_32⟩) (by decide) (by decide) lk_19 rfl hce hcv hcl hl9 ?_
      refine x_astore [(4, .ref q9), (0, .ref b), (1, .int a1), (2, .int a2), (3, .ref ro)] C dL_calls_17 (by decide) rfl ?_
      refine x_iconst (2 : Int32) C dL_calls_19 rfl ?_
      exact x_iretM2 C rfl dL_calls_20 rfl ⟨hw1, ho1⟩ hS1 (nb rfl) (nb rfl)
  · subst hr
    have ho1 : oCell cA D ro oc H1 := ho.kept (hk1 ro hrl (fun zz => zz.elim (fun g => absurd g.2 (by omega)) (fun g => absurd g (by omega))))
    refine x_i2l C dL_calls_8 ?_
    refine x_last0 C ho1 in01 dL_calls_9 hS1 (Or.inr rfl) (fun H2 locs2 ho2 hn2 hz2 hS2 => ?_)
    have hw2 := hw1.out hro hn2 hz2
    refine x_goto 21 C dL_calls_10 (by decide) ?_
    refine x_iconst (0 : Int32) C dL_calls_21 rfl ?_
    exact x_iretM2 C rfl dL_calls_22 rfl ⟨hw2, ho2⟩ hS2 (nb rfl) (nb rfl)
theorem mw_L_call : ∀ ix, Cond.methodLink RL ix yL_call ∈ gW → Cond.methodLink RL ix yL_call ∈ gW ∧ Cond.static yL_call ∈ gW ∧ Cond.initialized yL_call.cls ∈ gW ∧ Cond.codeWith yL_call cL_call 5 (some (FieldType.int)) [(0, 10, 13, 32), (0, 10, 17, 19)] ∈ gW ∧ yL_call.cls ≠ "java/lang/invoke/MethodHandle" ∧ yL_call.cls ≠ "java/lang/invoke/VarHandle" ∧ (parseMethodDescriptor yL_call.desc).map (fun d => d.parameters.length) = some 4 := fun _ h => ⟨h, gW_in (gT5 (List.mem_of_getElem? (i := 50) (by decide +kernel))) (by decide +kernel), gW_in (gT1 (List.mem_of_getElem? (i := 0) (by decide +kernel))) (by decide +kernel), gW_in (gT5 (List.mem_of_getElem? (i := 51) (by decide +kernel))) (by decide +kernel), by decide, by decide, by decide +kernel⟩
set_option maxRecDepth 20000 in
set_option maxHeartbeats 4000000 in
theorem k_L_call (l : Launch) (D : va_G) (cA : Nat → ClassId) (s0 : State) (z : Nat) (b : Nat) (ν : Mm) (sz : Nat) (hG : xG l D cA s0) (hNc : xNc s0) (ro : Nat) (hro : b + 2628 ≤ ro) (hrz : ro < z) (oc : Nat → Int64) (a1 : Int32) (a2 : Int32) (r : Thr Int32) (hF : g_X11_call ν a1 a2 = some r) (hk : ∀ k, r = .error k → k = 1 ∨ k = 2) : Met l yL_call (wsH yL_call cL_call 5 (some (FieldType.int)) [(0, 10, 13, 32), (0, 10, 17, 19)]) { frames := 10, cells := 2, slots := 12, locals := 198 } (xP D cA s0 [.ref b, .int a1, .int a2, .ref ro] (fun H => H.size = sz ∧ WC D cA s0 z b ν H ∧ oCell cA D ro oc H)) (xQm (some (.int (thC (fun k => if k = 1 then 1 else if k = 2 then 2 else 0) r))) (fun H => WC D cA s0 z b (thM (fun _ => ν) ν r) H ∧ oCell cA D ro (thO (fun q => q.toInt64) oc r) H) (xAL b ro sz)) 2 12 (xAL b ro sz) := by
  refine h_start (own := RL) [(0, .ref b), (1, .int a1), (2, .int a2), (3, .ref ro)] rfl rfl (by decide) (nb rfl) ?_
  intro p e s m args below meth c C htab hw
  obtain ⟨hsz, hw, ho⟩ := hw
  subst hsz
  have hS : va_S (xAL b ro s.heap.size) s.heap s.heap [] := va_S.rf
  have hrl : ro < s.heap.size := at_lt ho
  refine x_aload_n C dL_call_0 rfl ?_
  refine x_iconst (0 : Int32) C dL_call_1 rfl ?_
  refine x_aload_n C dL_call_2 rfl ?_
  refine x_iload_n C dL_call_3 rfl ?_
  refine x_iload_n C dL_call_4 rfl ?_
  refine t_goC (fun ls h => t_runV (As := [.int a1, .int a2]) [.int (0 : Int32), .ref ro] h C ml_L_55 (k_X11_call l D cA s0 z b ν _ hG a1 a2 r hF) ⟨rfl, rfl, nb rfl, nb rfl⟩ rfl (C_PD hw) rfl ⟨rfl, hw⟩ (nb rfl) ⟨nb rfl, nb rfl⟩ dL_call_5) hS (fun _ h => Or.inl h) (fun k hr H1 locs1 q9 ce hw1 hz1 hk1 hS1 hce hcv hcl ls9 hl9 => ?_) (fun q hr H1 locs1 hw1 hz1 hk1 hS1 => ?_)
  · subst hr
    have ho1 : oCell cA D ro oc H1 := ho.kept (hk1 ro hrl (fun zz => zz.elim (fun g => absurd g.2 (by omega)) (fun g => absurd g (by omega))))
    rcases hk k rfl with rfl | rfl
    · refine x_catch (k := 1) (hpc := 13) (pre := []) (x := (0, 10, 13, 32)) (suf := [(0, 10, 17, 19)]) C hG hNc (by decide) htab (fun z hz => nomatch hz) (by decide) (by decide) lk_32 rfl hce hcv hcl hl9 ?_
      refine x_astore [(4, .ref q9), (0, .ref b), (1, .int a1), (2, .int a2), (3, .ref ro)] C dL_call_13 (by decide) rfl ?_
      refine x_iconst (1 : Int32) C dL_call_15 rfl ?_
      exact x_iretM2 C rfl dL_call_16 rfl ⟨hw1, ho1⟩ hS1 (nb rfl) (nb rfl)
    · refine x_catch (k := 2) (hpc := 17) (pre := [(0, 10, 13, 32)]) (x := (0, 10, 17, 19)) (suf := []) C hG hNc (by decide) htab (fun z hz => by
        simp only [List.mem_cons, List.not_mem_nil, or_false] at hz
        rcases hz with rfl
        · exact ⟨by decide, 1, by decide, by decide, lk_32⟩) (by decide) (by decide) lk_19 rfl hce hcv hcl hl9 ?_
      refine x_astore [(4, .ref q9), (0, .ref b), (1, .int a1), (2, .int a2), (3, .ref ro)] C dL_call_17 (by decide) rfl ?_
      refine x_iconst (2 : Int32) C dL_call_19 rfl ?_
      exact x_iretM2 C rfl dL_call_20 rfl ⟨hw1, ho1⟩ hS1 (nb rfl) (nb rfl)
  · subst hr
    have ho1 : oCell cA D ro oc H1 := ho.kept (hk1 ro hrl (fun zz => zz.elim (fun g => absurd g.2 (by omega)) (fun g => absurd g (by omega))))
    refine x_i2l C dL_call_8 ?_
    refine x_last0 C ho1 in01 dL_call_9 hS1 (Or.inr rfl) (fun H2 locs2 ho2 hn2 hz2 hS2 => ?_)
    have hw2 := hw1.out hro hn2 hz2
    refine x_goto 21 C dL_call_10 (by decide) ?_
    refine x_iconst (0 : Int32) C dL_call_21 rfl ?_
    exact x_iretM2 C rfl dL_call_22 rfl ⟨hw2, ho2⟩ hS2 (nb rfl) (nb rfl)
theorem mw_L_layDays : ∀ ix, Cond.methodLink RL ix yL_layDays ∈ gW → Cond.methodLink RL ix yL_layDays ∈ gW ∧ Cond.static yL_layDays ∈ gW ∧ Cond.initialized yL_layDays.cls ∈ gW ∧ Cond.codeWith yL_layDays cL_layDays 4 (some (FieldType.int)) [(0, 9, 12, 32)] ∈ gW ∧ yL_layDays.cls ≠ "java/lang/invoke/MethodHandle" ∧ yL_layDays.cls ≠ "java/lang/invoke/VarHandle" ∧ (parseMethodDescriptor yL_layDays.desc).map (fun d => d.parameters.length) = some 3 := fun _ h => ⟨h, gW_in (gT5 (List.mem_of_getElem? (i := 68) (by decide +kernel))) (by decide +kernel), gW_in (gT1 (List.mem_of_getElem? (i := 0) (by decide +kernel))) (by decide +kernel), gW_in (gT5 (List.mem_of_getElem? (i := 69) (by decide +kernel))) (by decide +kernel), by decide, by decide, by decide +kernel⟩
set_option maxRecDepth 20000 in
set_option maxHeartbeats 4000000 in
theorem k_L_layDays (l : Launch) (D : va_G) (cA : Nat → ClassId) (s0 : State) (z : Nat) (b : Nat) (ν : Mm) (sz : Nat) (hG : xG l D cA s0) (hNc : xNc s0) (ro : Nat) (hro : b + 2628 ≤ ro) (hrz : ro < z) (oc : Nat → Int64) (a1 : Int32) (r : Thr Int32) (hF : g_X11_layDays ν a1 = some r) (hk : ∀ k, r = .error k → k = 1) : Met l yL_layDays (wsH yL_layDays cL_layDays 4 (some (FieldType.int)) [(0, 9, 12, 32)]) { frames := 10, cells := 1, slots := 6, locals := 196 } (xP D cA s0 [.ref b, .int a1, .ref ro] (fun H => H.size = sz ∧ WC D cA s0 z b ν H ∧ oCell cA D ro oc H)) (xQm (some (.int (thC (fun k => if k = 1 then 1 else 0) r))) (fun H => WC D cA s0 z b (thM (fun _ => ν) ν r) H ∧ oCell cA D ro (thO (fun q => q.toInt64) oc r) H) (xAL b ro sz)) 1 6 (xAL b ro sz) := by
  refine h_start (own := RL) [(0, .ref b), (1, .int a1), (2, .ref ro)] rfl rfl (by decide) (nb rfl) ?_
  intro p e s m args below meth c C htab hw
  obtain ⟨hsz, hw, ho⟩ := hw
  subst hsz
  have hS : va_S (xAL b ro s.heap.size) s.heap s.heap [] := va_S.rf
  have hrl : ro < s.heap.size := at_lt ho
  refine x_aload_n C dL_layDays_0 rfl ?_
  refine x_iconst (0 : Int32) C dL_layDays_1 rfl ?_
  refine x_aload_n C dL_layDays_2 rfl ?_
  refine x_iload_n C dL_layDays_3 rfl ?_
  refine t_goC (fun ls h => t_runV (As := [.int a1]) [.int (0 : Int32), .ref ro] h C ml_L_58 (k_X11_layDays l D cA s0 z b ν _ hG a1 r hF) ⟨rfl, rfl, nb rfl, nb rfl⟩ rfl (C_PD hw) rfl ⟨rfl, hw⟩ (nb rfl) ⟨nb rfl, nb rfl⟩ dL_layDays_4) hS (fun _ h => Or.inl h) (fun k hr H1 locs1 q9 ce hw1 hz1 hk1 hS1 hce hcv hcl ls9 hl9 => ?_) (fun q hr H1 locs1 hw1 hz1 hk1 hS1 => ?_)
  · subst hr
    have ho1 : oCell cA D ro oc H1 := ho.kept (hk1 ro hrl (fun zz => zz.elim (fun g => absurd g.2 (by omega)) (fun g => absurd g (by omega))))
    have hk := hk k rfl
    subst hk
    refine x_catch (k := 1) (hpc := 12) (pre := []) (x := (0, 9, 12, 32)) (suf := []) C hG hNc (by decide) htab (fun z hz => nomatch hz) (by decide) (by decide) lk_32 rfl hce hcv hcl hl9 ?_
    refine x_astore_n [(3, .ref q9), (0, .ref b), (1, .int a1), (2, .ref ro)] C dL_layDays_12 rfl (by decide) rfl ?_
    refine x_iconst (1 : Int32) C dL_layDays_13 rfl ?_
    exact x_iretM2 C rfl dL_layDays_14 rfl ⟨hw1, ho1⟩ hS1 (nb rfl) (nb rfl)
  · subst hr
    have ho1 : oCell cA D ro oc H1 := ho.kept (hk1 ro hrl (fun zz => zz.elim (fun g => absurd g.2 (by omega)) (fun g => absurd g (by omega))))
    refine x_i2l C dL_layDays_7 ?_
    refine x_last0 C ho1 in01 dL_layDays_8 hS1 (Or.inr rfl) (fun H2 locs2 ho2 hn2 hz2 hS2 => ?_)
    have hw2 := hw1.out hro hn2 hz2
    refine x_goto 15 C dL_layDays_9 (by decide) ?_
    refine x_iconst (0 : Int32) C dL_layDays_15 rfl ?_
    exact x_iretM2 C rfl dL_layDays_16 rfl ⟨hw2, ho2⟩ hS2 (nb rfl) (nb rfl)
theorem mw_L_pending : ∀ ix, Cond.methodLink RL ix yL_pending ∈ gW → Cond.methodLink RL ix yL_pending ∈ gW ∧ Cond.static yL_pending ∈ gW ∧ Cond.initialized yL_pending.cls ∈ gW ∧ Cond.codeWith yL_pending cL_pending 4 (some (FieldType.int)) [(0, 9, 12, 32)] ∈ gW ∧ yL_pending.cls ≠ "java/lang/invoke/MethodHandle" ∧ yL_pending.cls ≠ "java/lang/invoke/VarHandle" ∧ (parseMethodDescriptor yL_pending.desc).map (fun d => d.parameters.length) = some 3 := fun _ h => ⟨h, gW_in (gT5 (List.mem_of_getElem? (i := 80) (by decide +kernel))) (by decide +kernel), gW_in (gT1 (List.mem_of_getElem? (i := 0) (by decide +kernel))) (by decide +kernel), gW_in (gT5 (List.mem_of_getElem? (i := 81) (by decide +kernel))) (by decide +kernel), by decide, by decide, by decide +kernel⟩
set_option maxRecDepth 20000 in
set_option maxHeartbeats 4000000 in
theorem k_L_pending (l : Launch) (D : va_G) (cA : Nat → ClassId) (s0 : State) (z : Nat) (b : Nat) (ν : Mm) (sz : Nat) (hG : xG l D cA s0) (hNc : xNc s0) (ro : Nat) (hro : b + 2628 ≤ ro) (hrz : ro < z) (oc : Nat → Int64) (a1 : Int32) (r : Thr Int32) (hF : g_X11_pending ν a1 = some r) (hk : ∀ k, r = .error k → k = 1) : Met l yL_pending (wsH yL_pending cL_pending 4 (some (FieldType.int)) [(0, 9, 12, 32)]) { frames := 10, cells := 1, slots := 6, locals := 196 } (xP D cA s0 [.ref b, .int a1, .ref ro] (fun H => H.size = sz ∧ WC D cA s0 z b ν H ∧ oCell cA D ro oc H)) (xQm (some (.int (thC (fun k => if k = 1 then 1 else 0) r))) (fun H => WC D cA s0 z b (thM (fun _ => ν) ν r) H ∧ oCell cA D ro (thO (fun q => q.toInt64) oc r) H) (xAL b ro sz)) 1 6 (xAL b ro sz) := by
  refine h_start (own := RL) [(0, .ref b), (1, .int a1), (2, .ref ro)] rfl rfl (by decide) (nb rfl) ?_
  intro p e s m args below meth c C htab hw
  obtain ⟨hsz, hw, ho⟩ := hw
  subst hsz
  have hS : va_S (xAL b ro s.heap.size) s.heap s.heap [] := va_S.rf
  have hrl : ro < s.heap.size := at_lt ho
  refine x_aload_n C dL_pending_0 rfl ?_
  refine x_iconst (0 : Int32) C dL_pending_1 rfl ?_
  refine x_aload_n C dL_pending_2 rfl ?_
  refine x_iload_n C dL_pending_3 rfl ?_
  refine t_goC (fun ls h => t_runV (As := [.int a1]) [.int (0 : Int32), .ref ro] h C ml_L_61 (k_X11_pending l D cA s0 z b ν _ hG a1 r hF) ⟨rfl, rfl, nb rfl, nb rfl⟩ rfl (C_PD hw) rfl ⟨rfl, hw⟩ (nb rfl) ⟨nb rfl, nb rfl⟩ dL_pending_4) hS (fun _ h => Or.inl h) (fun k hr H1 locs1 q9 ce hw1 hz1 hk1 hS1 hce hcv hcl ls9 hl9 => ?_) (fun q hr H1 locs1 hw1 hz1 hk1 hS1 => ?_)
  · subst hr
    have ho1 : oCell cA D ro oc H1 := ho.kept (hk1 ro hrl (fun zz => zz.elim (fun g => absurd g.2 (by omega)) (fun g => absurd g (by omega))))
    have hk := hk k rfl
    subst hk
    refine x_catch (k := 1) (hpc := 12) (pre := []) (x := (0, 9, 12, 32)) (suf := []) C hG hNc (by decide) htab (fun z hz => nomatch hz) (by decide) (by decide) lk_32 rfl hce hcv hcl hl9 ?_
    refine x_astore_n [(3, .ref q9), (0, .ref b), (1, .int a1), (2, .ref ro)] C dL_pending_12 rfl (by decide) rfl ?_
    refine x_iconst (1 : Int32) C dL_pending_13 rfl ?_
    exact x_iretM2 C rfl dL_pending_14 rfl ⟨hw1, ho1⟩ hS1 (nb rfl) (nb rfl)
  · subst hr
    have ho1 : oCell cA D ro oc H1 := ho.kept (hk1 ro hrl (fun zz => zz.elim (fun g => absurd g.2 (by omega)) (fun g => absurd g (by omega))))
    refine x_i2l C dL_pending_7 ?_
    refine x_last0 C ho1 in01 dL_pending_8 hS1 (Or.inr rfl) (fun H2 locs2 ho2 hn2 hz2 hS2 => ?_)
    have hw2 := hw1.out hro hn2 hz2
    refine x_goto 15 C dL_pending_9 (by decide) ?_
    refine x_iconst (0 : Int32) C dL_pending_15 rfl ?_
    exact x_iretM2 C rfl dL_pending_16 rfl ⟨hw2, ho2⟩ hS2 (nb rfl) (nb rfl)
theorem mw_L_upheld : ∀ ix, Cond.methodLink RL ix yL_upheld ∈ gW → Cond.methodLink RL ix yL_upheld ∈ gW ∧ Cond.static yL_upheld ∈ gW ∧ Cond.initialized yL_upheld.cls ∈ gW ∧ Cond.codeWith yL_upheld cL_upheld 4 (some (FieldType.int)) [(0, 9, 12, 32)] ∈ gW ∧ yL_upheld.cls ≠ "java/lang/invoke/MethodHandle" ∧ yL_upheld.cls ≠ "java/lang/invoke/VarHandle" ∧ (parseMethodDescriptor yL_upheld.desc).map (fun d => d.parameters.length) = some 3 := fun _ h => ⟨h, gW_in (gT5 (List.mem_of_getElem? (i := 87) (by decide +kernel))) (by decide +kernel), gW_in (gT1 (List.mem_of_getElem? (i := 0) (by decide +kernel))) (by decide +kernel), gW_in (gT5 (List.mem_of_getElem? (i := 88) (by decide +kernel))) (by decide +kernel), by decide, by decide, by decide +kernel⟩
set_option maxRecDepth 20000 in
set_option maxHeartbeats 4000000 in
theorem k_L_upheld (l : Launch) (D : va_G) (cA : Nat → ClassId) (s0 : State) (z : Nat) (b : Nat) (ν : Mm) (sz : Nat) (hG : xG l D cA s0) (hNc : xNc s0) (ro : Nat) (hro : b + 2628 ≤ ro) (hrz : ro < z) (oc : Nat → Int64) (a1 : Int32) (r : Thr Int32) (hF : g_X11_upheld ν a1 = some r) (hk : ∀ k, r = .error k → k = 1) : Met l yL_upheld (wsH yL_upheld cL_upheld 4 (some (FieldType.int)) [(0, 9, 12, 32)]) { frames := 10, cells := 1, slots := 6, locals := 196 } (xP D cA s0 [.ref b, .int a1, .ref ro] (fun H => H.size = sz ∧ WC D cA s0 z b ν H ∧ oCell cA D ro oc H)) (xQm (some (.int (thC (fun k => if k = 1 then 1 else 0) r))) (fun H => WC D cA s0 z b (thM (fun _ => ν) ν r) H ∧ oCell cA D ro (thO (fun q => q.toInt64) oc r) H) (xAL b ro sz)) 1 6 (xAL b ro sz) := by
  refine h_start (own := RL) [(0, .ref b), (1, .int a1), (2, .ref ro)] rfl rfl (by decide) (nb rfl) ?_
  intro p e s m args below meth c C htab hw
  obtain ⟨hsz, hw, ho⟩ := hw
  subst hsz
  have hS : va_S (xAL b ro s.heap.size) s.heap s.heap [] := va_S.rf
  have hrl : ro < s.heap.size := at_lt ho
  refine x_aload_n C dL_upheld_0 rfl ?_
  refine x_iconst (0 : Int32) C dL_upheld_1 rfl ?_
  refine x_aload_n C dL_upheld_2 rfl ?_
  refine x_iload_n C dL_upheld_3 rfl ?_
  refine t_goC (fun ls h => t_runV (As := [.int a1]) [.int (0 : Int32), .ref ro] h C ml_L_64 (k_X11_upheld l D cA s0 z b ν _ hG a1 r hF) ⟨rfl, rfl, nb rfl, nb rfl⟩ rfl (C_PD hw) rfl ⟨rfl, hw⟩ (nb rfl) ⟨nb rfl, nb rfl⟩ dL_upheld_4) hS (fun _ h => Or.inl h) (fun k hr H1 locs1 q9 ce hw1 hz1 hk1 hS1 hce hcv hcl ls9 hl9 => ?_) (fun q hr H1 locs1 hw1 hz1 hk1 hS1 => ?_)
  · subst hr
    have ho1 : oCell cA D ro oc H1 := ho.kept (hk1 ro hrl (fun zz => zz.elim (fun g => absurd g.2 (by omega)) (fun g => absurd g (by omega))))
    have hk := hk k rfl
    subst hk
    refine x_catch (k := 1) (hpc := 12) (pre := []) (x := (0, 9, 12, 32)) (suf := []) C hG hNc (by decide) htab (fun z hz => nomatch hz) (by decide) (by decide) lk_32 rfl hce hcv hcl hl9 ?_
    refine x_astore_n [(3, .ref q9), (0, .ref b), (1, .int a1), (2, .ref ro)] C dL_upheld_12 rfl (by decide) rfl ?_
    refine x_iconst (1 : Int32) C dL_upheld_13 rfl ?_
    exact x_iretM2 C rfl dL_upheld_14 rfl ⟨hw1, ho1⟩ hS1 (nb rfl) (nb rfl)
  · subst hr
    have ho1 : oCell cA D ro oc H1 := ho.kept (hk1 ro hrl (fun zz => zz.elim (fun g => absurd g.2 (by omega)) (fun g => absurd g (by omega))))
    refine x_i2l C dL_upheld_7 ?_
    refine x_last0 C ho1 in01 dL_upheld_8 hS1 (Or.inr rfl) (fun H2 locs2 ho2 hn2 hz2 hS2 => ?_)
    have hw2 := hw1.out hro hn2 hz2
    refine x_goto 15 C dL_upheld_9 (by decide) ?_
    refine x_iconst (0 : Int32) C dL_upheld_15 rfl ?_
    exact x_iretM2 C rfl dL_upheld_16 rfl ⟨hw2, ho2⟩ hS2 (nb rfl) (nb rfl)
theorem mw_L_billedDays : ∀ ix, Cond.methodLink RL ix yL_billedDays ∈ gW → Cond.methodLink RL ix yL_billedDays ∈ gW ∧ Cond.static yL_billedDays ∈ gW ∧ Cond.initialized yL_billedDays.cls ∈ gW ∧ Cond.codeWith yL_billedDays cL_billedDays 4 (some (FieldType.int)) [(0, 9, 12, 32)] ∈ gW ∧ yL_billedDays.cls ≠ "java/lang/invoke/MethodHandle" ∧ yL_billedDays.cls ≠ "java/lang/invoke/VarHandle" ∧ (parseMethodDescriptor yL_billedDays.desc).map (fun d => d.parameters.length) = some 3 := fun _ h => ⟨h, gW_in (gT5 (List.mem_of_getElem? (i := 94) (by decide +kernel))) (by decide +kernel), gW_in (gT1 (List.mem_of_getElem? (i := 0) (by decide +kernel))) (by decide +kernel), gW_in (gT5 (List.mem_of_getElem? (i := 95) (by decide +kernel))) (by decide +kernel), by decide, by decide, by decide +kernel⟩
set_option maxRecDepth 20000 in
set_option maxHeartbeats 4000000 in
theorem k_L_billedDays (l : Launch) (D : va_G) (cA : Nat → ClassId) (s0 : State) (z : Nat) (b : Nat) (ν : Mm) (sz : Nat) (hG : xG l D cA s0) (hNc : xNc s0) (ro : Nat) (hro : b + 2628 ≤ ro) (hrz : ro < z) (oc : Nat → Int64) (a1 : Int32) (r : Thr Int32) (hF : g_X11_billedDays ν a1 = some r) (hk : ∀ k, r = .error k → k = 1) : Met l yL_billedDays (wsH yL_billedDays cL_billedDays 4 (some (FieldType.int)) [(0, 9, 12, 32)]) { frames := 10, cells := 1, slots := 6, locals := 196 } (xP D cA s0 [.ref b, .int a1, .ref ro] (fun H => H.size = sz ∧ WC D cA s0 z b ν H ∧ oCell cA D ro oc H)) (xQm (some (.int (thC (fun k => if k = 1 then 1 else 0) r))) (fun H => WC D cA s0 z b (thM (fun _ => ν) ν r) H ∧ oCell cA D ro (thO (fun q => q.toInt64) oc r) H) (xAL b ro sz)) 1 6 (xAL b ro sz) := by
  refine h_start (own := RL) [(0, .ref b), (1, .int a1), (2, .ref ro)] rfl rfl (by decide) (nb rfl) ?_
  intro p e s m args below meth c C htab hw
  obtain ⟨hsz, hw, ho⟩ := hw
  subst hsz
  have hS : va_S (xAL b ro s.heap.size) s.heap s.heap [] := va_S.rf
  have hrl : ro < s.heap.size := at_lt ho
  refine x_aload_n C dL_billedDays_0 rfl ?_
  refine x_iconst (0 : Int32) C dL_billedDays_1 rfl ?_
  refine x_aload_n C dL_billedDays_2 rfl ?_
  refine x_iload_n C dL_billedDays_3 rfl ?_
  refine t_goC (fun ls h => t_runV (As := [.int a1]) [.int (0 : Int32), .ref ro] h C ml_L_67 (k_X11_billedDays l D cA s0 z b ν _ hG a1 r hF) ⟨rfl, rfl, nb rfl, nb rfl⟩ rfl (C_PD hw) rfl ⟨rfl, hw⟩ (nb rfl) ⟨nb rfl, nb rfl⟩ dL_billedDays_4) hS (fun _ h => Or.inl h) (fun k hr H1 locs1 q9 ce hw1 hz1 hk1 hS1 hce hcv hcl ls9 hl9 => ?_) (fun q hr H1 locs1 hw1 hz1 hk1 hS1 => ?_)
  · subst hr
    have ho1 : oCell cA D ro oc H1 := ho.kept (hk1 ro hrl (fun zz => zz.elim (fun g => absurd g.2 (by omega)) (fun g => absurd g (by omega))))
    have hk := hk k rfl
    subst hk
    refine x_catch (k := 1) (hpc := 12) (pre := []) (x := (0, 9, 12, 32)) (suf := []) C hG hNc (by decide) htab (fun z hz => nomatch hz) (by decide) (by decide) lk_32 rfl hce hcv hcl hl9 ?_
    refine x_astore_n [(3, .ref q9), (0, .ref b), (1, .int a1), (2, .ref ro)] C dL_billedDays_12 rfl (by decide) rfl ?_
    refine x_iconst (1 : Int32) C dL_billedDays_13 rfl ?_
    exact x_iretM2 C rfl dL_billedDays_14 rfl ⟨hw1, ho1⟩ hS1 (nb rfl) (nb rfl)
  · subst hr
    have ho1 : oCell cA D ro oc H1 := ho.kept (hk1 ro hrl (fun zz => zz.elim (fun g => absurd g.2 (by omega)) (fun g => absurd g (by omega))))
    refine x_i2l C dL_billedDays_7 ?_
    refine x_last0 C ho1 in01 dL_billedDays_8 hS1 (Or.inr rfl) (fun H2 locs2 ho2 hn2 hz2 hS2 => ?_)
    have hw2 := hw1.out hro hn2 hz2
    refine x_goto 15 C dL_billedDays_9 (by decide) ?_
    refine x_iconst (0 : Int32) C dL_billedDays_15 rfl ?_
    exact x_iretM2 C rfl dL_billedDays_16 rfl ⟨hw2, ho2⟩ hS2 (nb rfl) (nb rfl)
theorem mw_L_billable : ∀ ix, Cond.methodLink RL ix yL_billable ∈ gW → Cond.methodLink RL ix yL_billable ∈ gW ∧ Cond.static yL_billable ∈ gW ∧ Cond.initialized yL_billable.cls ∈ gW ∧ Cond.codeWith yL_billable cL_billable 4 (some (FieldType.int)) [(0, 9, 12, 32)] ∈ gW ∧ yL_billable.cls ≠ "java/lang/invoke/MethodHandle" ∧ yL_billable.cls ≠ "java/lang/invoke/VarHandle" ∧ (parseMethodDescriptor yL_billable.desc).map (fun d => d.parameters.length) = some 3 := fun _ h => ⟨h, gW_in (gT5 (List.mem_of_getElem? (i := 105) (by decide +kernel))) (by decide +kernel), gW_in (gT1 (List.mem_of_getElem? (i := 0) (by decide +kernel))) (by decide +kernel), gW_in (gT5 (List.mem_of_getElem? (i := 106) (by decide +kernel))) (by decide +kernel), by decide, by decide, by decide +kernel⟩
set_option maxRecDepth 20000 in
set_option maxHeartbeats 4000000 in
theorem k_L_billable (l : Launch) (D : va_G) (cA : Nat → ClassId) (s0 : State) (z : Nat) (b : Nat) (ν : Mm) (sz : Nat) (hG : xG l D cA s0) (hNc : xNc s0) (ro : Nat) (hro : b + 2628 ≤ ro) (hrz : ro < z) (oc : Nat → Int64) (a1 : Int32) (r : Thr Int32) (hF : g_X11_billable ν a1 = some r) (hk : ∀ k, r = .error k → k = 1) : Met l yL_billable (wsH yL_billable cL_billable 4 (some (FieldType.int)) [(0, 9, 12, 32)]) { frames := 10, cells := 1, slots := 6, locals := 196 } (xP D cA s0 [.ref b, .int a1, .ref ro] (fun H => H.size = sz ∧ WC D cA s0 z b ν H ∧ oCell cA D ro oc H)) (xQm (some (.int (thC (fun k => if k = 1 then 1 else 0) r))) (fun H => WC D cA s0 z b (thM (fun _ => ν) ν r) H ∧ oCell cA D ro (thO (fun q => q.toInt64) oc r) H) (xAL b ro sz)) 1 6 (xAL b ro sz) := by
  refine h_start (own := RL) [(0, .ref b), (1, .int a1), (2, .ref ro)] rfl rfl (by decide) (nb rfl) ?_
  intro p e s m args below meth c C htab hw
  obtain ⟨hsz, hw, ho⟩ := hw
  subst hsz
  have hS : va_S (xAL b ro s.heap.size) s.heap s.heap [] := va_S.rf
  have hrl : ro < s.heap.size := at_lt ho
  refine x_aload_n C dL_billable_0 rfl ?_
  refine x_iconst (0 : Int32) C dL_billable_1 rfl ?_
  refine x_aload_n C dL_billable_2 rfl ?_
  refine x_iload_n C dL_billable_3 rfl ?_
  refine t_goC (fun ls h => t_runV (As := [.int a1]) [.int (0 : Int32), .ref ro] h C ml_L_70 (k_X11_billable l D cA s0 z b ν _ hG a1 r hF) ⟨rfl, rfl, nb rfl, nb rfl⟩ rfl (C_PD hw) rfl ⟨rfl, hw⟩ (nb rfl) ⟨nb rfl, nb rfl⟩ dL_billable_4) hS (fun _ h => Or.inl h) (fun k hr H1 locs1 q9 ce hw1 hz1 hk1 hS1 hce hcv hcl ls9 hl9 => ?_) (fun q hr H1 locs1 hw1 hz1 hk1 hS1 => ?_)
  · subst hr
    have ho1 : oCell cA D ro oc H1 := ho.kept (hk1 ro hrl (fun zz => zz.elim (fun g => absurd g.2 (by omega)) (fun g => absurd g (by omega))))
    have hk := hk k rfl
    subst hk
    refine x_catch (k := 1) (hpc := 12) (pre := []) (x := (0, 9, 12, 32)) (suf := []) C hG hNc (by decide) htab (fun z hz => nomatch hz) (by decide) (by decide) lk_32 rfl hce hcv hcl hl9 ?_
    refine x_astore_n [(3, .ref q9), (0, .ref b), (1, .int a1), (2, .ref ro)] C dL_billable_12 rfl (by decide) rfl ?_
    refine x_iconst (1 : Int32) C dL_billable_13 rfl ?_
    exact x_iretM2 C rfl dL_billable_14 rfl ⟨hw1, ho1⟩ hS1 (nb rfl) (nb rfl)
  · subst hr
    have ho1 : oCell cA D ro oc H1 := ho.kept (hk1 ro hrl (fun zz => zz.elim (fun g => absurd g.2 (by omega)) (fun g => absurd g (by omega))))
    refine x_i2l C dL_billable_7 ?_
    refine x_last0 C ho1 in01 dL_billable_8 hS1 (Or.inr rfl) (fun H2 locs2 ho2 hn2 hz2 hS2 => ?_)
    have hw2 := hw1.out hro hn2 hz2
    refine x_goto 15 C dL_billable_9 (by decide) ?_
    refine x_iconst (0 : Int32) C dL_billable_15 rfl ?_
    exact x_iretM2 C rfl dL_billable_16 rfl ⟨hw2, ho2⟩ hS2 (nb rfl) (nb rfl)
theorem mw_L_amount : ∀ ix, Cond.methodLink RL ix yL_amount ∈ gW → Cond.methodLink RL ix yL_amount ∈ gW ∧ Cond.static yL_amount ∈ gW ∧ Cond.initialized yL_amount.cls ∈ gW ∧ Cond.codeWith yL_amount cL_amount 5 (some (FieldType.int)) [(0, 10, 13, 32), (0, 10, 17, 19)] ∈ gW ∧ yL_amount.cls ≠ "java/lang/invoke/MethodHandle" ∧ yL_amount.cls ≠ "java/lang/invoke/VarHandle" ∧ (parseMethodDescriptor yL_amount.desc).map (fun d => d.parameters.length) = some 4 := fun _ h => ⟨h, gW_in (gT5 (List.mem_of_getElem? (i := 118) (by decide +kernel))) (by decide +kernel), gW_in (gT1 (List.mem_of_getElem? (i := 0) (by decide +kernel))) (by decide +kernel), gW_in (gT5 (List.mem_of_getElem? (i := 119) (by decide +kernel))) (by decide +kernel), by decide, by decide, by decide +kernel⟩
set_option maxRecDepth 20000 in
set_option maxHeartbeats 4000000 in
theorem k_L_amount (l : Launch) (D : va_G) (cA : Nat → ClassId) (s0 : State) (z : Nat) (b : Nat) (ν : Mm) (sz : Nat) (hG : xG l D cA s0) (hNc : xNc s0) (ro : Nat) (hro : b + 2628 ≤ ro) (hrz : ro < z) (oc : Nat → Int64) (a1 : Int32) (a2 : Int32) (r : Thr Int32) (hF : g_X11_amount ν a1 a2 = some r) (hk : ∀ k, r = .error k → k = 1 ∨ k = 2) : Met l yL_amount (wsH yL_amount cL_amount 5 (some (FieldType.int)) [(0, 10, 13, 32), (0, 10, 17, 19)]) { frames := 11, cells := 2, slots := 12, locals := 217 } (xP D cA s0 [.ref b, .int a1, .int a2, .ref ro] (fun H => H.size = sz ∧ WC D cA s0 z b ν H ∧ oCell cA D ro oc H)) (xQm (some (.int (thC (fun k => if k = 1 then 1 else if k = 2 then 2 else 0) r))) (fun H => WC D cA s0 z b (thM (fun _ => ν) ν r) H ∧ oCell cA D ro (thO (fun q => q.toInt64) oc r) H) (xAL b ro sz)) 2 12 (xAL b ro sz) := by
  refine h_start (own := RL) [(0, .ref b), (1, .int a1), (2, .int a2), (3, .ref ro)] rfl rfl (by decide) (nb rfl) ?_
  intro p e s m args below meth c C htab hw
  obtain ⟨hsz, hw, ho⟩ := hw
  subst hsz
  have hS : va_S (xAL b ro s.heap.size) s.heap s.heap [] := va_S.rf
  have hrl : ro < s.heap.size := at_lt ho
  refine x_aload_n C dL_amount_0 rfl ?_
  refine x_iconst (0 : Int32) C dL_amount_1 rfl ?_
  refine x_aload_n C dL_amount_2 rfl ?_
  refine x_iload_n C dL_amount_3 rfl ?_
  refine x_iload_n C dL_amount_4 rfl ?_
  refine t_goC (fun ls h => t_runV (As := [.int a1, .int a2]) [.int (0 : Int32), .ref ro] h C ml_L_73 (k_X11_amount l D cA s0 z b ν _ hG a1 a2 r hF) ⟨rfl, rfl, nb rfl, nb rfl⟩ rfl (C_PD hw) rfl ⟨rfl, hw⟩ (nb rfl) ⟨nb rfl, nb rfl⟩ dL_amount_5) hS (fun _ h => Or.inl h) (fun k hr H1 locs1 q9 ce hw1 hz1 hk1 hS1 hce hcv hcl ls9 hl9 => ?_) (fun q hr H1 locs1 hw1 hz1 hk1 hS1 => ?_)
  · subst hr
    have ho1 : oCell cA D ro oc H1 := ho.kept (hk1 ro hrl (fun zz => zz.elim (fun g => absurd g.2 (by omega)) (fun g => absurd g (by omega))))
    rcases hk k rfl with rfl | rfl
    · refine x_catch (k := 1) (hpc := 13) (pre := []) (x := (0, 10, 13, 32)) (suf := [(0, 10, 17, 19)]) C hG hNc (by decide) htab (fun z hz => nomatch hz) (by decide) (by decide) lk_32 rfl hce hcv hcl hl9 ?_
      refine x_astore [(4, .ref q9), (0, .ref b), (1, .int a1), (2, .int a2), (3, .ref ro)] C dL_amount_13 (by decide) rfl ?_
      refine x_iconst (1 : Int32) C dL_amount_15 rfl ?_
      exact x_iretM2 C rfl dL_amount_16 rfl ⟨hw1, ho1⟩ hS1 (nb rfl) (nb rfl)
    · refine x_catch (k := 2) (hpc := 17) (pre := [(0, 10, 13, 32)]) (x := (0, 10, 17, 19)) (suf := []) C hG hNc (by decide) htab (fun z hz => by
        simp only [List.mem_cons, List.not_mem_nil, or_false] at hz
        rcases hz with rfl
        · exact ⟨by decide, 1, by decide, by decide, lk_32⟩) (by decide) (by decide) lk_19 rfl hce hcv hcl hl9 ?_
      refine x_astore [(4, .ref q9), (0, .ref b), (1, .int a1), (2, .int a2), (3, .ref ro)] C dL_amount_17 (by decide) rfl ?_
      refine x_iconst (2 : Int32) C dL_amount_19 rfl ?_
      exact x_iretM2 C rfl dL_amount_20 rfl ⟨hw1, ho1⟩ hS1 (nb rfl) (nb rfl)
  · subst hr
    have ho1 : oCell cA D ro oc H1 := ho.kept (hk1 ro hrl (fun zz => zz.elim (fun g => absurd g.2 (by omega)) (fun g => absurd g (by omega))))
    refine x_i2l C dL_amount_8 ?_
    refine x_last0 C ho1 in01 dL_amount_9 hS1 (Or.inr rfl) (fun H2 locs2 ho2 hn2 hz2 hS2 => ?_)
    have hw2 := hw1.out hro hn2 hz2
    refine x_goto 21 C dL_amount_10 (by decide) ?_
    refine x_iconst (0 : Int32) C dL_amount_21 rfl ?_
    exact x_iretM2 C rfl dL_amount_22 rfl ⟨hw2, ho2⟩ hS2 (nb rfl) (nb rfl)
theorem mw_L_callTotal : ∀ ix, Cond.methodLink RL ix yL_callTotal ∈ gW → Cond.methodLink RL ix yL_callTotal ∈ gW ∧ Cond.static yL_callTotal ∈ gW ∧ Cond.initialized yL_callTotal.cls ∈ gW ∧ Cond.codeWith yL_callTotal cL_callTotal 4 (some (FieldType.int)) [(0, 9, 12, 32)] ∈ gW ∧ yL_callTotal.cls ≠ "java/lang/invoke/MethodHandle" ∧ yL_callTotal.cls ≠ "java/lang/invoke/VarHandle" ∧ (parseMethodDescriptor yL_callTotal.desc).map (fun d => d.parameters.length) = some 3 := fun _ h => ⟨h, gW_in (gT5 (List.mem_of_getElem? (i := 129) (by decide +kernel))) (by decide +kernel), gW_in (gT1 (List.mem_of_getElem? (i := 0) (by decide +kernel))) (by decide +kernel), gW_in (gT5 (List.mem_of_getElem? (i := 130) (by decide +kernel))) (by decide +kernel), by decide, by decide, by decide +kernel⟩
set_option maxRecDepth 20000 in
set_option maxHeartbeats 4000000 in
theorem k_L_callTotal (l : Launch) (D : va_G) (cA : Nat → ClassId) (s0 : State) (z : Nat) (b : Nat) (ν : Mm) (sz : Nat) (hG : xG l D cA s0) (hNc : xNc s0) (ro : Nat) (hro : b + 2628 ≤ ro) (hrz : ro < z) (oc : Nat → Int64) (a1 : Int32) (r : Thr Int32) (hF : g_X11_callTotal ν a1 = some r) (hk : ∀ k, r = .error k → k = 1) : Met l yL_callTotal (wsH yL_callTotal cL_callTotal 4 (some (FieldType.int)) [(0, 9, 12, 32)]) { frames := 10, cells := 1, slots := 6, locals := 196 } (xP D cA s0 [.ref b, .int a1, .ref ro] (fun H => H.size = sz ∧ WC D cA s0 z b ν H ∧ oCell cA D ro oc H)) (xQm (some (.int (thC (fun k => if k = 1 then 1 else 0) r))) (fun H => WC D cA s0 z b (thM (fun _ => ν) ν r) H ∧ oCell cA D ro (thO (fun q => q.toInt64) oc r) H) (xAL b ro sz)) 1 6 (xAL b ro sz) := by
  refine h_start (own := RL) [(0, .ref b), (1, .int a1), (2, .ref ro)] rfl rfl (by decide) (nb rfl) ?_
  intro p e s m args below meth c C htab hw
  obtain ⟨hsz, hw, ho⟩ := hw
  subst hsz
  have hS : va_S (xAL b ro s.heap.size) s.heap s.heap [] := va_S.rf
  have hrl : ro < s.heap.size := at_lt ho
  refine x_aload_n C dL_callTotal_0 rfl ?_
  refine x_iconst (0 : Int32) C dL_callTotal_1 rfl ?_
  refine x_aload_n C dL_callTotal_2 rfl ?_
  refine x_iload_n C dL_callTotal_3 rfl ?_
  refine t_goC (fun ls h => t_runV (As := [.int a1]) [.int (0 : Int32), .ref ro] h C ml_L_76 (k_X11_callTotal l D cA s0 z b ν _ hG a1 r hF) ⟨rfl, rfl, nb rfl, nb rfl⟩ rfl (C_PD hw) rfl ⟨rfl, hw⟩ (nb rfl) ⟨nb rfl, nb rfl⟩ dL_callTotal_4) hS (fun _ h => Or.inl h) (fun k hr H1 locs1 q9 ce hw1 hz1 hk1 hS1 hce hcv hcl ls9 hl9 => ?_) (fun q hr H1 locs1 hw1 hz1 hk1 hS1 => ?_)
  · subst hr
    have ho1 : oCell cA D ro oc H1 := ho.kept (hk1 ro hrl (fun zz => zz.elim (fun g => absurd g.2 (by omega)) (fun g => absurd g (by omega))))
    have hk := hk k rfl
    subst hk
    refine x_catch (k := 1) (hpc := 12) (pre := []) (x := (0, 9, 12, 32)) (suf := []) C hG hNc (by decide) htab (fun z hz => nomatch hz) (by decide) (by decide) lk_32 rfl hce hcv hcl hl9 ?_
    refine x_astore_n [(3, .ref q9), (0, .ref b), (1, .int a1), (2, .ref ro)] C dL_callTotal_12 rfl (by decide) rfl ?_
    refine x_iconst (1 : Int32) C dL_callTotal_13 rfl ?_
    exact x_iretM2 C rfl dL_callTotal_14 rfl ⟨hw1, ho1⟩ hS1 (nb rfl) (nb rfl)
  · subst hr
    have ho1 : oCell cA D ro oc H1 := ho.kept (hk1 ro hrl (fun zz => zz.elim (fun g => absurd g.2 (by omega)) (fun g => absurd g (by omega))))
    refine x_i2l C dL_callTotal_7 ?_
    refine x_last0 C ho1 in01 dL_callTotal_8 hS1 (Or.inr rfl) (fun H2 locs2 ho2 hn2 hz2 hS2 => ?_)
    have hw2 := hw1.out hro hn2 hz2
    refine x_goto 15 C dL_callTotal_9 (by decide) ?_
    refine x_iconst (0 : Int32) C dL_callTotal_15 rfl ?_
    exact x_iretM2 C rfl dL_callTotal_16 rfl ⟨hw2, ho2⟩ hS2 (nb rfl) (nb rfl)
theorem mw_L_invoice : ∀ ix, Cond.methodLink RL ix yL_invoice ∈ gW → Cond.methodLink RL ix yL_invoice ∈ gW ∧ Cond.static yL_invoice ∈ gW ∧ Cond.initialized yL_invoice.cls ∈ gW ∧ Cond.codeWith yL_invoice cL_invoice 5 (some (FieldType.int)) [(0, 10, 13, 32), (0, 10, 17, 19)] ∈ gW ∧ yL_invoice.cls ≠ "java/lang/invoke/MethodHandle" ∧ yL_invoice.cls ≠ "java/lang/invoke/VarHandle" ∧ (parseMethodDescriptor yL_invoice.desc).map (fun d => d.parameters.length) = some 4 := fun _ h => ⟨h, gW_in (gT5 (List.mem_of_getElem? (i := 141) (by decide +kernel))) (by decide +kernel), gW_in (gT1 (List.mem_of_getElem? (i := 0) (by decide +kernel))) (by decide +kernel), gW_in (gT5 (List.mem_of_getElem? (i := 142) (by decide +kernel))) (by decide +kernel), by decide, by decide, by decide +kernel⟩
set_option maxRecDepth 20000 in
set_option maxHeartbeats 4000000 in
theorem k_L_invoice (l : Launch) (D : va_G) (cA : Nat → ClassId) (s0 : State) (z : Nat) (b : Nat) (ν : Mm) (sz : Nat) (hG : xG l D cA s0) (hNc : xNc s0) (ro : Nat) (hro : b + 2628 ≤ ro) (hrz : ro < z) (oc : Nat → Int64) (a1 : Int32) (a2 : Int32) (r : Thr Int32) (hF : g_X11_invoice ν a1 a2 = some r) (hk : ∀ k, r = .error k → k = 1 ∨ k = 2) : Met l yL_invoice (wsH yL_invoice cL_invoice 5 (some (FieldType.int)) [(0, 10, 13, 32), (0, 10, 17, 19)]) { frames := 10, cells := 2, slots := 12, locals := 198 } (xP D cA s0 [.ref b, .int a1, .int a2, .ref ro] (fun H => H.size = sz ∧ WC D cA s0 z b ν H ∧ oCell cA D ro oc H)) (xQm (some (.int (thC (fun k => if k = 1 then 1 else if k = 2 then 2 else 0) r))) (fun H => WC D cA s0 z b (thM (fun _ => ν) ν r) H ∧ oCell cA D ro (thO (fun q => q.toInt64) oc r) H) (xAL b ro sz)) 2 12 (xAL b ro sz) := by
  refine h_start (own := RL) [(0, .ref b), (1, .int a1), (2, .int a2), (3, .ref ro)] rfl rfl (by decide) (nb rfl) ?_
  intro p e s m args below meth c C htab hw
  obtain ⟨hsz, hw, ho⟩ := hw
  subst hsz
  have hS : va_S (xAL b ro s.heap.size) s.heap s.heap [] := va_S.rf
  have hrl : ro < s.heap.size := at_lt ho
  refine x_aload_n C dL_invoice_0 rfl ?_
  refine x_iconst (0 : Int32) C dL_invoice_1 rfl ?_
  refine x_aload_n C dL_invoice_2 rfl ?_
  refine x_iload_n C dL_invoice_3 rfl ?_
  refine x_iload_n C dL_invoice_4 rfl ?_
  refine t_goC (fun ls h => t_runV (As := [.int a1, .int a2]) [.int (0 : Int32), .ref ro] h C ml_L_79 (k_X11_invoice l D cA s0 z b ν _ hG a1 a2 r hF) ⟨rfl, rfl, nb rfl, nb rfl⟩ rfl (C_PD hw) rfl ⟨rfl, hw⟩ (nb rfl) ⟨nb rfl, nb rfl⟩ dL_invoice_5) hS (fun _ h => Or.inl h) (fun k hr H1 locs1 q9 ce hw1 hz1 hk1 hS1 hce hcv hcl ls9 hl9 => ?_) (fun q hr H1 locs1 hw1 hz1 hk1 hS1 => ?_)
  · subst hr
    have ho1 : oCell cA D ro oc H1 := ho.kept (hk1 ro hrl (fun zz => zz.elim (fun g => absurd g.2 (by omega)) (fun g => absurd g (by omega))))
    rcases hk k rfl with rfl | rfl
    · refine x_catch (k := 1) (hpc := 13) (pre := []) (x := (0, 10, 13, 32)) (suf := [(0, 10, 17, 19)]) C hG hNc (by decide) htab (fun z hz => nomatch hz) (by decide) (by decide) lk_32 rfl hce hcv hcl hl9 ?_
      refine x_astore [(4, .ref q9), (0, .ref b), (1, .int a1), (2, .int a2), (3, .ref ro)] C dL_invoice_13 (by decide) rfl ?_
      refine x_iconst (1 : Int32) C dL_invoice_15 rfl ?_
      exact x_iretM2 C rfl dL_invoice_16 rfl ⟨hw1, ho1⟩ hS1 (nb rfl) (nb rfl)
    · refine x_catch (k := 2) (hpc := 17) (pre := [(0, 10, 13, 32)]) (x := (0, 10, 17, 19)) (suf := []) C hG hNc (by decide) htab (fun z hz => by
        simp only [List.mem_cons, List.not_mem_nil, or_false] at hz
        rcases hz with rfl
        · exact ⟨by decide, 1, by decide, by decide, lk_32⟩) (by decide) (by decide) lk_19 rfl hce hcv hcl hl9 ?_
      refine x_astore [(4, .ref q9), (0, .ref b), (1, .int a1), (2, .int a2), (3, .ref ro)] C dL_invoice_17 (by decide) rfl ?_
      refine x_iconst (2 : Int32) C dL_invoice_19 rfl ?_
      exact x_iretM2 C rfl dL_invoice_20 rfl ⟨hw1, ho1⟩ hS1 (nb rfl) (nb rfl)
  · subst hr
    have ho1 : oCell cA D ro oc H1 := ho.kept (hk1 ro hrl (fun zz => zz.elim (fun g => absurd g.2 (by omega)) (fun g => absurd g (by omega))))
    refine x_i2l C dL_invoice_8 ?_
    refine x_last0 C ho1 in01 dL_invoice_9 hS1 (Or.inr rfl) (fun H2 locs2 ho2 hn2 hz2 hS2 => ?_)
    have hw2 := hw1.out hro hn2 hz2
    refine x_goto 21 C dL_invoice_10 (by decide) ?_
    refine x_iconst (0 : Int32) C dL_invoice_21 rfl ?_
    exact x_iretM2 C rfl dL_invoice_22 rfl ⟨hw2, ho2⟩ hS2 (nb rfl) (nb rfl)
theorem mw_L_line : ∀ ix, Cond.methodLink RL ix yL_line ∈ gW → Cond.methodLink RL ix yL_line ∈ gW ∧ Cond.static yL_line ∈ gW ∧ Cond.initialized yL_line.cls ∈ gW ∧ Cond.codeWith yL_line cL_line 5 (some (FieldType.int)) [(0, 10, 13, 32), (0, 10, 17, 19)] ∈ gW ∧ yL_line.cls ≠ "java/lang/invoke/MethodHandle" ∧ yL_line.cls ≠ "java/lang/invoke/VarHandle" ∧ (parseMethodDescriptor yL_line.desc).map (fun d => d.parameters.length) = some 4 := fun _ h => ⟨h, gW_in (gT5 (List.mem_of_getElem? (i := 152) (by decide +kernel))) (by decide +kernel), gW_in (gT1 (List.mem_of_getElem? (i := 0) (by decide +kernel))) (by decide +kernel), gW_in (gT5 (List.mem_of_getElem? (i := 153) (by decide +kernel))) (by decide +kernel), by decide, by decide, by decide +kernel⟩
set_option maxRecDepth 20000 in
set_option maxHeartbeats 4000000 in
theorem k_L_line (l : Launch) (D : va_G) (cA : Nat → ClassId) (s0 : State) (z : Nat) (b : Nat) (ν : Mm) (sz : Nat) (hG : xG l D cA s0) (hNc : xNc s0) (ro : Nat) (hro : b + 2628 ≤ ro) (hrz : ro < z) (oc : Nat → Int64) (a1 : Int32) (a2 : Int32) (r : Thr Int32) (hF : g_X11_line ν a1 a2 = some r) (hk : ∀ k, r = .error k → k = 1 ∨ k = 2) : Met l yL_line (wsH yL_line cL_line 5 (some (FieldType.int)) [(0, 10, 13, 32), (0, 10, 17, 19)]) { frames := 11, cells := 2, slots := 12, locals := 217 } (xP D cA s0 [.ref b, .int a1, .int a2, .ref ro] (fun H => H.size = sz ∧ WC D cA s0 z b ν H ∧ oCell cA D ro oc H)) (xQm (some (.int (thC (fun k => if k = 1 then 1 else if k = 2 then 2 else 0) r))) (fun H => WC D cA s0 z b (thM (fun _ => ν) ν r) H ∧ oCell cA D ro (thO (fun q => q.toInt64) oc r) H) (xAL b ro sz)) 2 12 (xAL b ro sz) := by
  refine h_start (own := RL) [(0, .ref b), (1, .int a1), (2, .int a2), (3, .ref ro)] rfl rfl (by decide) (nb rfl) ?_
  intro p e s m args below meth c C htab hw
  obtain ⟨hsz, hw, ho⟩ := hw
  subst hsz
  have hS : va_S (xAL b ro s.heap.size) s.heap s.heap [] := va_S.rf
  have hrl : ro < s.heap.size := at_lt ho
  refine x_aload_n C dL_line_0 rfl ?_
  refine x_iconst (0 : Int32) C dL_line_1 rfl ?_
  refine x_aload_n C dL_line_2 rfl ?_
  refine x_iload_n C dL_line_3 rfl ?_
  refine x_iload_n C dL_line_4 rfl ?_
  refine t_goC (fun ls h => t_runV (As := [.int a1, .int a2]) [.int (0 : Int32), .ref ro] h C ml_L_82 (k_X11_line l D cA s0 z b ν _ hG a1 a2 r hF) ⟨rfl, rfl, nb rfl, nb rfl⟩ rfl (C_PD hw) rfl ⟨rfl, hw⟩ (nb rfl) ⟨nb rfl, nb rfl⟩ dL_line_5) hS (fun _ h => Or.inl h) (fun k hr H1 locs1 q9 ce hw1 hz1 hk1 hS1 hce hcv hcl ls9 hl9 => ?_) (fun q hr H1 locs1 hw1 hz1 hk1 hS1 => ?_)
  · subst hr
    have ho1 : oCell cA D ro oc H1 := ho.kept (hk1 ro hrl (fun zz => zz.elim (fun g => absurd g.2 (by omega)) (fun g => absurd g (by omega))))
    rcases hk k rfl with rfl | rfl
    · refine x_catch (k := 1) (hpc := 13) (pre := []) (x := (0, 10, 13, 32)) (suf := [(0, 10, 17, 19)]) C hG hNc (by decide) htab (fun z hz => nomatch hz) (by decide) (by decide) lk_32 rfl hce hcv hcl hl9 ?_
      refine x_astore [(4, .ref q9), (0, .ref b), (1, .int a1), (2, .int a2), (3, .ref ro)] C dL_line_13 (by decide) rfl ?_
      refine x_iconst (1 : Int32) C dL_line_15 rfl ?_
      exact x_iretM2 C rfl dL_line_16 rfl ⟨hw1, ho1⟩ hS1 (nb rfl) (nb rfl)
    · refine x_catch (k := 2) (hpc := 17) (pre := [(0, 10, 13, 32)]) (x := (0, 10, 17, 19)) (suf := []) C hG hNc (by decide) htab (fun z hz => by
        simp only [List.mem_cons, List.not_mem_nil, or_false] at hz
        rcases hz with rfl
        · exact ⟨by decide, 1, by decide, by decide, lk_32⟩) (by decide) (by decide) lk_19 rfl hce hcv hcl hl9 ?_
      refine x_astore [(4, .ref q9), (0, .ref b), (1, .int a1), (2, .int a2), (3, .ref ro)] C dL_line_17 (by decide) rfl ?_
      refine x_iconst (2 : Int32) C dL_line_19 rfl ?_
      exact x_iretM2 C rfl dL_line_20 rfl ⟨hw1, ho1⟩ hS1 (nb rfl) (nb rfl)
  · subst hr
    have ho1 : oCell cA D ro oc H1 := ho.kept (hk1 ro hrl (fun zz => zz.elim (fun g => absurd g.2 (by omega)) (fun g => absurd g (by omega))))
    refine x_i2l C dL_line_8 ?_
    refine x_last0 C ho1 in01 dL_line_9 hS1 (Or.inr rfl) (fun H2 locs2 ho2 hn2 hz2 hS2 => ?_)
    have hw2 := hw1.out hro hn2 hz2
    refine x_goto 21 C dL_line_10 (by decide) ?_
    refine x_iconst (0 : Int32) C dL_line_21 rfl ?_
    exact x_iretM2 C rfl dL_line_22 rfl ⟨hw2, ho2⟩ hS2 (nb rfl) (nb rfl)
theorem mw_L_net : ∀ ix, Cond.methodLink RL ix yL_net ∈ gW → Cond.methodLink RL ix yL_net ∈ gW ∧ Cond.static yL_net ∈ gW ∧ Cond.initialized yL_net.cls ∈ gW ∧ Cond.codeWith yL_net cL_net 4 (some (FieldType.int)) [(0, 9, 12, 32)] ∈ gW ∧ yL_net.cls ≠ "java/lang/invoke/MethodHandle" ∧ yL_net.cls ≠ "java/lang/invoke/VarHandle" ∧ (parseMethodDescriptor yL_net.desc).map (fun d => d.parameters.length) = some 3 := fun _ h => ⟨h, gW_in (gT5 (List.mem_of_getElem? (i := 159) (by decide +kernel))) (by decide +kernel), gW_in (gT1 (List.mem_of_getElem? (i := 0) (by decide +kernel))) (by decide +kernel), gW_in (gT5 (List.mem_of_getElem? (i := 160) (by decide +kernel))) (by decide +kernel), by decide, by decide, by decide +kernel⟩
set_option maxRecDepth 20000 in
set_option maxHeartbeats 4000000 in
theorem k_L_net (l : Launch) (D : va_G) (cA : Nat → ClassId) (s0 : State) (z : Nat) (b : Nat) (ν : Mm) (sz : Nat) (hG : xG l D cA s0) (hNc : xNc s0) (ro : Nat) (hro : b + 2628 ≤ ro) (hrz : ro < z) (oc : Nat → Int64) (a1 : Int32) (r : Thr Int32) (hF : g_X11_net ν a1 = some r) (hk : ∀ k, r = .error k → k = 1) : Met l yL_net (wsH yL_net cL_net 4 (some (FieldType.int)) [(0, 9, 12, 32)]) { frames := 10, cells := 1, slots := 6, locals := 196 } (xP D cA s0 [.ref b, .int a1, .ref ro] (fun H => H.size = sz ∧ WC D cA s0 z b ν H ∧ oCell cA D ro oc H)) (xQm (some (.int (thC (fun k => if k = 1 then 1 else 0) r))) (fun H => WC D cA s0 z b (thM (fun _ => ν) ν r) H ∧ oCell cA D ro (thO (fun q => q.toInt64) oc r) H) (xAL b ro sz)) 1 6 (xAL b ro sz) := by
  refine h_start (own := RL) [(0, .ref b), (1, .int a1), (2, .ref ro)] rfl rfl (by decide) (nb rfl) ?_
  intro p e s m args below meth c C htab hw
  obtain ⟨hsz, hw, ho⟩ := hw
  subst hsz
  have hS : va_S (xAL b ro s.heap.size) s.heap s.heap [] := va_S.rf
  have hrl : ro < s.heap.size := at_lt ho
  refine x_aload_n C dL_net_0 rfl ?_
  refine x_iconst (0 : Int32) C dL_net_1 rfl ?_
  refine x_aload_n C dL_net_2 rfl ?_
  refine x_iload_n C dL_net_3 rfl ?_
  refine t_goC (fun ls h => t_runV (As := [.int a1]) [.int (0 : Int32), .ref ro] h C ml_L_85 (k_X11_net l D cA s0 z b ν _ hG a1 r hF) ⟨rfl, rfl, nb rfl, nb rfl⟩ rfl (C_PD hw) rfl ⟨rfl, hw⟩ (nb rfl) ⟨nb rfl, nb rfl⟩ dL_net_4) hS (fun _ h => Or.inl h) (fun k hr H1 locs1 q9 ce hw1 hz1 hk1 hS1 hce hcv hcl ls9 hl9 => ?_) (fun q hr H1 locs1 hw1 hz1 hk1 hS1 => ?_)
  · subst hr
    have ho1 : oCell cA D ro oc H1 := ho.kept (hk1 ro hrl (fun zz => zz.elim (fun g => absurd g.2 (by omega)) (fun g => absurd g (by omega))))
    have hk := hk k rfl
    subst hk
    refine x_catch (k := 1) (hpc := 12) (pre := []) (x := (0, 9, 12, 32)) (suf := []) C hG hNc (by decide) htab (fun z hz => nomatch hz) (by decide) (by decide) lk_32 rfl hce hcv hcl hl9 ?_
    refine x_astore_n [(3, .ref q9), (0, .ref b), (1, .int a1), (2, .ref ro)] C dL_net_12 rfl (by decide) rfl ?_
    refine x_iconst (1 : Int32) C dL_net_13 rfl ?_
    exact x_iretM2 C rfl dL_net_14 rfl ⟨hw1, ho1⟩ hS1 (nb rfl) (nb rfl)
  · subst hr
    have ho1 : oCell cA D ro oc H1 := ho.kept (hk1 ro hrl (fun zz => zz.elim (fun g => absurd g.2 (by omega)) (fun g => absurd g (by omega))))
    refine x_i2l C dL_net_7 ?_
    refine x_last0 C ho1 in01 dL_net_8 hS1 (Or.inr rfl) (fun H2 locs2 ho2 hn2 hz2 hS2 => ?_)
    have hw2 := hw1.out hro hn2 hz2
    refine x_goto 15 C dL_net_9 (by decide) ?_
    refine x_iconst (0 : Int32) C dL_net_15 rfl ?_
    exact x_iretM2 C rfl dL_net_16 rfl ⟨hw2, ho2⟩ hS2 (nb rfl) (nb rfl)
theorem mw_L_open : ∀ ix, Cond.methodLink RL ix yL_open ∈ gW → Cond.methodLink RL ix yL_open ∈ gW ∧ Cond.static yL_open ∈ gW ∧ Cond.initialized yL_open.cls ∈ gW ∧ Cond.codeWith yL_open cL_open 4 (some (FieldType.int)) [(0, 9, 12, 32)] ∈ gW ∧ yL_open.cls ≠ "java/lang/invoke/MethodHandle" ∧ yL_open.cls ≠ "java/lang/invoke/VarHandle" ∧ (parseMethodDescriptor yL_open.desc).map (fun d => d.parameters.length) = some 3 := fun _ h => ⟨h, gW_in (gT5 (List.mem_of_getElem? (i := 174) (by decide +kernel))) (by decide +kernel), gW_in (gT1 (List.mem_of_getElem? (i := 0) (by decide +kernel))) (by decide +kernel), gW_in (gT5 (List.mem_of_getElem? (i := 175) (by decide +kernel))) (by decide +kernel), by decide, by decide, by decide +kernel⟩
set_option maxRecDepth 20000 in
set_option maxHeartbeats 4000000 in
theorem k_L_open (l : Launch) (D : va_G) (cA : Nat → ClassId) (s0 : State) (z : Nat) (b : Nat) (ν : Mm) (sz : Nat) (hG : xG l D cA s0) (hNc : xNc s0) (ro : Nat) (hro : b + 2628 ≤ ro) (hrz : ro < z) (oc : Nat → Int64) (a1 : Int32) (r : Thr Int32) (hF : g_X11_open ν a1 = some r) (hk : ∀ k, r = .error k → k = 1) : Met l yL_open (wsH yL_open cL_open 4 (some (FieldType.int)) [(0, 9, 12, 32)]) { frames := 10, cells := 1, slots := 6, locals := 196 } (xP D cA s0 [.ref b, .int a1, .ref ro] (fun H => H.size = sz ∧ WC D cA s0 z b ν H ∧ oCell cA D ro oc H)) (xQm (some (.int (thC (fun k => if k = 1 then 1 else 0) r))) (fun H => WC D cA s0 z b (thM (fun _ => ν) ν r) H ∧ oCell cA D ro (thO (fun q => q.toInt64) oc r) H) (xAL b ro sz)) 1 6 (xAL b ro sz) := by
  refine h_start (own := RL) [(0, .ref b), (1, .int a1), (2, .ref ro)] rfl rfl (by decide) (nb rfl) ?_
  intro p e s m args below meth c C htab hw
  obtain ⟨hsz, hw, ho⟩ := hw
  subst hsz
  have hS : va_S (xAL b ro s.heap.size) s.heap s.heap [] := va_S.rf
  have hrl : ro < s.heap.size := at_lt ho
  refine x_aload_n C dL_open_0 rfl ?_
  refine x_iconst (0 : Int32) C dL_open_1 rfl ?_
  refine x_aload_n C dL_open_2 rfl ?_
  refine x_iload_n C dL_open_3 rfl ?_
  refine t_goC (fun ls h => t_runV (As := [.int a1]) [.int (0 : Int32), .ref ro] h C ml_L_88 (k_X11_open l D cA s0 z b ν _ hG a1 r hF) ⟨rfl, rfl, nb rfl, nb rfl⟩ rfl (C_PD hw) rfl ⟨rfl, hw⟩ (nb rfl) ⟨nb rfl, nb rfl⟩ dL_open_4) hS (fun _ h => Or.inl h) (fun k hr H1 locs1 q9 ce hw1 hz1 hk1 hS1 hce hcv hcl ls9 hl9 => ?_) (fun q hr H1 locs1 hw1 hz1 hk1 hS1 => ?_)
  · subst hr
    have ho1 : oCell cA D ro oc H1 := ho.kept (hk1 ro hrl (fun zz => zz.elim (fun g => absurd g.2 (by omega)) (fun g => absurd g (by omega))))
    have hk := hk k rfl
    subst hk
    refine x_catch (k := 1) (hpc := 12) (pre := []) (x := (0, 9, 12, 32)) (suf := []) C hG hNc (by decide) htab (fun z hz => nomatch hz) (by decide) (by decide) lk_32 rfl hce hcv hcl hl9 ?_
    refine x_astore_n [(3, .ref q9), (0, .ref b), (1, .int a1), (2, .ref ro)] C dL_open_12 rfl (by decide) rfl ?_
    refine x_iconst (1 : Int32) C dL_open_13 rfl ?_
    exact x_iretM2 C rfl dL_open_14 rfl ⟨hw1, ho1⟩ hS1 (nb rfl) (nb rfl)
  · subst hr
    have ho1 : oCell cA D ro oc H1 := ho.kept (hk1 ro hrl (fun zz => zz.elim (fun g => absurd g.2 (by omega)) (fun g => absurd g (by omega))))
    refine x_i2l C dL_open_7 ?_
    refine x_last0 C ho1 in01 dL_open_8 hS1 (Or.inr rfl) (fun H2 locs2 ho2 hn2 hz2 hS2 => ?_)
    have hw2 := hw1.out hro hn2 hz2
    refine x_goto 15 C dL_open_9 (by decide) ?_
    refine x_iconst (0 : Int32) C dL_open_15 rfl ?_
    exact x_iretM2 C rfl dL_open_16 rfl ⟨hw2, ho2⟩ hS2 (nb rfl) (nb rfl)
theorem mw_L_rebuilt : ∀ ix, Cond.methodLink RL ix yL_rebuilt ∈ gW → Cond.methodLink RL ix yL_rebuilt ∈ gW ∧ Cond.static yL_rebuilt ∈ gW ∧ Cond.initialized yL_rebuilt.cls ∈ gW ∧ Cond.codeWith yL_rebuilt cL_rebuilt 5 (some (FieldType.int)) [(0, 10, 13, 32), (0, 10, 17, 19)] ∈ gW ∧ yL_rebuilt.cls ≠ "java/lang/invoke/MethodHandle" ∧ yL_rebuilt.cls ≠ "java/lang/invoke/VarHandle" ∧ (parseMethodDescriptor yL_rebuilt.desc).map (fun d => d.parameters.length) = some 4 := fun _ h => ⟨h, gW_in (gT5 (List.mem_of_getElem? (i := 202) (by decide +kernel))) (by decide +kernel), gW_in (gT1 (List.mem_of_getElem? (i := 0) (by decide +kernel))) (by decide +kernel), gW_in (gT5 (List.mem_of_getElem? (i := 203) (by decide +kernel))) (by decide +kernel), by decide, by decide, by decide +kernel⟩
set_option maxRecDepth 20000 in
set_option maxHeartbeats 4000000 in
theorem k_L_rebuilt (l : Launch) (D : va_G) (cA : Nat → ClassId) (s0 : State) (z : Nat) (b : Nat) (ν : Mm) (sz : Nat) (hG : xG l D cA s0) (hNc : xNc s0) (ro : Nat) (hro : b + 2628 ≤ ro) (hrz : ro < z) (oc : Nat → Int64) (a1 : Int32) (a2 : Int32) (r : Thr Int32) (hF : g_X11_rebuilt ν a1 a2 = some r) (hk : ∀ k, r = .error k → k = 1 ∨ k = 2) : Met l yL_rebuilt (wsH yL_rebuilt cL_rebuilt 5 (some (FieldType.int)) [(0, 10, 13, 32), (0, 10, 17, 19)]) { frames := 11, cells := 2, slots := 12, locals := 217 } (xP D cA s0 [.ref b, .int a1, .int a2, .ref ro] (fun H => H.size = sz ∧ WC D cA s0 z b ν H ∧ oCell cA D ro oc H)) (xQm (some (.int (thC (fun k => if k = 1 then 1 else if k = 2 then 2 else 0) r))) (fun H => WC D cA s0 z b (thM (fun _ => ν) ν r) H ∧ oCell cA D ro (thO (fun q => q.toInt64) oc r) H) (xAL b ro sz)) 2 12 (xAL b ro sz) := by
  refine h_start (own := RL) [(0, .ref b), (1, .int a1), (2, .int a2), (3, .ref ro)] rfl rfl (by decide) (nb rfl) ?_
  intro p e s m args below meth c C htab hw
  obtain ⟨hsz, hw, ho⟩ := hw
  subst hsz
  have hS : va_S (xAL b ro s.heap.size) s.heap s.heap [] := va_S.rf
  have hrl : ro < s.heap.size := at_lt ho
  refine x_aload_n C dL_rebuilt_0 rfl ?_
  refine x_iconst (0 : Int32) C dL_rebuilt_1 rfl ?_
  refine x_aload_n C dL_rebuilt_2 rfl ?_
  refine x_iload_n C dL_rebuilt_3 rfl ?_
  refine x_iload_n C dL_rebuilt_4 rfl ?_
  refine t_goC (fun ls h => t_runV (As := [.int a1, .int a2]) [.int (0 : Int32), .ref ro] h C ml_L_91 (k_X11_rebuilt l D cA s0 z b ν _ hG a1 a2 r hF) ⟨rfl, rfl, nb rfl, nb rfl⟩ rfl (C_PD hw) rfl ⟨rfl, hw⟩ (nb rfl) ⟨nb rfl, nb rfl⟩ dL_rebuilt_5) hS (fun _ h => Or.inl h) (fun k hr H1 locs1 q9 ce hw1 hz1 hk1 hS1 hce hcv hcl ls9 hl9 => ?_) (fun q hr H1 locs1 hw1 hz1 hk1 hS1 => ?_)
  · subst hr
    have ho1 : oCell cA D ro oc H1 := ho.kept (hk1 ro hrl (fun zz => zz.elim (fun g => absurd g.2 (by omega)) (fun g => absurd g (by omega))))
    rcases hk k rfl with rfl | rfl
    · refine x_catch (k := 1) (hpc := 13) (pre := []) (x := (0, 10, 13, 32)) (suf := [(0, 10, 17, 19)]) C hG hNc (by decide) htab (fun z hz => nomatch hz) (by decide) (by decide) lk_32 rfl hce hcv hcl hl9 ?_
      refine x_astore [(4, .ref q9), (0, .ref b), (1, .int a1), (2, .int a2), (3, .ref ro)] C dL_rebuilt_13 (by decide) rfl ?_
      refine x_iconst (1 : Int32) C dL_rebuilt_15 rfl ?_
      exact x_iretM2 C rfl dL_rebuilt_16 rfl ⟨hw1, ho1⟩ hS1 (nb rfl) (nb rfl)
    · refine x_catch (k := 2) (hpc := 17) (pre := [(0, 10, 13, 32)]) (x := (0, 10, 17, 19)) (suf := []) C hG hNc (by decide) htab (fun z hz => by
        simp only [List.mem_cons, List.not_mem_nil, or_false] at hz
        rcases hz with rfl
        · exact ⟨by decide, 1, by decide, by decide, lk_32⟩) (by decide) (by decide) lk_19 rfl hce hcv hcl hl9 ?_
      refine x_astore [(4, .ref q9), (0, .ref b), (1, .int a1), (2, .int a2), (3, .ref ro)] C dL_rebuilt_17 (by decide) rfl ?_
      refine x_iconst (2 : Int32) C dL_rebuilt_19 rfl ?_
      exact x_iretM2 C rfl dL_rebuilt_20 rfl ⟨hw1, ho1⟩ hS1 (nb rfl) (nb rfl)
  · subst hr
    have ho1 : oCell cA D ro oc H1 := ho.kept (hk1 ro hrl (fun zz => zz.elim (fun g => absurd g.2 (by omega)) (fun g => absurd g (by omega))))
    refine x_i2l C dL_rebuilt_8 ?_
    refine x_last0 C ho1 in01 dL_rebuilt_9 hS1 (Or.inr rfl) (fun H2 locs2 ho2 hn2 hz2 hS2 => ?_)
    have hw2 := hw1.out hro hn2 hz2
    refine x_goto 21 C dL_rebuilt_10 (by decide) ?_
    refine x_iconst (0 : Int32) C dL_rebuilt_21 rfl ?_
    exact x_iretM2 C rfl dL_rebuilt_22 rfl ⟨hw2, ho2⟩ hS2 (nb rfl) (nb rfl)
theorem mw_L_isStale : ∀ ix, Cond.methodLink RL ix yL_isStale ∈ gW → Cond.methodLink RL ix yL_isStale ∈ gW ∧ Cond.static yL_isStale ∈ gW ∧ Cond.initialized yL_isStale.cls ∈ gW ∧ Cond.codeWith yL_isStale cL_isStale 4 (some (FieldType.int)) [(0, 16, 19, 32)] ∈ gW ∧ yL_isStale.cls ≠ "java/lang/invoke/MethodHandle" ∧ yL_isStale.cls ≠ "java/lang/invoke/VarHandle" ∧ (parseMethodDescriptor yL_isStale.desc).map (fun d => d.parameters.length) = some 3 := fun _ h => ⟨h, gW_in (gT5 (List.mem_of_getElem? (i := 210) (by decide +kernel))) (by decide +kernel), gW_in (gT1 (List.mem_of_getElem? (i := 0) (by decide +kernel))) (by decide +kernel), gW_in (gT5 (List.mem_of_getElem? (i := 211) (by decide +kernel))) (by decide +kernel), by decide, by decide, by decide +kernel⟩
set_option maxRecDepth 20000 in
set_option maxHeartbeats 4000000 in
theorem k_L_isStale (l : Launch) (D : va_G) (cA : Nat → ClassId) (s0 : State) (z : Nat) (b : Nat) (ν : Mm) (sz : Nat) (hG : xG l D cA s0) (hNc : xNc s0) (ro : Nat) (hro : b + 2628 ≤ ro) (hrz : ro < z) (oc : Nat → Int64) (a1 : Int32) (r : Thr Bool) (hF : g_X11_isStale ν a1 = some r) (hk : ∀ k, r = .error k → k = 1) : Met l yL_isStale (wsH yL_isStale cL_isStale 4 (some (FieldType.int)) [(0, 16, 19, 32)]) { frames := 10, cells := 1, slots := 6, locals := 196 } (xP D cA s0 [.ref b, .int a1, .ref ro] (fun H => H.size = sz ∧ WC D cA s0 z b ν H ∧ oCell cA D ro oc H)) (xQm (some (.int (thC (fun k => if k = 1 then 1 else 0) r))) (fun H => WC D cA s0 z b (thM (fun _ => ν) ν r) H ∧ oCell cA D ro (thO (fun q => (if q = true then (1 : Int64) else (0 : Int64))) oc r) H) (xAL b ro sz)) 1 6 (xAL b ro sz) := by
  refine h_start (own := RL) [(0, .ref b), (1, .int a1), (2, .ref ro)] rfl rfl (by decide) (nb rfl) ?_
  intro p e s m args below meth c C htab hw
  obtain ⟨hsz, hw, ho⟩ := hw
  subst hsz
  have hS : va_S (xAL b ro s.heap.size) s.heap s.heap [] := va_S.rf
  have hrl : ro < s.heap.size := at_lt ho
  refine x_aload_n C dL_isStale_0 rfl ?_
  refine x_iconst (0 : Int32) C dL_isStale_1 rfl ?_
  refine x_aload_n C dL_isStale_2 rfl ?_
  refine x_iload_n C dL_isStale_3 rfl ?_
  refine t_goC (fun ls h => t_runV (As := [.int a1]) [.int (0 : Int32), .ref ro] h C ml_L_94 (k_X11_isStale l D cA s0 z b ν _ hG a1 r hF) ⟨rfl, rfl, nb rfl, nb rfl⟩ rfl (C_PD hw) rfl ⟨rfl, hw⟩ (nb rfl) ⟨nb rfl, nb rfl⟩ dL_isStale_4) hS (fun _ h => Or.inl h) (fun k hr H1 locs1 q9 ce hw1 hz1 hk1 hS1 hce hcv hcl ls9 hl9 => ?_) (fun q hr H1 locs1 hw1 hz1 hk1 hS1 => ?_)
  · subst hr
    have ho1 : oCell cA D ro oc H1 := ho.kept (hk1 ro hrl (fun zz => zz.elim (fun g => absurd g.2 (by omega)) (fun g => absurd g (by omega))))
    have hk := hk k rfl
    subst hk
    refine x_catch (k := 1) (hpc := 19) (pre := []) (x := (0, 16, 19, 32)) (suf := []) C hG hNc (by decide) htab (fun z hz => nomatch hz) (by decide) (by decide) lk_32 rfl hce hcv hcl hl9 ?_
    refine x_astore_n [(3, .ref q9), (0, .ref b), (1, .int a1), (2, .ref ro)] C dL_isStale_19 rfl (by decide) rfl ?_
    refine x_iconst (1 : Int32) C dL_isStale_20 rfl ?_
    exact x_iretM2 C rfl dL_isStale_21 rfl ⟨hw1, ho1⟩ hS1 (nb rfl) (nb rfl)
  · subst hr
    have ho1 : oCell cA D ro oc H1 := ho.kept (hk1 ro hrl (fun zz => zz.elim (fun g => absurd g.2 (by omega)) (fun g => absurd g (by omega))))
    refine x_ifB_eq 14 C dL_isStale_7 (by decide) (fun cb => ?_) (fun cb => ?_)
    · refine x_lconst (0 : Int64) C dL_isStale_14 rfl ?_
      refine x_last0 C ho1 in01 dL_isStale_15 hS1 (Or.inr rfl) (fun H2 locs2 ho2 hn2 hz2 hS2 => ?_)
      have hw2 := hw1.out hro hn2 hz2
      refine x_goto 22 C dL_isStale_16 (by decide) ?_
      refine x_iconst (0 : Int32) C dL_isStale_22 rfl ?_
      exact x_iretM2 C rfl dL_isStale_23 rfl ⟨hw2, by show oCell cA D ro (vp_updL oc 0 (if q = true then (1 : Int64) else 0)) H2; rw [if_neg (nbt cb)]; exact ho2⟩ hS2 (nb rfl) (nb rfl)
    · refine x_lconst (1 : Int64) C dL_isStale_10 rfl ?_
      refine x_goto 15 C dL_isStale_11 (by decide) ?_
      refine x_last0 C ho1 in01 dL_isStale_15 hS1 (Or.inr rfl) (fun H2 locs2 ho2 hn2 hz2 hS2 => ?_)
      have hw2 := hw1.out hro hn2 hz2
      refine x_goto 22 C dL_isStale_16 (by decide) ?_
      refine x_iconst (0 : Int32) C dL_isStale_22 rfl ?_
      exact x_iretM2 C rfl dL_isStale_23 rfl ⟨hw2, by show oCell cA D ro (vp_updL oc 0 (if q = true then (1 : Int64) else 0)) H2; rw [if_pos cb]; exact ho2⟩ hS2 (nb rfl) (nb rfl)
theorem mw_L_contested : ∀ ix, Cond.methodLink RL ix yL_contested ∈ gW → Cond.methodLink RL ix yL_contested ∈ gW ∧ Cond.static yL_contested ∈ gW ∧ Cond.initialized yL_contested.cls ∈ gW ∧ Cond.codeWith yL_contested cL_contested 4 (some (FieldType.int)) [(0, 9, 12, 32)] ∈ gW ∧ yL_contested.cls ≠ "java/lang/invoke/MethodHandle" ∧ yL_contested.cls ≠ "java/lang/invoke/VarHandle" ∧ (parseMethodDescriptor yL_contested.desc).map (fun d => d.parameters.length) = some 3 := fun _ h => ⟨h, gW_in (gT5 (List.mem_of_getElem? (i := 217) (by decide +kernel))) (by decide +kernel), gW_in (gT1 (List.mem_of_getElem? (i := 0) (by decide +kernel))) (by decide +kernel), gW_in (gT5 (List.mem_of_getElem? (i := 218) (by decide +kernel))) (by decide +kernel), by decide, by decide, by decide +kernel⟩
set_option maxRecDepth 20000 in
set_option maxHeartbeats 4000000 in
theorem k_L_contested (l : Launch) (D : va_G) (cA : Nat → ClassId) (s0 : State) (z : Nat) (b : Nat) (ν : Mm) (sz : Nat) (hG : xG l D cA s0) (hNc : xNc s0) (ro : Nat) (hro : b + 2628 ≤ ro) (hrz : ro < z) (oc : Nat → Int64) (a1 : Int32) (r : Thr Int32) (hF : g_X11_contested ν a1 = some r) (hk : ∀ k, r = .error k → k = 1) : Met l yL_contested (wsH yL_contested cL_contested 4 (some (FieldType.int)) [(0, 9, 12, 32)]) { frames := 10, cells := 1, slots := 6, locals := 197 } (xP D cA s0 [.ref b, .int a1, .ref ro] (fun H => H.size = sz ∧ WC D cA s0 z b ν H ∧ oCell cA D ro oc H)) (xQm (some (.int (thC (fun k => if k = 1 then 1 else 0) r))) (fun H => WC D cA s0 z b (thM (fun _ => ν) ν r) H ∧ oCell cA D ro (thO (fun q => q.toInt64) oc r) H) (xAL b ro sz)) 1 6 (xAL b ro sz) := by
  refine h_start (own := RL) [(0, .ref b), (1, .int a1), (2, .ref ro)] rfl rfl (by decide) (nb rfl) ?_
  intro p e s m args below meth c C htab hw
  obtain ⟨hsz, hw, ho⟩ := hw
  subst hsz
  have hS : va_S (xAL b ro s.heap.size) s.heap s.heap [] := va_S.rf
  have hrl : ro < s.heap.size := at_lt ho
  refine x_aload_n C dL_contested_0 rfl ?_
  refine x_iconst (0 : Int32) C dL_contested_1 rfl ?_
  refine x_aload_n C dL_contested_2 rfl ?_
  refine x_iload_n C dL_contested_3 rfl ?_
  refine t_goC (fun ls h => t_runV (As := [.int a1]) [.int (0 : Int32), .ref ro] h C ml_L_98 (k_X11_contested l D cA s0 z b ν _ hG a1 r hF) ⟨rfl, rfl, nb rfl, nb rfl⟩ rfl (C_PD hw) rfl ⟨rfl, hw⟩ (nb rfl) ⟨nb rfl, nb rfl⟩ dL_contested_4) hS (fun _ h => Or.inl h) (fun k hr H1 locs1 q9 ce hw1 hz1 hk1 hS1 hce hcv hcl ls9 hl9 => ?_) (fun q hr H1 locs1 hw1 hz1 hk1 hS1 => ?_)
  · subst hr
    have ho1 : oCell cA D ro oc H1 := ho.kept (hk1 ro hrl (fun zz => zz.elim (fun g => absurd g.2 (by omega)) (fun g => absurd g (by omega))))
    have hk := hk k rfl
    subst hk
    refine x_catch (k := 1) (hpc := 12) (pre := []) (x := (0, 9, 12, 32)) (suf := []) C hG hNc (by decide) htab (fun z hz => nomatch hz) (by decide) (by decide) lk_32 rfl hce hcv hcl hl9 ?_
    refine x_astore_n [(3, .ref q9), (0, .ref b), (1, .int a1), (2, .ref ro)] C dL_contested_12 rfl (by decide) rfl ?_
    refine x_iconst (1 : Int32) C dL_contested_13 rfl ?_
    exact x_iretM2 C rfl dL_contested_14 rfl ⟨hw1, ho1⟩ hS1 (nb rfl) (nb rfl)
  · subst hr
    have ho1 : oCell cA D ro oc H1 := ho.kept (hk1 ro hrl (fun zz => zz.elim (fun g => absurd g.2 (by omega)) (fun g => absurd g (by omega))))
    refine x_i2l C dL_contested_7 ?_
    refine x_last0 C ho1 in01 dL_contested_8 hS1 (Or.inr rfl) (fun H2 locs2 ho2 hn2 hz2 hS2 => ?_)
    have hw2 := hw1.out hro hn2 hz2
    refine x_goto 15 C dL_contested_9 (by decide) ?_
    refine x_iconst (0 : Int32) C dL_contested_15 rfl ?_
    exact x_iretM2 C rfl dL_contested_16 rfl ⟨hw2, ho2⟩ hS2 (nb rfl) (nb rfl)
theorem mw_L_note : ∀ ix, Cond.methodLink RL ix yL_note ∈ gW → Cond.methodLink RL ix yL_note ∈ gW ∧ Cond.static yL_note ∈ gW ∧ Cond.initialized yL_note.cls ∈ gW ∧ Cond.codeWith yL_note cL_note 5 (some (FieldType.int)) [(0, 10, 13, 32), (0, 10, 17, 19)] ∈ gW ∧ yL_note.cls ≠ "java/lang/invoke/MethodHandle" ∧ yL_note.cls ≠ "java/lang/invoke/VarHandle" ∧ (parseMethodDescriptor yL_note.desc).map (fun d => d.parameters.length) = some 4 := fun _ h => ⟨h, gW_in (gT5 (List.mem_of_getElem? (i := 227) (by decide +kernel))) (by decide +kernel), gW_in (gT1 (List.mem_of_getElem? (i := 0) (by decide +kernel))) (by decide +kernel), gW_in (gT5 (List.mem_of_getElem? (i := 228) (by decide +kernel))) (by decide +kernel), by decide, by decide, by decide +kernel⟩
set_option maxRecDepth 20000 in
set_option maxHeartbeats 4000000 in
theorem k_L_note (l : Launch) (D : va_G) (cA : Nat → ClassId) (s0 : State) (z : Nat) (b : Nat) (ν : Mm) (sz : Nat) (hG : xG l D cA s0) (hNc : xNc s0) (ro : Nat) (hro : b + 2628 ≤ ro) (hrz : ro < z) (oc : Nat → Int64) (a1 : Int32) (a2 : Int32) (r : Thr Int32) (hF : g_X11_note ν a1 a2 = some r) (hk : ∀ k, r = .error k → k = 1 ∨ k = 2) : Met l yL_note (wsH yL_note cL_note 5 (some (FieldType.int)) [(0, 10, 13, 32), (0, 10, 17, 19)]) { frames := 10, cells := 2, slots := 12, locals := 198 } (xP D cA s0 [.ref b, .int a1, .int a2, .ref ro] (fun H => H.size = sz ∧ WC D cA s0 z b ν H ∧ oCell cA D ro oc H)) (xQm (some (.int (thC (fun k => if k = 1 then 1 else if k = 2 then 2 else 0) r))) (fun H => WC D cA s0 z b (thM (fun _ => ν) ν r) H ∧ oCell cA D ro (thO (fun q => q.toInt64) oc r) H) (xAL b ro sz)) 2 12 (xAL b ro sz) := by
  refine h_start (own := RL) [(0, .ref b), (1, .int a1), (2, .int a2), (3, .ref ro)] rfl rfl (by decide) (nb rfl) ?_
  intro p e s m args below meth c C htab hw
  obtain ⟨hsz, hw, ho⟩ := hw
  subst hsz
  have hS : va_S (xAL b ro s.heap.size) s.heap s.heap [] := va_S.rf
  have hrl : ro < s.heap.size := at_lt ho
  refine x_aload_n C dL_note_0 rfl ?_
  refine x_iconst (0 : Int32) C dL_note_1 rfl ?_
  refine x_aload_n C dL_note_2 rfl ?_
  refine x_iload_n C dL_note_3 rfl ?_
  refine x_iload_n C dL_note_4 rfl ?_
  refine t_goC (fun ls h => t_runV (As := [.int a1, .int a2]) [.int (0 : Int32), .ref ro] h C ml_L_101 (k_X11_note l D cA s0 z b ν _ hG a1 a2 r hF) ⟨rfl, rfl, nb rfl, nb rfl⟩ rfl (C_PD hw) rfl ⟨rfl, hw⟩ (nb rfl) ⟨nb rfl, nb rfl⟩ dL_note_5) hS (fun _ h => Or.inl h) (fun k hr H1 locs1 q9 ce hw1 hz1 hk1 hS1 hce hcv hcl ls9 hl9 => ?_) (fun q hr H1 locs1 hw1 hz1 hk1 hS1 => ?_)
  · subst hr
    have ho1 : oCell cA D ro oc H1 := ho.kept (hk1 ro hrl (fun zz => zz.elim (fun g => absurd g.2 (by omega)) (fun g => absurd g (by omega))))
    rcases hk k rfl with rfl | rfl
    · refine x_catch (k := 1) (hpc := 13) (pre := []) (x := (0, 10, 13, 32)) (suf := [(0, 10, 17, 19)]) C hG hNc (by decide) htab (fun z hz => nomatch hz) (by decide) (by decide) lk_32 rfl hce hcv hcl hl9 ?_
      refine x_astore [(4, .ref q9), (0, .ref b), (1, .int a1), (2, .int a2), (3, .ref ro)] C dL_note_13 (by decide) rfl ?_
      refine x_iconst (1 : Int32) C dL_note_15 rfl ?_
      exact x_iretM2 C rfl dL_note_16 rfl ⟨hw1, ho1⟩ hS1 (nb rfl) (nb rfl)
    · refine x_catch (k := 2) (hpc := 17) (pre := [(0, 10, 13, 32)]) (x := (0, 10, 17, 19)) (suf := []) C hG hNc (by decide) htab (fun z hz => by
        simp only [List.mem_cons, List.not_mem_nil, or_false] at hz
        rcases hz with rfl
        · exact ⟨by decide, 1, by decide, by decide, lk_32⟩) (by decide) (by decide) lk_19 rfl hce hcv hcl hl9 ?_
      refine x_astore [(4, .ref q9), (0, .ref b), (1, .int a1), (2, .int a2), (3, .ref ro)] C dL_note_17 (by decide) rfl ?_
      refine x_iconst (2 : Int32) C dL_note_19 rfl ?_
      exact x_iretM2 C rfl dL_note_20 rfl ⟨hw1, ho1⟩ hS1 (nb rfl) (nb rfl)
  · subst hr
    have ho1 : oCell cA D ro oc H1 := ho.kept (hk1 ro hrl (fun zz => zz.elim (fun g => absurd g.2 (by omega)) (fun g => absurd g (by omega))))
    refine x_i2l C dL_note_8 ?_
    refine x_last0 C ho1 in01 dL_note_9 hS1 (Or.inr rfl) (fun H2 locs2 ho2 hn2 hz2 hS2 => ?_)
    have hw2 := hw1.out hro hn2 hz2
    refine x_goto 21 C dL_note_10 (by decide) ?_
    refine x_iconst (0 : Int32) C dL_note_21 rfl ?_
    exact x_iretM2 C rfl dL_note_22 rfl ⟨hw2, ho2⟩ hS2 (nb rfl) (nb rfl)
theorem mw_L_balance : ∀ ix, Cond.methodLink RL ix yL_balance ∈ gW → Cond.methodLink RL ix yL_balance ∈ gW ∧ Cond.static yL_balance ∈ gW ∧ Cond.initialized yL_balance.cls ∈ gW ∧ Cond.codeWith yL_balance cL_balance 4 (some (FieldType.int)) [(0, 8, 11, 32)] ∈ gW ∧ yL_balance.cls ≠ "java/lang/invoke/MethodHandle" ∧ yL_balance.cls ≠ "java/lang/invoke/VarHandle" ∧ (parseMethodDescriptor yL_balance.desc).map (fun d => d.parameters.length) = some 3 := fun _ h => ⟨h, gW_in (gT5 (List.mem_of_getElem? (i := 234) (by decide +kernel))) (by decide +kernel), gW_in (gT1 (List.mem_of_getElem? (i := 0) (by decide +kernel))) (by decide +kernel), gW_in (gT5 (List.mem_of_getElem? (i := 235) (by decide +kernel))) (by decide +kernel), by decide, by decide, by decide +kernel⟩
set_option maxRecDepth 20000 in
set_option maxHeartbeats 4000000 in
theorem k_L_balance (l : Launch) (D : va_G) (cA : Nat → ClassId) (s0 : State) (z : Nat) (b : Nat) (ν : Mm) (sz : Nat) (hG : xG l D cA s0) (hNc : xNc s0) (ro : Nat) (hro : b + 2628 ≤ ro) (hrz : ro < z) (oc : Nat → Int64) (a1 : Int32) (r : Thr Int64) (hF : g_X11_balance ν a1 = some r) (hk : ∀ k, r = .error k → k = 1) : Met l yL_balance (wsH yL_balance cL_balance 4 (some (FieldType.int)) [(0, 8, 11, 32)]) { frames := 10, cells := 1, slots := 6, locals := 196 } (xP D cA s0 [.ref b, .int a1, .ref ro] (fun H => H.size = sz ∧ WC D cA s0 z b ν H ∧ oCell cA D ro oc H)) (xQm (some (.int (thC (fun k => if k = 1 then 1 else 0) r))) (fun H => WC D cA s0 z b (thM (fun _ => ν) ν r) H ∧ oCell cA D ro (thO (fun q => q) oc r) H) (xAL b ro sz)) 1 6 (xAL b ro sz) := by
  refine h_start (own := RL) [(0, .ref b), (1, .int a1), (2, .ref ro)] rfl rfl (by decide) (nb rfl) ?_
  intro p e s m args below meth c C htab hw
  obtain ⟨hsz, hw, ho⟩ := hw
  subst hsz
  have hS : va_S (xAL b ro s.heap.size) s.heap s.heap [] := va_S.rf
  have hrl : ro < s.heap.size := at_lt ho
  refine x_aload_n C dL_balance_0 rfl ?_
  refine x_iconst (0 : Int32) C dL_balance_1 rfl ?_
  refine x_aload_n C dL_balance_2 rfl ?_
  refine x_iload_n C dL_balance_3 rfl ?_
  refine t_goC (fun ls h => t_runV (As := [.int a1]) [.int (0 : Int32), .ref ro] h C ml_L_104 (k_X11_balance l D cA s0 z b ν _ hG a1 r hF) ⟨rfl, rfl, nb rfl, nb rfl⟩ rfl (C_PD hw) rfl ⟨rfl, hw⟩ (nb rfl) ⟨nb rfl, nb rfl⟩ dL_balance_4) hS (fun _ h => Or.inl h) (fun k hr H1 locs1 q9 ce hw1 hz1 hk1 hS1 hce hcv hcl ls9 hl9 => ?_) (fun q hr H1 locs1 hw1 hz1 hk1 hS1 => ?_)
  · subst hr
    have ho1 : oCell cA D ro oc H1 := ho.kept (hk1 ro hrl (fun zz => zz.elim (fun g => absurd g.2 (by omega)) (fun g => absurd g (by omega))))
    have hk := hk k rfl
    subst hk
    refine x_catch (k := 1) (hpc := 11) (pre := []) (x := (0, 8, 11, 32)) (suf := []) C hG hNc (by decide) htab (fun z hz => nomatch hz) (by decide) (by decide) lk_32 rfl hce hcv hcl hl9 ?_
    refine x_astore_n [(3, .ref q9), (0, .ref b), (1, .int a1), (2, .ref ro)] C dL_balance_11 rfl (by decide) rfl ?_
    refine x_iconst (1 : Int32) C dL_balance_12 rfl ?_
    exact x_iretM2 C rfl dL_balance_13 rfl ⟨hw1, ho1⟩ hS1 (nb rfl) (nb rfl)
  · subst hr
    have ho1 : oCell cA D ro oc H1 := ho.kept (hk1 ro hrl (fun zz => zz.elim (fun g => absurd g.2 (by omega)) (fun g => absurd g (by omega))))
    refine x_last0 C ho1 in01 dL_balance_7 hS1 (Or.inr rfl) (fun H2 locs2 ho2 hn2 hz2 hS2 => ?_)
    have hw2 := hw1.out hro hn2 hz2
    refine x_goto 14 C dL_balance_8 (by decide) ?_
    refine x_iconst (0 : Int32) C dL_balance_14 rfl ?_
    exact x_iretM2 C rfl dL_balance_15 rfl ⟨hw2, ho2⟩ hS2 (nb rfl) (nb rfl)
theorem mw_L_paid : ∀ ix, Cond.methodLink RL ix yL_paid ∈ gW → Cond.methodLink RL ix yL_paid ∈ gW ∧ Cond.static yL_paid ∈ gW ∧ Cond.initialized yL_paid.cls ∈ gW ∧ Cond.codeWith yL_paid cL_paid 4 (some (FieldType.int)) [(0, 8, 11, 32)] ∈ gW ∧ yL_paid.cls ≠ "java/lang/invoke/MethodHandle" ∧ yL_paid.cls ≠ "java/lang/invoke/VarHandle" ∧ (parseMethodDescriptor yL_paid.desc).map (fun d => d.parameters.length) = some 3 := fun _ h => ⟨h, gW_in (gT6 (List.mem_of_getElem? (i := 5) (by decide +kernel))) (by decide +kernel), gW_in (gT1 (List.mem_of_getElem? (i := 0) (by decide +kernel))) (by decide +kernel), gW_in (gT6 (List.mem_of_getElem? (i := 6) (by decide +kernel))) (by decide +kernel), by decide, by decide, by decide +kernel⟩
set_option maxRecDepth 20000 in
set_option maxHeartbeats 4000000 in
theorem k_L_paid (l : Launch) (D : va_G) (cA : Nat → ClassId) (s0 : State) (z : Nat) (b : Nat) (ν : Mm) (sz : Nat) (hG : xG l D cA s0) (hNc : xNc s0) (ro : Nat) (hro : b + 2628 ≤ ro) (hrz : ro < z) (oc : Nat → Int64) (a1 : Int32) (r : Thr Int64) (hF : g_X11_paid ν a1 = some r) (hk : ∀ k, r = .error k → k = 1) : Met l yL_paid (wsH yL_paid cL_paid 4 (some (FieldType.int)) [(0, 8, 11, 32)]) { frames := 10, cells := 1, slots := 6, locals := 196 } (xP D cA s0 [.ref b, .int a1, .ref ro] (fun H => H.size = sz ∧ WC D cA s0 z b ν H ∧ oCell cA D ro oc H)) (xQm (some (.int (thC (fun k => if k = 1 then 1 else 0) r))) (fun H => WC D cA s0 z b (thM (fun _ => ν) ν r) H ∧ oCell cA D ro (thO (fun q => q) oc r) H) (xAL b ro sz)) 1 6 (xAL b ro sz) := by
  refine h_start (own := RL) [(0, .ref b), (1, .int a1), (2, .ref ro)] rfl rfl (by decide) (nb rfl) ?_
  intro p e s m args below meth c C htab hw
  obtain ⟨hsz, hw, ho⟩ := hw
  subst hsz
  have hS : va_S (xAL b ro s.heap.size) s.heap s.heap [] := va_S.rf
  have hrl : ro < s.heap.size := at_lt ho
  refine x_aload_n C dL_paid_0 rfl ?_
  refine x_iconst (0 : Int32) C dL_paid_1 rfl ?_
  refine x_aload_n C dL_paid_2 rfl ?_
  refine x_iload_n C dL_paid_3 rfl ?_
  refine t_goC (fun ls h => t_runV (As := [.int a1]) [.int (0 : Int32), .ref ro] h C ml_L_108 (k_X11_paid l D cA s0 z b ν _ hG a1 r hF) ⟨rfl, rfl, nb rfl, nb rfl⟩ rfl (C_PD hw) rfl ⟨rfl, hw⟩ (nb rfl) ⟨nb rfl, nb rfl⟩ dL_paid_4) hS (fun _ h => Or.inl h) (fun k hr H1 locs1 q9 ce hw1 hz1 hk1 hS1 hce hcv hcl ls9 hl9 => ?_) (fun q hr H1 locs1 hw1 hz1 hk1 hS1 => ?_)
  · subst hr
    have ho1 : oCell cA D ro oc H1 := ho.kept (hk1 ro hrl (fun zz => zz.elim (fun g => absurd g.2 (by omega)) (fun g => absurd g (by omega))))
    have hk := hk k rfl
    subst hk
    refine x_catch (k := 1) (hpc := 11) (pre := []) (x := (0, 8, 11, 32)) (suf := []) C hG hNc (by decide) htab (fun z hz => nomatch hz) (by decide) (by decide) lk_32 rfl hce hcv hcl hl9 ?_
    refine x_astore_n [(3, .ref q9), (0, .ref b), (1, .int a1), (2, .ref ro)] C dL_paid_11 rfl (by decide) rfl ?_
    refine x_iconst (1 : Int32) C dL_paid_12 rfl ?_
    exact x_iretM2 C rfl dL_paid_13 rfl ⟨hw1, ho1⟩ hS1 (nb rfl) (nb rfl)
  · subst hr
    have ho1 : oCell cA D ro oc H1 := ho.kept (hk1 ro hrl (fun zz => zz.elim (fun g => absurd g.2 (by omega)) (fun g => absurd g (by omega))))
    refine x_last0 C ho1 in01 dL_paid_7 hS1 (Or.inr rfl) (fun H2 locs2 ho2 hn2 hz2 hS2 => ?_)
    have hw2 := hw1.out hro hn2 hz2
    refine x_goto 14 C dL_paid_8 (by decide) ?_
    refine x_iconst (0 : Int32) C dL_paid_14 rfl ?_
    exact x_iretM2 C rfl dL_paid_15 rfl ⟨hw2, ho2⟩ hS2 (nb rfl) (nb rfl)
theorem mw_L_oldestOpen : ∀ ix, Cond.methodLink RL ix yL_oldestOpen ∈ gW → Cond.methodLink RL ix yL_oldestOpen ∈ gW ∧ Cond.static yL_oldestOpen ∈ gW ∧ Cond.initialized yL_oldestOpen.cls ∈ gW ∧ Cond.codeWith yL_oldestOpen cL_oldestOpen 4 (some (FieldType.int)) [(0, 9, 12, 32)] ∈ gW ∧ yL_oldestOpen.cls ≠ "java/lang/invoke/MethodHandle" ∧ yL_oldestOpen.cls ≠ "java/lang/invoke/VarHandle" ∧ (parseMethodDescriptor yL_oldestOpen.desc).map (fun d => d.parameters.length) = some 3 := fun _ h => ⟨h, gW_in (gT6 (List.mem_of_getElem? (i := 12) (by decide +kernel))) (by decide +kernel), gW_in (gT1 (List.mem_of_getElem? (i := 0) (by decide +kernel))) (by decide +kernel), gW_in (gT6 (List.mem_of_getElem? (i := 13) (by decide +kernel))) (by decide +kernel), by decide, by decide, by decide +kernel⟩
set_option maxRecDepth 20000 in
set_option maxHeartbeats 4000000 in
theorem k_L_oldestOpen (l : Launch) (D : va_G) (cA : Nat → ClassId) (s0 : State) (z : Nat) (b : Nat) (ν : Mm) (sz : Nat) (hG : xG l D cA s0) (hNc : xNc s0) (ro : Nat) (hro : b + 2628 ≤ ro) (hrz : ro < z) (oc : Nat → Int64) (a1 : Int32) (r : Thr Int32) (hF : g_X11_oldestOpen ν a1 = some r) (hk : ∀ k, r = .error k → k = 1) : Met l yL_oldestOpen (wsH yL_oldestOpen cL_oldestOpen 4 (some (FieldType.int)) [(0, 9, 12, 32)]) { frames := 10, cells := 1, slots := 6, locals := 197 } (xP D cA s0 [.ref b, .int a1, .ref ro] (fun H => H.size = sz ∧ WC D cA s0 z b ν H ∧ oCell cA D ro oc H)) (xQm (some (.int (thC (fun k => if k = 1 then 1 else 0) r))) (fun H => WC D cA s0 z b (thM (fun _ => ν) ν r) H ∧ oCell cA D ro (thO (fun q => q.toInt64) oc r) H) (xAL b ro sz)) 1 6 (xAL b ro sz) := by
  refine h_start (own := RL) [(0, .ref b), (1, .int a1), (2, .ref ro)] rfl rfl (by decide) (nb rfl) ?_
  intro p e s m args below meth c C htab hw
  obtain ⟨hsz, hw, ho⟩ := hw
  subst hsz
  have hS : va_S (xAL b ro s.heap.size) s.heap s.heap [] := va_S.rf
  have hrl : ro < s.heap.size := at_lt ho
  refine x_aload_n C dL_oldestOpen_0 rfl ?_
  refine x_iconst (0 : Int32) C dL_oldestOpen_1 rfl ?_
  refine x_aload_n C dL_oldestOpen_2 rfl ?_
  refine x_iload_n C dL_oldestOpen_3 rfl ?_
  refine t_goC (fun ls h => t_runV (As := [.int a1]) [.int (0 : Int32), .ref ro] h C ml_L_111 (k_X11_oldestOpen l D cA s0 z b ν _ hG a1 r hF) ⟨rfl, rfl, nb rfl, nb rfl⟩ rfl (C_PD hw) rfl ⟨rfl, hw⟩ (nb rfl) ⟨nb rfl, nb rfl⟩ dL_oldestOpen_4) hS (fun _ h => Or.inl h) (fun k hr H1 locs1 q9 ce hw1 hz1 hk1 hS1 hce hcv hcl ls9 hl9 => ?_) (fun q hr H1 locs1 hw1 hz1 hk1 hS1 => ?_)
  · subst hr
    have ho1 : oCell cA D ro oc H1 := ho.kept (hk1 ro hrl (fun zz => zz.elim (fun g => absurd g.2 (by omega)) (fun g => absurd g (by omega))))
    have hk := hk k rfl
    subst hk
    refine x_catch (k := 1) (hpc := 12) (pre := []) (x := (0, 9, 12, 32)) (suf := []) C hG hNc (by decide) htab (fun z hz => nomatch hz) (by decide) (by decide) lk_32 rfl hce hcv hcl hl9 ?_
    refine x_astore_n [(3, .ref q9), (0, .ref b), (1, .int a1), (2, .ref ro)] C dL_oldestOpen_12 rfl (by decide) rfl ?_
    refine x_iconst (1 : Int32) C dL_oldestOpen_13 rfl ?_
    exact x_iretM2 C rfl dL_oldestOpen_14 rfl ⟨hw1, ho1⟩ hS1 (nb rfl) (nb rfl)
  · subst hr
    have ho1 : oCell cA D ro oc H1 := ho.kept (hk1 ro hrl (fun zz => zz.elim (fun g => absurd g.2 (by omega)) (fun g => absurd g (by omega))))
    refine x_i2l C dL_oldestOpen_7 ?_
    refine x_last0 C ho1 in01 dL_oldestOpen_8 hS1 (Or.inr rfl) (fun H2 locs2 ho2 hn2 hz2 hS2 => ?_)
    have hw2 := hw1.out hro hn2 hz2
    refine x_goto 15 C dL_oldestOpen_9 (by decide) ?_
    refine x_iconst (0 : Int32) C dL_oldestOpen_15 rfl ?_
    exact x_iretM2 C rfl dL_oldestOpen_16 rfl ⟨hw2, ho2⟩ hS2 (nb rfl) (nb rfl)
theorem mw_L_overdue : ∀ ix, Cond.methodLink RL ix yL_overdue ∈ gW → Cond.methodLink RL ix yL_overdue ∈ gW ∧ Cond.static yL_overdue ∈ gW ∧ Cond.initialized yL_overdue.cls ∈ gW ∧ Cond.codeWith yL_overdue cL_overdue 4 (some (FieldType.int)) [(0, 9, 12, 19)] ∈ gW ∧ yL_overdue.cls ≠ "java/lang/invoke/MethodHandle" ∧ yL_overdue.cls ≠ "java/lang/invoke/VarHandle" ∧ (parseMethodDescriptor yL_overdue.desc).map (fun d => d.parameters.length) = some 3 := fun _ h => ⟨h, gW_in (gT6 (List.mem_of_getElem? (i := 20) (by decide +kernel))) (by decide +kernel), gW_in (gT1 (List.mem_of_getElem? (i := 0) (by decide +kernel))) (by decide +kernel), gW_in (gT6 (List.mem_of_getElem? (i := 21) (by decide +kernel))) (by decide +kernel), by decide, by decide, by decide +kernel⟩
set_option maxRecDepth 20000 in
set_option maxHeartbeats 4000000 in
theorem k_L_overdue (l : Launch) (D : va_G) (cA : Nat → ClassId) (s0 : State) (z : Nat) (b : Nat) (ν : Mm) (sz : Nat) (hG : xG l D cA s0) (hNc : xNc s0) (ro : Nat) (hro : b + 2628 ≤ ro) (hrz : ro < z) (oc : Nat → Int64) (a1 : Int32) (r : Thr Int32) (hF : g_X11_overdue ν a1 = some r) (hk : ∀ k, r = .error k → k = 2) : Met l yL_overdue (wsH yL_overdue cL_overdue 4 (some (FieldType.int)) [(0, 9, 12, 19)]) { frames := 10, cells := 1, slots := 6, locals := 198 } (xP D cA s0 [.ref b, .int a1, .ref ro] (fun H => H.size = sz ∧ WC D cA s0 z b ν H ∧ oCell cA D ro oc H)) (xQm (some (.int (thC (fun k => if k = 2 then 1 else 0) r))) (fun H => WC D cA s0 z b (thM (fun _ => ν) ν r) H ∧ oCell cA D ro (thO (fun q => q.toInt64) oc r) H) (xAL b ro sz)) 1 6 (xAL b ro sz) := by
  refine h_start (own := RL) [(0, .ref b), (1, .int a1), (2, .ref ro)] rfl rfl (by decide) (nb rfl) ?_
  intro p e s m args below meth c C htab hw
  obtain ⟨hsz, hw, ho⟩ := hw
  subst hsz
  have hS : va_S (xAL b ro s.heap.size) s.heap s.heap [] := va_S.rf
  have hrl : ro < s.heap.size := at_lt ho
  refine x_aload_n C dL_overdue_0 rfl ?_
  refine x_iconst (0 : Int32) C dL_overdue_1 rfl ?_
  refine x_aload_n C dL_overdue_2 rfl ?_
  refine x_iload_n C dL_overdue_3 rfl ?_
  refine t_goC (fun ls h => t_runV (As := [.int a1]) [.int (0 : Int32), .ref ro] h C ml_L_114 (k_X11_overdue l D cA s0 z b ν _ hG a1 r hF) ⟨rfl, rfl, nb rfl, nb rfl⟩ rfl (C_PD hw) rfl ⟨rfl, hw⟩ (nb rfl) ⟨nb rfl, nb rfl⟩ dL_overdue_4) hS (fun _ h => Or.inl h) (fun k hr H1 locs1 q9 ce hw1 hz1 hk1 hS1 hce hcv hcl ls9 hl9 => ?_) (fun q hr H1 locs1 hw1 hz1 hk1 hS1 => ?_)
  · subst hr
    have ho1 : oCell cA D ro oc H1 := ho.kept (hk1 ro hrl (fun zz => zz.elim (fun g => absurd g.2 (by omega)) (fun g => absurd g (by omega))))
    have hk := hk k rfl
    subst hk
    refine x_catch (k := 2) (hpc := 12) (pre := []) (x := (0, 9, 12, 19)) (suf := []) C hG hNc (by decide) htab (fun z hz => nomatch hz) (by decide) (by decide) lk_19 rfl hce hcv hcl hl9 ?_
    refine x_astore_n [(3, .ref q9), (0, .ref b), (1, .int a1), (2, .ref ro)] C dL_overdue_12 rfl (by decide) rfl ?_
    refine x_iconst (1 : Int32) C dL_overdue_13 rfl ?_
    exact x_iretM2 C rfl dL_overdue_14 rfl ⟨hw1, ho1⟩ hS1 (nb rfl) (nb rfl)
  · subst hr
    have ho1 : oCell cA D ro oc H1 := ho.kept (hk1 ro hrl (fun zz => zz.elim (fun g => absurd g.2 (by omega)) (fun g => absurd g (by omega))))
    refine x_i2l C dL_overdue_7 ?_
    refine x_last0 C ho1 in01 dL_overdue_8 hS1 (Or.inr rfl) (fun H2 locs2 ho2 hn2 hz2 hS2 => ?_)
    have hw2 := hw1.out hro hn2 hz2
    refine x_goto 15 C dL_overdue_9 (by decide) ?_
    refine x_iconst (0 : Int32) C dL_overdue_15 rfl ?_
    exact x_iretM2 C rfl dL_overdue_16 rfl ⟨hw2, ho2⟩ hS2 (nb rfl) (nb rfl)
theorem mw_L_revenue : ∀ ix, Cond.methodLink RL ix yL_revenue ∈ gW → Cond.methodLink RL ix yL_revenue ∈ gW ∧ Cond.static yL_revenue ∈ gW ∧ Cond.initialized yL_revenue.cls ∈ gW ∧ Cond.codeWith yL_revenue cL_revenue 5 (some (FieldType.int)) [(0, 9, 12, 19)] ∈ gW ∧ yL_revenue.cls ≠ "java/lang/invoke/MethodHandle" ∧ yL_revenue.cls ≠ "java/lang/invoke/VarHandle" ∧ (parseMethodDescriptor yL_revenue.desc).map (fun d => d.parameters.length) = some 4 := fun _ h => ⟨h, gW_in (gT6 (List.mem_of_getElem? (i := 27) (by decide +kernel))) (by decide +kernel), gW_in (gT1 (List.mem_of_getElem? (i := 0) (by decide +kernel))) (by decide +kernel), gW_in (gT6 (List.mem_of_getElem? (i := 28) (by decide +kernel))) (by decide +kernel), by decide, by decide, by decide +kernel⟩
set_option maxRecDepth 20000 in
set_option maxHeartbeats 4000000 in
theorem k_L_revenue (l : Launch) (D : va_G) (cA : Nat → ClassId) (s0 : State) (z : Nat) (b : Nat) (ν : Mm) (sz : Nat) (hG : xG l D cA s0) (hNc : xNc s0) (ro : Nat) (hro : b + 2628 ≤ ro) (hrz : ro < z) (oc : Nat → Int64) (a1 : Int32) (a2 : Int32) (r : Thr Int64) (hF : g_X11_revenue ν a1 a2 = some r) (hk : ∀ k, r = .error k → k = 2) : Met l yL_revenue (wsH yL_revenue cL_revenue 5 (some (FieldType.int)) [(0, 9, 12, 19)]) { frames := 11, cells := 2, slots := 12, locals := 221 } (xP D cA s0 [.ref b, .int a1, .int a2, .ref ro] (fun H => H.size = sz ∧ WC D cA s0 z b ν H ∧ oCell cA D ro oc H)) (xQm (some (.int (thC (fun k => if k = 2 then 1 else 0) r))) (fun H => WC D cA s0 z b (thM (fun _ => ν) ν r) H ∧ oCell cA D ro (thO (fun q => q) oc r) H) (xAL b ro sz)) 2 12 (xAL b ro sz) := by
  refine h_start (own := RL) [(0, .ref b), (1, .int a1), (2, .int a2), (3, .ref ro)] rfl rfl (by decide) (nb rfl) ?_
  intro p e s m args below meth c C htab hw
  obtain ⟨hsz, hw, ho⟩ := hw
  subst hsz
  have hS : va_S (xAL b ro s.heap.size) s.heap s.heap [] := va_S.rf
  have hrl : ro < s.heap.size := at_lt ho
  refine x_aload_n C dL_revenue_0 rfl ?_
  refine x_iconst (0 : Int32) C dL_revenue_1 rfl ?_
  refine x_aload_n C dL_revenue_2 rfl ?_
  refine x_iload_n C dL_revenue_3 rfl ?_
  refine x_iload_n C dL_revenue_4 rfl ?_
  refine t_goC (fun ls h => t_runV (As := [.int a1, .int a2]) [.int (0 : Int32), .ref ro] h C ml_L_117 (k_X11_revenue l D cA s0 z b ν _ hG a1 a2 r hF) ⟨rfl, rfl, nb rfl, nb rfl⟩ rfl (C_PD hw) rfl ⟨rfl, hw⟩ (nb rfl) ⟨nb rfl, nb rfl⟩ dL_revenue_5) hS (fun _ h => Or.inl h) (fun k hr H1 locs1 q9 ce hw1 hz1 hk1 hS1 hce hcv hcl ls9 hl9 => ?_) (fun q hr H1 locs1 hw1 hz1 hk1 hS1 => ?_)
  · subst hr
    have ho1 : oCell cA D ro oc H1 := ho.kept (hk1 ro hrl (fun zz => zz.elim (fun g => absurd g.2 (by omega)) (fun g => absurd g (by omega))))
    have hk := hk k rfl
    subst hk
    refine x_catch (k := 2) (hpc := 12) (pre := []) (x := (0, 9, 12, 19)) (suf := []) C hG hNc (by decide) htab (fun z hz => nomatch hz) (by decide) (by decide) lk_19 rfl hce hcv hcl hl9 ?_
    refine x_astore [(4, .ref q9), (0, .ref b), (1, .int a1), (2, .int a2), (3, .ref ro)] C dL_revenue_12 (by decide) rfl ?_
    refine x_iconst (1 : Int32) C dL_revenue_14 rfl ?_
    exact x_iretM2 C rfl dL_revenue_15 rfl ⟨hw1, ho1⟩ hS1 (nb rfl) (nb rfl)
  · subst hr
    have ho1 : oCell cA D ro oc H1 := ho.kept (hk1 ro hrl (fun zz => zz.elim (fun g => absurd g.2 (by omega)) (fun g => absurd g (by omega))))
    refine x_last0 C ho1 in01 dL_revenue_8 hS1 (Or.inr rfl) (fun H2 locs2 ho2 hn2 hz2 hS2 => ?_)
    have hw2 := hw1.out hro hn2 hz2
    refine x_goto 16 C dL_revenue_9 (by decide) ?_
    refine x_iconst (0 : Int32) C dL_revenue_16 rfl ?_
    exact x_iretM2 C rfl dL_revenue_17 rfl ⟨hw2, ho2⟩ hS2 (nb rfl) (nb rfl)
theorem mw_L_rebates : ∀ ix, Cond.methodLink RL ix yL_rebates ∈ gW → Cond.methodLink RL ix yL_rebates ∈ gW ∧ Cond.static yL_rebates ∈ gW ∧ Cond.initialized yL_rebates.cls ∈ gW ∧ Cond.codeWith yL_rebates cL_rebates 5 (some (FieldType.int)) [(0, 9, 12, 32), (0, 9, 16, 19)] ∈ gW ∧ yL_rebates.cls ≠ "java/lang/invoke/MethodHandle" ∧ yL_rebates.cls ≠ "java/lang/invoke/VarHandle" ∧ (parseMethodDescriptor yL_rebates.desc).map (fun d => d.parameters.length) = some 4 := fun _ h => ⟨h, gW_in (gT6 (List.mem_of_getElem? (i := 38) (by decide +kernel))) (by decide +kernel), gW_in (gT1 (List.mem_of_getElem? (i := 0) (by decide +kernel))) (by decide +kernel), gW_in (gT6 (List.mem_of_getElem? (i := 39) (by decide +kernel))) (by decide +kernel), by decide, by decide, by decide +kernel⟩
set_option maxRecDepth 20000 in
set_option maxHeartbeats 4000000 in
theorem k_L_rebates (l : Launch) (D : va_G) (cA : Nat → ClassId) (s0 : State) (z : Nat) (b : Nat) (ν : Mm) (sz : Nat) (hG : xG l D cA s0) (hNc : xNc s0) (ro : Nat) (hro : b + 2628 ≤ ro) (hrz : ro < z) (oc : Nat → Int64) (a1 : Int32) (a2 : Int32) (r : Thr Int64) (hF : g_X11_rebates ν a1 a2 = some r) (hk : ∀ k, r = .error k → k = 1 ∨ k = 2) : Met l yL_rebates (wsH yL_rebates cL_rebates 5 (some (FieldType.int)) [(0, 9, 12, 32), (0, 9, 16, 19)]) { frames := 10, cells := 2, slots := 12, locals := 201 } (xP D cA s0 [.ref b, .int a1, .int a2, .ref ro] (fun H => H.size = sz ∧ WC D cA s0 z b ν H ∧ oCell cA D ro oc H)) (xQm (some (.int (thC (fun k => if k = 1 then 1 else if k = 2 then 2 else 0) r))) (fun H => WC D cA s0 z b (thM (fun _ => ν) ν r) H ∧ oCell cA D ro (thO (fun q => q) oc r) H) (xAL b ro sz)) 2 12 (xAL b ro sz) := by
  refine h_start (own := RL) [(0, .ref b), (1, .int a1), (2, .int a2), (3, .ref ro)] rfl rfl (by decide) (nb rfl) ?_
  intro p e s m args below meth c C htab hw
  obtain ⟨hsz, hw, ho⟩ := hw
  subst hsz
  have hS : va_S (xAL b ro s.heap.size) s.heap s.heap [] := va_S.rf
  have hrl : ro < s.heap.size := at_lt ho
  refine x_aload_n C dL_rebates_0 rfl ?_
  refine x_iconst (0 : Int32) C dL_rebates_1 rfl ?_
  refine x_aload_n C dL_rebates_2 rfl ?_
  refine x_iload_n C dL_rebates_3 rfl ?_
  refine x_iload_n C dL_rebates_4 rfl ?_
  refine t_goC (fun ls h => t_runV (As := [.int a1, .int a2]) [.int (0 : Int32), .ref ro] h C ml_L_121 (k_X11_rebates l D cA s0 z b ν _ hG a1 a2 r hF) ⟨rfl, rfl, nb rfl, nb rfl⟩ rfl (C_PD hw) rfl ⟨rfl, hw⟩ (nb rfl) ⟨nb rfl, nb rfl⟩ dL_rebates_5) hS (fun _ h => Or.inl h) (fun k hr H1 locs1 q9 ce hw1 hz1 hk1 hS1 hce hcv hcl ls9 hl9 => ?_) (fun q hr H1 locs1 hw1 hz1 hk1 hS1 => ?_)
  · subst hr
    have ho1 : oCell cA D ro oc H1 := ho.kept (hk1 ro hrl (fun zz => zz.elim (fun g => absurd g.2 (by omega)) (fun g => absurd g (by omega))))
    rcases hk k rfl with rfl | rfl
    · refine x_catch (k := 1) (hpc := 12) (pre := []) (x := (0, 9, 12, 32)) (suf := [(0, 9, 16, 19)]) C hG hNc (by decide) htab (fun z hz => nomatch hz) (by decide) (by decide) lk_32 rfl hce hcv hcl hl9 ?_
      refine x_astore [(4, .ref q9), (0, .ref b), (1, .int a1), (2, .int a2), (3, .ref ro)] C dL_rebates_12 (by decide) rfl ?_
      refine x_iconst (1 : Int32) C dL_rebates_14 rfl ?_
      exact x_iretM2 C rfl dL_rebates_15 rfl ⟨hw1, ho1⟩ hS1 (nb rfl) (nb rfl)
    · refine x_catch (k := 2) (hpc := 16) (pre := [(0, 9, 12, 32)]) (x := (0, 9, 16, 19)) (suf := []) C hG hNc (by decide) htab (fun z hz => by
        simp only [List.mem_cons, List.not_mem_nil, or_false] at hz
        rcases hz with rfl
        · exact ⟨by decide, 1, by decide, by decide, lk_32⟩) (by decide) (by decide) lk_19 rfl hce hcv hcl hl9 ?_
      refine x_astore [(4, .ref q9), (0, .ref b), (1, .int a1), (2, .int a2), (3, .ref ro)] C dL_rebates_16 (by decide) rfl ?_
      refine x_iconst (2 : Int32) C dL_rebates_18 rfl ?_
      exact x_iretM2 C rfl dL_rebates_19 rfl ⟨hw1, ho1⟩ hS1 (nb rfl) (nb rfl)
  · subst hr
    have ho1 : oCell cA D ro oc H1 := ho.kept (hk1 ro hrl (fun zz => zz.elim (fun g => absurd g.2 (by omega)) (fun g => absurd g (by omega))))
    refine x_last0 C ho1 in01 dL_rebates_8 hS1 (Or.inr rfl) (fun H2 locs2 ho2 hn2 hz2 hS2 => ?_)
    have hw2 := hw1.out hro hn2 hz2
    refine x_goto 20 C dL_rebates_9 (by decide) ?_
    refine x_iconst (0 : Int32) C dL_rebates_20 rfl ?_
    exact x_iretM2 C rfl dL_rebates_21 rfl ⟨hw2, ho2⟩ hS2 (nb rfl) (nb rfl)
theorem mw_L_quote : ∀ ix, Cond.methodLink RL ix yL_quote ∈ gW → Cond.methodLink RL ix yL_quote ∈ gW ∧ Cond.static yL_quote ∈ gW ∧ Cond.initialized yL_quote.cls ∈ gW ∧ Cond.codeWith yL_quote cL_quote 7 (some (FieldType.int)) [(0, 14, 17, 32), (0, 14, 21, 19)] ∈ gW ∧ yL_quote.cls ≠ "java/lang/invoke/MethodHandle" ∧ yL_quote.cls ≠ "java/lang/invoke/VarHandle" ∧ (parseMethodDescriptor yL_quote.desc).map (fun d => d.parameters.length) = some 6 := fun _ h => ⟨h, gW_in (gT6 (List.mem_of_getElem? (i := 45) (by decide +kernel))) (by decide +kernel), gW_in (gT1 (List.mem_of_getElem? (i := 0) (by decide +kernel))) (by decide +kernel), gW_in (gT6 (List.mem_of_getElem? (i := 46) (by decide +kernel))) (by decide +kernel), by decide, by decide, by decide +kernel⟩
set_option maxRecDepth 20000 in
set_option maxHeartbeats 4000000 in
theorem k_L_quote (l : Launch) (D : va_G) (cA : Nat → ClassId) (s0 : State) (z : Nat) (b : Nat) (ν : Mm) (sz : Nat) (hG : xG l D cA s0) (hNc : xNc s0) (ro : Nat) (hro : b + 2628 ≤ ro) (hrz : ro < z) (oc : Nat → Int64) (a1 : Int32) (a2 : Int32) (a3 : Int32) (a4 : Int32) (r : Thr Int32) (hF : g_X11_quote ν a1 a2 a3 a4 = some r) (hk : ∀ k, r = .error k → k = 1 ∨ k = 2) : Met l yL_quote (wsH yL_quote cL_quote 7 (some (FieldType.int)) [(0, 14, 17, 32), (0, 14, 21, 19)]) { frames := 11, cells := 4, slots := 24, locals := 225 } (xP D cA s0 [.ref b, .int a1, .int a2, .int a3, .int a4, .ref ro] (fun H => H.size = sz ∧ WC D cA s0 z b ν H ∧ oCell cA D ro oc H)) (xQm (some (.int (thC (fun k => if k = 1 then 1 else if k = 2 then 2 else 0) r))) (fun H => WC D cA s0 z b (thM (fun _ => ν) ν r) H ∧ oCell cA D ro (thO (fun q => q.toInt64) oc r) H) (xAL b ro sz)) 4 24 (xAL b ro sz) := by
  refine h_start (own := RL) [(0, .ref b), (1, .int a1), (2, .int a2), (3, .int a3), (4, .int a4), (5, .ref ro)] rfl rfl (by decide) (nb rfl) ?_
  intro p e s m args below meth c C htab hw
  obtain ⟨hsz, hw, ho⟩ := hw
  subst hsz
  have hS : va_S (xAL b ro s.heap.size) s.heap s.heap [] := va_S.rf
  have hrl : ro < s.heap.size := at_lt ho
  refine x_aload C dL_quote_0 rfl ?_
  refine x_iconst (0 : Int32) C dL_quote_2 rfl ?_
  refine x_aload_n C dL_quote_3 rfl ?_
  refine x_iload_n C dL_quote_4 rfl ?_
  refine x_iload_n C dL_quote_5 rfl ?_
  refine x_iload_n C dL_quote_6 rfl ?_
  refine x_iload C dL_quote_7 rfl ?_
  refine t_goC (fun ls h => t_runV (As := [.int a1, .int a2, .int a3, .int a4]) [.int (0 : Int32), .ref ro] h C ml_L_124 (k_X11_quote l D cA s0 z b ν _ hG a1 a2 a3 a4 r hF) ⟨rfl, rfl, nb rfl, nb rfl⟩ rfl (C_PD hw) rfl ⟨rfl, hw⟩ (nb rfl) ⟨nb rfl, nb rfl⟩ dL_quote_9) hS (fun _ h => Or.inl h) (fun k hr H1 locs1 q9 ce hw1 hz1 hk1 hS1 hce hcv hcl ls9 hl9 => ?_) (fun q hr H1 locs1 hw1 hz1 hk1 hS1 => ?_)
  · subst hr
    have ho1 : oCell cA D ro oc H1 := ho.kept (hk1 ro hrl (fun zz => zz.elim (fun g => absurd g.2 (by omega)) (fun g => absurd g (by omega))))
    rcases hk k rfl with rfl | rfl
    · refine x_catch (k := 1) (hpc := 17) (pre := []) (x := (0, 14, 17, 32)) (suf := [(0, 14, 21, 19)]) C hG hNc (by decide) htab (fun z hz => nomatch hz) (by decide) (by decide) lk_32 rfl hce hcv hcl hl9 ?_
      refine x_astore [(6, .ref q9), (0, .ref b), (1, .int a1), (2, .int a2), (3, .int a3), (4, .int a4), (5, .ref ro)] C dL_quote_17 (by decide) rfl ?_
      refine x_iconst (1 : Int32) C dL_quote_19 rfl ?_
      exact x_iretM2 C rfl dL_quote_20 rfl ⟨hw1, ho1⟩ hS1 (nb rfl) (nb rfl)
    · refine x_catch (k := 2) (hpc := 21) (pre := [(0, 14, 17, 32)]) (x := (0, 14, 21, 19)) (suf := []) C hG hNc (by decide) htab (fun z hz => by
        simp only [List.mem_cons, List.not_mem_nil, or_false] at hz
        rcases hz with rfl
        · exact ⟨by decide, 1, by decide, by decide, lk_32⟩) (by decide) (by decide) lk_19 rfl hce hcv hcl hl9 ?_
      refine x_astore [(6, .ref q9), (0, .ref b), (1, .int a1), (2, .int a2), (3, .int a3), (4, .int a4), (5, .ref ro)] C dL_quote_21 (by decide) rfl ?_
      refine x_iconst (2 : Int32) C dL_quote_23 rfl ?_
      exact x_iretM2 C rfl dL_quote_24 rfl ⟨hw1, ho1⟩ hS1 (nb rfl) (nb rfl)
  · subst hr
    have ho1 : oCell cA D ro oc H1 := ho.kept (hk1 ro hrl (fun zz => zz.elim (fun g => absurd g.2 (by omega)) (fun g => absurd g (by omega))))
    refine x_i2l C dL_quote_12 ?_
    refine x_last0 C ho1 in01 dL_quote_13 hS1 (Or.inr rfl) (fun H2 locs2 ho2 hn2 hz2 hS2 => ?_)
    have hw2 := hw1.out hro hn2 hz2
    refine x_goto 25 C dL_quote_14 (by decide) ?_
    refine x_iconst (0 : Int32) C dL_quote_25 rfl ?_
    exact x_iretM2 C rfl dL_quote_26 rfl ⟨hw2, ho2⟩ hS2 (nb rfl) (nb rfl)
theorem mw_L_callsToRebate : ∀ ix, Cond.methodLink RL ix yL_callsToRebate ∈ gW → Cond.methodLink RL ix yL_callsToRebate ∈ gW ∧ Cond.static yL_callsToRebate ∈ gW ∧ Cond.initialized yL_callsToRebate.cls ∈ gW ∧ Cond.codeWith yL_callsToRebate cL_callsToRebate 5 (some (FieldType.int)) [(0, 10, 13, 32), (0, 10, 17, 19)] ∈ gW ∧ yL_callsToRebate.cls ≠ "java/lang/invoke/MethodHandle" ∧ yL_callsToRebate.cls ≠ "java/lang/invoke/VarHandle" ∧ (parseMethodDescriptor yL_callsToRebate.desc).map (fun d => d.parameters.length) = some 4 := fun _ h => ⟨h, gW_in (gT6 (List.mem_of_getElem? (i := 58) (by decide +kernel))) (by decide +kernel), gW_in (gT1 (List.mem_of_getElem? (i := 0) (by decide +kernel))) (by decide +kernel), gW_in (gT6 (List.mem_of_getElem? (i := 59) (by decide +kernel))) (by decide +kernel), by decide, by decide, by decide +kernel⟩
set_option maxRecDepth 20000 in
set_option maxHeartbeats 4000000 in
theorem k_L_callsToRebate (l : Launch) (D : va_G) (cA : Nat → ClassId) (s0 : State) (z : Nat) (b : Nat) (ν : Mm) (sz : Nat) (hG : xG l D cA s0) (hNc : xNc s0) (ro : Nat) (hro : b + 2628 ≤ ro) (hrz : ro < z) (oc : Nat → Int64) (a1 : Int32) (a2 : Int32) (r : Thr Int32) (hF : g_X11_callsToRebate ν a1 a2 = some r) (hk : ∀ k, r = .error k → k = 1 ∨ k = 2) : Met l yL_callsToRebate (wsH yL_callsToRebate cL_callsToRebate 5 (some (FieldType.int)) [(0, 10, 13, 32), (0, 10, 17, 19)]) { frames := 10, cells := 2, slots := 12, locals := 201 } (xP D cA s0 [.ref b, .int a1, .int a2, .ref ro] (fun H => H.size = sz ∧ WC D cA s0 z b ν H ∧ oCell cA D ro oc H)) (xQm (some (.int (thC (fun k => if k = 1 then 1 else if k = 2 then 2 else 0) r))) (fun H => WC D cA s0 z b (thM (fun _ => ν) ν r) H ∧ oCell cA D ro (thO (fun q => q.toInt64) oc r) H) (xAL b ro sz)) 2 12 (xAL b ro sz) := by
  refine h_start (own := RL) [(0, .ref b), (1, .int a1), (2, .int a2), (3, .ref ro)] rfl rfl (by decide) (nb rfl) ?_
  intro p e s m args below meth c C htab hw
  obtain ⟨hsz, hw, ho⟩ := hw
  subst hsz
  have hS : va_S (xAL b ro s.heap.size) s.heap s.heap [] := va_S.rf
  have hrl : ro < s.heap.size := at_lt ho
  refine x_aload_n C dL_callsToRebate_0 rfl ?_
  refine x_iconst (0 : Int32) C dL_callsToRebate_1 rfl ?_
  refine x_aload_n C dL_callsToRebate_2 rfl ?_
  refine x_iload_n C dL_callsToRebate_3 rfl ?_
  refine x_iload_n C dL_callsToRebate_4 rfl ?_
  refine t_goC (fun ls h => t_runV (As := [.int a1, .int a2]) [.int (0 : Int32), .ref ro] h C ml_L_128 (k_X11_callsToRebate l D cA s0 z b ν _ hG a1 a2 r hF) ⟨rfl, rfl, nb rfl, nb rfl⟩ rfl (C_PD hw) rfl ⟨rfl, hw⟩ (nb rfl) ⟨nb rfl, nb rfl⟩ dL_callsToRebate_5) hS (fun _ h => Or.inl h) (fun k hr H1 locs1 q9 ce hw1 hz1 hk1 hS1 hce hcv hcl ls9 hl9 => ?_) (fun q hr H1 locs1 hw1 hz1 hk1 hS1 => ?_)
  · subst hr
    have ho1 : oCell cA D ro oc H1 := ho.kept (hk1 ro hrl (fun zz => zz.elim (fun g => absurd g.2 (by omega)) (fun g => absurd g (by omega))))
    rcases hk k rfl with rfl | rfl
    · refine x_catch (k := 1) (hpc := 13) (pre := []) (x := (0, 10, 13, 32)) (suf := [(0, 10, 17, 19)]) C hG hNc (by decide) htab (fun z hz => nomatch hz) (by decide) (by decide) lk_32 rfl hce hcv hcl hl9 ?_
      refine x_astore [(4, .ref q9), (0, .ref b), (1, .int a1), (2, .int a2), (3, .ref ro)] C dL_callsToRebate_13 (by decide) rfl ?_
      refine x_iconst (1 : Int32) C dL_callsToRebate_15 rfl ?_
      exact x_iretM2 C rfl dL_callsToRebate_16 rfl ⟨hw1, ho1⟩ hS1 (nb rfl) (nb rfl)
    · refine x_catch (k := 2) (hpc := 17) (pre := [(0, 10, 13, 32)]) (x := (0, 10, 17, 19)) (suf := []) C hG hNc (by decide) htab (fun z hz => by
        simp only [List.mem_cons, List.not_mem_nil, or_false] at hz
        rcases hz with rfl
        · exact ⟨by decide, 1, by decide, by decide, lk_32⟩) (by decide) (by decide) lk_19 rfl hce hcv hcl hl9 ?_
      refine x_astore [(4, .ref q9), (0, .ref b), (1, .int a1), (2, .int a2), (3, .ref ro)] C dL_callsToRebate_17 (by decide) rfl ?_
      refine x_iconst (2 : Int32) C dL_callsToRebate_19 rfl ?_
      exact x_iretM2 C rfl dL_callsToRebate_20 rfl ⟨hw1, ho1⟩ hS1 (nb rfl) (nb rfl)
  · subst hr
    have ho1 : oCell cA D ro oc H1 := ho.kept (hk1 ro hrl (fun zz => zz.elim (fun g => absurd g.2 (by omega)) (fun g => absurd g (by omega))))
    refine x_i2l C dL_callsToRebate_8 ?_
    refine x_last0 C ho1 in01 dL_callsToRebate_9 hS1 (Or.inr rfl) (fun H2 locs2 ho2 hn2 hz2 hS2 => ?_)
    have hw2 := hw1.out hro hn2 hz2
    refine x_goto 21 C dL_callsToRebate_10 (by decide) ?_
    refine x_iconst (0 : Int32) C dL_callsToRebate_21 rfl ?_
    exact x_iretM2 C rfl dL_callsToRebate_22 rfl ⟨hw2, ho2⟩ hS2 (nb rfl) (nb rfl)
theorem mw_L_worth : ∀ ix, Cond.methodLink RL ix yL_worth ∈ gW → Cond.methodLink RL ix yL_worth ∈ gW ∧ Cond.static yL_worth ∈ gW ∧ Cond.initialized yL_worth.cls ∈ gW ∧ Cond.codeWith yL_worth cL_worth 4 (some (FieldType.int)) [(0, 9, 12, 32)] ∈ gW ∧ yL_worth.cls ≠ "java/lang/invoke/MethodHandle" ∧ yL_worth.cls ≠ "java/lang/invoke/VarHandle" ∧ (parseMethodDescriptor yL_worth.desc).map (fun d => d.parameters.length) = some 3 := fun _ h => ⟨h, gW_in (gT6 (List.mem_of_getElem? (i := 65) (by decide +kernel))) (by decide +kernel), gW_in (gT1 (List.mem_of_getElem? (i := 0) (by decide +kernel))) (by decide +kernel), gW_in (gT6 (List.mem_of_getElem? (i := 66) (by decide +kernel))) (by decide +kernel), by decide, by decide, by decide +kernel⟩
set_option maxRecDepth 20000 in
set_option maxHeartbeats 4000000 in
theorem k_L_worth (l : Launch) (D : va_G) (cA : Nat → ClassId) (s0 : State) (z : Nat) (b : Nat) (ν : Mm) (sz : Nat) (hG : xG l D cA s0) (hNc : xNc s0) (ro : Nat) (hro : b + 2628 ≤ ro) (hrz : ro < z) (oc : Nat → Int64) (a1 : Int32) (r : Thr Int32) (hF : g_X11_worth ν a1 = some r) (hk : ∀ k, r = .error k → k = 1) : Met l yL_worth (wsH yL_worth cL_worth 4 (some (FieldType.int)) [(0, 9, 12, 32)]) { frames := 10, cells := 1, slots := 6, locals := 197 } (xP D cA s0 [.ref b, .int a1, .ref ro] (fun H => H.size = sz ∧ WC D cA s0 z b ν H ∧ oCell cA D ro oc H)) (xQm (some (.int (thC (fun k => if k = 1 then 1 else 0) r))) (fun H => WC D cA s0 z b (thM (fun _ => ν) ν r) H ∧ oCell cA D ro (thO (fun q => q.toInt64) oc r) H) (xAL b ro sz)) 1 6 (xAL b ro sz) := by
  refine h_start (own := RL) [(0, .ref b), (1, .int a1), (2, .ref ro)] rfl rfl (by decide) (nb rfl) ?_
  intro p e s m args below meth c C htab hw
  obtain ⟨hsz, hw, ho⟩ := hw
  subst hsz
  have hS : va_S (xAL b ro s.heap.size) s.heap s.heap [] := va_S.rf
  have hrl : ro < s.heap.size := at_lt ho
  refine x_aload_n C dL_worth_0 rfl ?_
  refine x_iconst (0 : Int32) C dL_worth_1 rfl ?_
  refine x_aload_n C dL_worth_2 rfl ?_
  refine x_iload_n C dL_worth_3 rfl ?_
  refine t_goC (fun ls h => t_runV (As := [.int a1]) [.int (0 : Int32), .ref ro] h C ml_L_131 (k_X11_worth l D cA s0 z b ν _ hG a1 r hF) ⟨rfl, rfl, nb rfl, nb rfl⟩ rfl (C_PD hw) rfl ⟨rfl, hw⟩ (nb rfl) ⟨nb rfl, nb rfl⟩ dL_worth_4) hS (fun _ h => Or.inl h) (fun k hr H1 locs1 q9 ce hw1 hz1 hk1 hS1 hce hcv hcl ls9 hl9 => ?_) (fun q hr H1 locs1 hw1 hz1 hk1 hS1 => ?_)
  · subst hr
    have ho1 : oCell cA D ro oc H1 := ho.kept (hk1 ro hrl (fun zz => zz.elim (fun g => absurd g.2 (by omega)) (fun g => absurd g (by omega))))
    have hk := hk k rfl
    subst hk
    refine x_catch (k := 1) (hpc := 12) (pre := []) (x := (0, 9, 12, 32)) (suf := []) C hG hNc (by decide) htab (fun z hz => nomatch hz) (by decide) (by decide) lk_32 rfl hce hcv hcl hl9 ?_
    refine x_astore_n [(3, .ref q9), (0, .ref b), (1, .int a1), (2, .ref ro)] C dL_worth_12 rfl (by decide) rfl ?_
    refine x_iconst (1 : Int32) C dL_worth_13 rfl ?_
    exact x_iretM2 C rfl dL_worth_14 rfl ⟨hw1, ho1⟩ hS1 (nb rfl) (nb rfl)
  · subst hr
    have ho1 : oCell cA D ro oc H1 := ho.kept (hk1 ro hrl (fun zz => zz.elim (fun g => absurd g.2 (by omega)) (fun g => absurd g (by omega))))
    refine x_i2l C dL_worth_7 ?_
    refine x_last0 C ho1 in01 dL_worth_8 hS1 (Or.inr rfl) (fun H2 locs2 ho2 hn2 hz2 hS2 => ?_)
    have hw2 := hw1.out hro hn2 hz2
    refine x_goto 15 C dL_worth_9 (by decide) ?_
    refine x_iconst (0 : Int32) C dL_worth_15 rfl ?_
    exact x_iretM2 C rfl dL_worth_16 rfl ⟨hw2, ho2⟩ hS2 (nb rfl) (nb rfl)
theorem mw_L_busiestYear : ∀ ix, Cond.methodLink RL ix yL_busiestYear ∈ gW → Cond.methodLink RL ix yL_busiestYear ∈ gW ∧ Cond.static yL_busiestYear ∈ gW ∧ Cond.initialized yL_busiestYear.cls ∈ gW ∧ Cond.codeWith yL_busiestYear cL_busiestYear 4 (some (FieldType.int)) [(0, 9, 12, 32)] ∈ gW ∧ yL_busiestYear.cls ≠ "java/lang/invoke/MethodHandle" ∧ yL_busiestYear.cls ≠ "java/lang/invoke/VarHandle" ∧ (parseMethodDescriptor yL_busiestYear.desc).map (fun d => d.parameters.length) = some 3 := fun _ h => ⟨h, gW_in (gT6 (List.mem_of_getElem? (i := 72) (by decide +kernel))) (by decide +kernel), gW_in (gT1 (List.mem_of_getElem? (i := 0) (by decide +kernel))) (by decide +kernel), gW_in (gT6 (List.mem_of_getElem? (i := 73) (by decide +kernel))) (by decide +kernel), by decide, by decide, by decide +kernel⟩
set_option maxRecDepth 20000 in
set_option maxHeartbeats 4000000 in
theorem k_L_busiestYear (l : Launch) (D : va_G) (cA : Nat → ClassId) (s0 : State) (z : Nat) (b : Nat) (ν : Mm) (sz : Nat) (hG : xG l D cA s0) (hNc : xNc s0) (ro : Nat) (hro : b + 2628 ≤ ro) (hrz : ro < z) (oc : Nat → Int64) (a1 : Int32) (r : Thr Int32) (hF : g_X11_busiestYear ν a1 = some r) (hk : ∀ k, r = .error k → k = 1) : Met l yL_busiestYear (wsH yL_busiestYear cL_busiestYear 4 (some (FieldType.int)) [(0, 9, 12, 32)]) { frames := 10, cells := 1, slots := 6, locals := 198 } (xP D cA s0 [.ref b, .int a1, .ref ro] (fun H => H.size = sz ∧ WC D cA s0 z b ν H ∧ oCell cA D ro oc H)) (xQm (some (.int (thC (fun k => if k = 1 then 1 else 0) r))) (fun H => WC D cA s0 z b (thM (fun _ => ν) ν r) H ∧ oCell cA D ro (thO (fun q => q.toInt64) oc r) H) (xAL b ro sz)) 1 6 (xAL b ro sz) := by
  refine h_start (own := RL) [(0, .ref b), (1, .int a1), (2, .ref ro)] rfl rfl (by decide) (nb rfl) ?_
  intro p e s m args below meth c C htab hw
  obtain ⟨hsz, hw, ho⟩ := hw
  subst hsz
  have hS : va_S (xAL b ro s.heap.size) s.heap s.heap [] := va_S.rf
  have hrl : ro < s.heap.size := at_lt ho
  refine x_aload_n C dL_busiestYear_0 rfl ?_
  refine x_iconst (0 : Int32) C dL_busiestYear_1 rfl ?_
  refine x_aload_n C dL_busiestYear_2 rfl ?_
  refine x_iload_n C dL_busiestYear_3 rfl ?_
  refine t_goC (fun ls h => t_runV (As := [.int a1]) [.int (0 : Int32), .ref ro] h C ml_L_134 (k_X11_busiestYear l D cA s0 z b ν _ hG a1 r hF) ⟨rfl, rfl, nb rfl, nb rfl⟩ rfl (C_PD hw) rfl ⟨rfl, hw⟩ (nb rfl) ⟨nb rfl, nb rfl⟩ dL_busiestYear_4) hS (fun _ h => Or.inl h) (fun k hr H1 locs1 q9 ce hw1 hz1 hk1 hS1 hce hcv hcl ls9 hl9 => ?_) (fun q hr H1 locs1 hw1 hz1 hk1 hS1 => ?_)
  · subst hr
    have ho1 : oCell cA D ro oc H1 := ho.kept (hk1 ro hrl (fun zz => zz.elim (fun g => absurd g.2 (by omega)) (fun g => absurd g (by omega))))
    have hk := hk k rfl
    subst hk
    refine x_catch (k := 1) (hpc := 12) (pre := []) (x := (0, 9, 12, 32)) (suf := []) C hG hNc (by decide) htab (fun z hz => nomatch hz) (by decide) (by decide) lk_32 rfl hce hcv hcl hl9 ?_
    refine x_astore_n [(3, .ref q9), (0, .ref b), (1, .int a1), (2, .ref ro)] C dL_busiestYear_12 rfl (by decide) rfl ?_
    refine x_iconst (1 : Int32) C dL_busiestYear_13 rfl ?_
    exact x_iretM2 C rfl dL_busiestYear_14 rfl ⟨hw1, ho1⟩ hS1 (nb rfl) (nb rfl)
  · subst hr
    have ho1 : oCell cA D ro oc H1 := ho.kept (hk1 ro hrl (fun zz => zz.elim (fun g => absurd g.2 (by omega)) (fun g => absurd g (by omega))))
    refine x_i2l C dL_busiestYear_7 ?_
    refine x_last0 C ho1 in01 dL_busiestYear_8 hS1 (Or.inr rfl) (fun H2 locs2 ho2 hn2 hz2 hS2 => ?_)
    have hw2 := hw1.out hro hn2 hz2
    refine x_goto 15 C dL_busiestYear_9 (by decide) ?_
    refine x_iconst (0 : Int32) C dL_busiestYear_15 rfl ?_
    exact x_iretM2 C rfl dL_busiestYear_16 rfl ⟨hw2, ho2⟩ hS2 (nb rfl) (nb rfl)
theorem mw_L_addCall : ∀ ix, Cond.methodLink RL ix yL_addCall ∈ gW → Cond.methodLink RL ix yL_addCall ∈ gW ∧ Cond.static yL_addCall ∈ gW ∧ Cond.initialized yL_addCall.cls ∈ gW ∧ Cond.codeWith yL_addCall cL_addCall 7 (some (FieldType.int)) [(0, 14, 17, 32), (0, 14, 21, 19), (0, 14, 25, 13)] ∈ gW ∧ yL_addCall.cls ≠ "java/lang/invoke/MethodHandle" ∧ yL_addCall.cls ≠ "java/lang/invoke/VarHandle" ∧ (parseMethodDescriptor yL_addCall.desc).map (fun d => d.parameters.length) = some 6 := fun _ h => ⟨h, gW_in (gT6 (List.mem_of_getElem? (i := 79) (by decide +kernel))) (by decide +kernel), gW_in (gT1 (List.mem_of_getElem? (i := 0) (by decide +kernel))) (by decide +kernel), gW_in (gT6 (List.mem_of_getElem? (i := 80) (by decide +kernel))) (by decide +kernel), by decide, by decide, by decide +kernel⟩
set_option maxRecDepth 20000 in
set_option maxHeartbeats 4000000 in
theorem k_L_addCall (l : Launch) (D : va_G) (cA : Nat → ClassId) (s0 : State) (z : Nat) (b : Nat) (ν : Mm) (sz : Nat) (hG : xG l D cA s0) (hNc : xNc s0) (ro : Nat) (hro : b + 2628 ≤ ro) (hrz : ro < z) (oc : Nat → Int64) (a1 : Int32) (a2 : Int32) (a3 : Int32) (a4 : Int32) (r : Thr (Int32 × Mm)) (hF : g_X11_addCall ν a1 a2 a3 a4 = some r) (hk : ∀ k, r = .error k → k = 1 ∨ k = 2 ∨ k = 3) : Met l yL_addCall (wsH yL_addCall cL_addCall 7 (some (FieldType.int)) [(0, 14, 17, 32), (0, 14, 21, 19), (0, 14, 25, 13)]) { frames := 11, cells := 5, slots := 30, locals := 221 } (xP D cA s0 [.ref b, .int a1, .int a2, .int a3, .int a4, .ref ro] (fun H => H.size = sz ∧ WC D cA s0 z b ν H ∧ oCell cA D ro oc H)) (xQm (some (.int (thC (fun k => if k = 1 then 1 else if k = 2 then 2 else if k = 3 then 3 else 0) r))) (fun H => WC D cA s0 z b (thM (fun q => q.2) ν r) H ∧ oCell cA D ro (thO (fun q => q.1.toInt64) oc r) H) (xAL b ro sz)) 5 30 (xAL b ro sz) := by
  refine h_start (own := RL) [(0, .ref b), (1, .int a1), (2, .int a2), (3, .int a3), (4, .int a4), (5, .ref ro)] rfl rfl (by decide) (nb rfl) ?_
  intro p e s m args below meth c C htab hw
  obtain ⟨hsz, hw, ho⟩ := hw
  subst hsz
  have hS : va_S (xAL b ro s.heap.size) s.heap s.heap [] := va_S.rf
  have hrl : ro < s.heap.size := at_lt ho
  refine x_aload C dL_addCall_0 rfl ?_
  refine x_iconst (0 : Int32) C dL_addCall_2 rfl ?_
  refine x_aload_n C dL_addCall_3 rfl ?_
  refine x_iload_n C dL_addCall_4 rfl ?_
  refine x_iload_n C dL_addCall_5 rfl ?_
  refine x_iload_n C dL_addCall_6 rfl ?_
  refine x_iload C dL_addCall_7 rfl ?_
  refine t_goC (fun ls h => t_runV (As := [.int a1, .int a2, .int a3, .int a4]) [.int (0 : Int32), .ref ro] h C ml_L_137 (k_X11_addCall l D cA s0 z b ν _ hG a1 a2 a3 a4 r hF) ⟨rfl, rfl, nb rfl, nb rfl⟩ rfl (C_PD hw) rfl ⟨rfl, hw⟩ (nb rfl) ⟨nb rfl, nb rfl⟩ dL_addCall_9) hS (fun _ h => Or.inl h) (fun k hr H1 locs1 q9 ce hw1 hz1 hk1 hS1 hce hcv hcl ls9 hl9 => ?_) (fun q hr H1 locs1 hw1 hz1 hk1 hS1 => ?_)
  · subst hr
    have ho1 : oCell cA D ro oc H1 := ho.kept (hk1 ro hrl (fun zz => zz.elim (fun g => absurd g.2 (by omega)) (fun g => absurd g (by omega))))
    rcases hk k rfl with rfl | rfl | rfl
    · refine x_catch (k := 1) (hpc := 17) (pre := []) (x := (0, 14, 17, 32)) (suf := [(0, 14, 21, 19), (0, 14, 25, 13)]) C hG hNc (by decide) htab (fun z hz => nomatch hz) (by decide) (by decide) lk_32 rfl hce hcv hcl hl9 ?_
      refine x_astore [(6, .ref q9), (0, .ref b), (1, .int a1), (2, .int a2), (3, .int a3), (4, .int a4), (5, .ref ro)] C dL_addCall_17 (by decide) rfl ?_
      refine x_iconst (1 : Int32) C dL_addCall_19 rfl ?_
      exact x_iretM2 C rfl dL_addCall_20 rfl ⟨hw1, ho1⟩ hS1 (nb rfl) (nb rfl)
    · refine x_catch (k := 2) (hpc := 21) (pre := [(0, 14, 17, 32)]) (x := (0, 14, 21, 19)) (suf := [(0, 14, 25, 13)]) C hG hNc (by decide) htab (fun z hz => by
        simp only [List.mem_cons, List.not_mem_nil, or_false] at hz
        rcases hz with rfl
        · exact ⟨by decide, 1, by decide, by decide, lk_32⟩) (by decide) (by decide) lk_19 rfl hce hcv hcl hl9 ?_
      refine x_astore [(6, .ref q9), (0, .ref b), (1, .int a1), (2, .int a2), (3, .int a3), (4, .int a4), (5, .ref ro)] C dL_addCall_21 (by decide) rfl ?_
      refine x_iconst (2 : Int32) C dL_addCall_23 rfl ?_
      exact x_iretM2 C rfl dL_addCall_24 rfl ⟨hw1, ho1⟩ hS1 (nb rfl) (nb rfl)
    · refine x_catch (k := 3) (hpc := 25) (pre := [(0, 14, 17, 32), (0, 14, 21, 19)]) (x := (0, 14, 25, 13)) (suf := []) C hG hNc (by decide) htab (fun z hz => by
        simp only [List.mem_cons, List.not_mem_nil, or_false] at hz
        rcases hz with rfl | rfl
        · exact ⟨by decide, 1, by decide, by decide, lk_32⟩
        · exact ⟨by decide, 2, by decide, by decide, lk_19⟩) (by decide) (by decide) lk_13 rfl hce hcv hcl hl9 ?_
      refine x_astore [(6, .ref q9), (0, .ref b), (1, .int a1), (2, .int a2), (3, .int a3), (4, .int a4), (5, .ref ro)] C dL_addCall_25 (by decide) rfl ?_
      refine x_iconst (3 : Int32) C dL_addCall_27 rfl ?_
      exact x_iretM2 C rfl dL_addCall_28 rfl ⟨hw1, ho1⟩ hS1 (nb rfl) (nb rfl)
  · subst hr
    have ho1 : oCell cA D ro oc H1 := ho.kept (hk1 ro hrl (fun zz => zz.elim (fun g => absurd g.2 (by omega)) (fun g => absurd g (by omega))))
    refine x_i2l C dL_addCall_12 ?_
    refine x_last0 C ho1 in01 dL_addCall_13 hS1 (Or.inr rfl) (fun H2 locs2 ho2 hn2 hz2 hS2 => ?_)
    have hw2 := hw1.out hro hn2 hz2
    refine x_goto 29 C dL_addCall_14 (by decide) ?_
    refine x_iconst (0 : Int32) C dL_addCall_29 rfl ?_
    exact x_iretM2 C rfl dL_addCall_30 rfl ⟨hw2, ho2⟩ hS2 (nb rfl) (nb rfl)
theorem mw_L_cancel : ∀ ix, Cond.methodLink RL ix yL_cancel ∈ gW → Cond.methodLink RL ix yL_cancel ∈ gW ∧ Cond.static yL_cancel ∈ gW ∧ Cond.initialized yL_cancel.cls ∈ gW ∧ Cond.codeWith yL_cancel cL_cancel 4 (some (FieldType.int)) [(0, 9, 12, 32), (0, 9, 15, 13)] ∈ gW ∧ yL_cancel.cls ≠ "java/lang/invoke/MethodHandle" ∧ yL_cancel.cls ≠ "java/lang/invoke/VarHandle" ∧ (parseMethodDescriptor yL_cancel.desc).map (fun d => d.parameters.length) = some 3 := fun _ h => ⟨h, gW_in (gT6 (List.mem_of_getElem? (i := 87) (by decide +kernel))) (by decide +kernel), gW_in (gT1 (List.mem_of_getElem? (i := 0) (by decide +kernel))) (by decide +kernel), gW_in (gT6 (List.mem_of_getElem? (i := 88) (by decide +kernel))) (by decide +kernel), by decide, by decide, by decide +kernel⟩
set_option maxRecDepth 20000 in
set_option maxHeartbeats 4000000 in
theorem k_L_cancel (l : Launch) (D : va_G) (cA : Nat → ClassId) (s0 : State) (z : Nat) (b : Nat) (ν : Mm) (sz : Nat) (hG : xG l D cA s0) (hNc : xNc s0) (ro : Nat) (hro : b + 2628 ≤ ro) (hrz : ro < z) (oc : Nat → Int64) (a1 : Int32) (r : Thr (Int32 × Mm)) (hF : g_X11_cancel ν a1 = some r) (hk : ∀ k, r = .error k → k = 1 ∨ k = 3) : Met l yL_cancel (wsH yL_cancel cL_cancel 4 (some (FieldType.int)) [(0, 9, 12, 32), (0, 9, 15, 13)]) { frames := 10, cells := 2, slots := 12, locals := 197 } (xP D cA s0 [.ref b, .int a1, .ref ro] (fun H => H.size = sz ∧ WC D cA s0 z b ν H ∧ oCell cA D ro oc H)) (xQm (some (.int (thC (fun k => if k = 1 then 1 else if k = 3 then 2 else 0) r))) (fun H => WC D cA s0 z b (thM (fun q => q.2) ν r) H ∧ oCell cA D ro (thO (fun q => q.1.toInt64) oc r) H) (xAL b ro sz)) 2 12 (xAL b ro sz) := by
  refine h_start (own := RL) [(0, .ref b), (1, .int a1), (2, .ref ro)] rfl rfl (by decide) (nb rfl) ?_
  intro p e s m args below meth c C htab hw
  obtain ⟨hsz, hw, ho⟩ := hw
  subst hsz
  have hS : va_S (xAL b ro s.heap.size) s.heap s.heap [] := va_S.rf
  have hrl : ro < s.heap.size := at_lt ho
  refine x_aload_n C dL_cancel_0 rfl ?_
  refine x_iconst (0 : Int32) C dL_cancel_1 rfl ?_
  refine x_aload_n C dL_cancel_2 rfl ?_
  refine x_iload_n C dL_cancel_3 rfl ?_
  refine t_goC (fun ls h => t_runV (As := [.int a1]) [.int (0 : Int32), .ref ro] h C ml_L_140 (k_X11_cancel l D cA s0 z b ν _ hG a1 r hF) ⟨rfl, rfl, nb rfl, nb rfl⟩ rfl (C_PD hw) rfl ⟨rfl, hw⟩ (nb rfl) ⟨nb rfl, nb rfl⟩ dL_cancel_4) hS (fun _ h => Or.inl h) (fun k hr H1 locs1 q9 ce hw1 hz1 hk1 hS1 hce hcv hcl ls9 hl9 => ?_) (fun q hr H1 locs1 hw1 hz1 hk1 hS1 => ?_)
  · subst hr
    have ho1 : oCell cA D ro oc H1 := ho.kept (hk1 ro hrl (fun zz => zz.elim (fun g => absurd g.2 (by omega)) (fun g => absurd g (by omega))))
    rcases hk k rfl with rfl | rfl
    · refine x_catch (k := 1) (hpc := 12) (pre := []) (x := (0, 9, 12, 32)) (suf := [(0, 9, 15, 13)]) C hG hNc (by decide) htab (fun z hz => nomatch hz) (by decide) (by decide) lk_32 rfl hce hcv hcl hl9 ?_
      refine x_astore_n [(3, .ref q9), (0, .ref b), (1, .int a1), (2, .ref ro)] C dL_cancel_12 rfl (by decide) rfl ?_
      refine x_iconst (1 : Int32) C dL_cancel_13 rfl ?_
      exact x_iretM2 C rfl dL_cancel_14 rfl ⟨hw1, ho1⟩ hS1 (nb rfl) (nb rfl)
    · refine x_catch (k := 3) (hpc := 15) (pre := [(0, 9, 12, 32)]) (x := (0, 9, 15, 13)) (suf := []) C hG hNc (by decide) htab (fun z hz => by
        simp only [List.mem_cons, List.not_mem_nil, or_false] at hz
        rcases hz with rfl
        · exact ⟨by decide, 1, by decide, by decide, lk_32⟩) (by decide) (by decide) lk_13 rfl hce hcv hcl hl9 ?_
      refine x_astore_n [(3, .ref q9), (0, .ref b), (1, .int a1), (2, .ref ro)] C dL_cancel_15 rfl (by decide) rfl ?_
      refine x_iconst (2 : Int32) C dL_cancel_16 rfl ?_
      exact x_iretM2 C rfl dL_cancel_17 rfl ⟨hw1, ho1⟩ hS1 (nb rfl) (nb rfl)
  · subst hr
    have ho1 : oCell cA D ro oc H1 := ho.kept (hk1 ro hrl (fun zz => zz.elim (fun g => absurd g.2 (by omega)) (fun g => absurd g (by omega))))
    refine x_i2l C dL_cancel_7 ?_
    refine x_last0 C ho1 in01 dL_cancel_8 hS1 (Or.inr rfl) (fun H2 locs2 ho2 hn2 hz2 hS2 => ?_)
    have hw2 := hw1.out hro hn2 hz2
    refine x_goto 18 C dL_cancel_9 (by decide) ?_
    refine x_iconst (0 : Int32) C dL_cancel_18 rfl ?_
    exact x_iretM2 C rfl dL_cancel_19 rfl ⟨hw2, ho2⟩ hS2 (nb rfl) (nb rfl)
theorem mw_L_setWaste : ∀ ix, Cond.methodLink RL ix yL_setWaste ∈ gW → Cond.methodLink RL ix yL_setWaste ∈ gW ∧ Cond.static yL_setWaste ∈ gW ∧ Cond.initialized yL_setWaste.cls ∈ gW ∧ Cond.codeWith yL_setWaste cL_setWaste 5 (some (FieldType.int)) [(0, 10, 13, 32), (0, 10, 17, 19)] ∈ gW ∧ yL_setWaste.cls ≠ "java/lang/invoke/MethodHandle" ∧ yL_setWaste.cls ≠ "java/lang/invoke/VarHandle" ∧ (parseMethodDescriptor yL_setWaste.desc).map (fun d => d.parameters.length) = some 4 := fun _ h => ⟨h, gW_in (gT6 (List.mem_of_getElem? (i := 98) (by decide +kernel))) (by decide +kernel), gW_in (gT1 (List.mem_of_getElem? (i := 0) (by decide +kernel))) (by decide +kernel), gW_in (gT6 (List.mem_of_getElem? (i := 99) (by decide +kernel))) (by decide +kernel), by decide, by decide, by decide +kernel⟩
set_option maxRecDepth 20000 in
set_option maxHeartbeats 4000000 in
theorem k_L_setWaste (l : Launch) (D : va_G) (cA : Nat → ClassId) (s0 : State) (z : Nat) (b : Nat) (ν : Mm) (sz : Nat) (hG : xG l D cA s0) (hNc : xNc s0) (ro : Nat) (hro : b + 2628 ≤ ro) (hrz : ro < z) (oc : Nat → Int64) (a1 : Int32) (a2 : Int32) (r : Thr (Int32 × Mm)) (hF : g_X11_setWaste ν a1 a2 = some r) (hk : ∀ k, r = .error k → k = 1 ∨ k = 2) : Met l yL_setWaste (wsH yL_setWaste cL_setWaste 5 (some (FieldType.int)) [(0, 10, 13, 32), (0, 10, 17, 19)]) { frames := 10, cells := 2, slots := 12, locals := 199 } (xP D cA s0 [.ref b, .int a1, .int a2, .ref ro] (fun H => H.size = sz ∧ WC D cA s0 z b ν H ∧ oCell cA D ro oc H)) (xQm (some (.int (thC (fun k => if k = 1 then 1 else if k = 2 then 2 else 0) r))) (fun H => WC D cA s0 z b (thM (fun q => q.2) ν r) H ∧ oCell cA D ro (thO (fun q => q.1.toInt64) oc r) H) (xAL b ro sz)) 2 12 (xAL b ro sz) := by
  refine h_start (own := RL) [(0, .ref b), (1, .int a1), (2, .int a2), (3, .ref ro)] rfl rfl (by decide) (nb rfl) ?_
  intro p e s m args below meth c C htab hw
  obtain ⟨hsz, hw, ho⟩ := hw
  subst hsz
  have hS : va_S (xAL b ro s.heap.size) s.heap s.heap [] := va_S.rf
  have hrl : ro < s.heap.size := at_lt ho
  refine x_aload_n C dL_setWaste_0 rfl ?_
  refine x_iconst (0 : Int32) C dL_setWaste_1 rfl ?_
  refine x_aload_n C dL_setWaste_2 rfl ?_
  refine x_iload_n C dL_setWaste_3 rfl ?_
  refine x_iload_n C dL_setWaste_4 rfl ?_
  refine t_goC (fun ls h => t_runV (As := [.int a1, .int a2]) [.int (0 : Int32), .ref ro] h C ml_L_143 (k_X11_setWaste l D cA s0 z b ν _ hG a1 a2 r hF) ⟨rfl, rfl, nb rfl, nb rfl⟩ rfl (C_PD hw) rfl ⟨rfl, hw⟩ (nb rfl) ⟨nb rfl, nb rfl⟩ dL_setWaste_5) hS (fun _ h => Or.inl h) (fun k hr H1 locs1 q9 ce hw1 hz1 hk1 hS1 hce hcv hcl ls9 hl9 => ?_) (fun q hr H1 locs1 hw1 hz1 hk1 hS1 => ?_)
  · subst hr
    have ho1 : oCell cA D ro oc H1 := ho.kept (hk1 ro hrl (fun zz => zz.elim (fun g => absurd g.2 (by omega)) (fun g => absurd g (by omega))))
    rcases hk k rfl with rfl | rfl
    · refine x_catch (k := 1) (hpc := 13) (pre := []) (x := (0, 10, 13, 32)) (suf := [(0, 10, 17, 19)]) C hG hNc (by decide) htab (fun z hz => nomatch hz) (by decide) (by decide) lk_32 rfl hce hcv hcl hl9 ?_
      refine x_astore [(4, .ref q9), (0, .ref b), (1, .int a1), (2, .int a2), (3, .ref ro)] C dL_setWaste_13 (by decide) rfl ?_
      refine x_iconst (1 : Int32) C dL_setWaste_15 rfl ?_
      exact x_iretM2 C rfl dL_setWaste_16 rfl ⟨hw1, ho1⟩ hS1 (nb rfl) (nb rfl)
    · refine x_catch (k := 2) (hpc := 17) (pre := [(0, 10, 13, 32)]) (x := (0, 10, 17, 19)) (suf := []) C hG hNc (by decide) htab (fun z hz => by
        simp only [List.mem_cons, List.not_mem_nil, or_false] at hz
        rcases hz with rfl
        · exact ⟨by decide, 1, by decide, by decide, lk_32⟩) (by decide) (by decide) lk_19 rfl hce hcv hcl hl9 ?_
      refine x_astore [(4, .ref q9), (0, .ref b), (1, .int a1), (2, .int a2), (3, .ref ro)] C dL_setWaste_17 (by decide) rfl ?_
      refine x_iconst (2 : Int32) C dL_setWaste_19 rfl ?_
      exact x_iretM2 C rfl dL_setWaste_20 rfl ⟨hw1, ho1⟩ hS1 (nb rfl) (nb rfl)
  · subst hr
    have ho1 : oCell cA D ro oc H1 := ho.kept (hk1 ro hrl (fun zz => zz.elim (fun g => absurd g.2 (by omega)) (fun g => absurd g (by omega))))
    refine x_i2l C dL_setWaste_8 ?_
    refine x_last0 C ho1 in01 dL_setWaste_9 hS1 (Or.inr rfl) (fun H2 locs2 ho2 hn2 hz2 hS2 => ?_)
    have hw2 := hw1.out hro hn2 hz2
    refine x_goto 21 C dL_setWaste_10 (by decide) ?_
    refine x_iconst (0 : Int32) C dL_setWaste_21 rfl ?_
    exact x_iretM2 C rfl dL_setWaste_22 rfl ⟨hw2, ho2⟩ hS2 (nb rfl) (nb rfl)
theorem mw_L_setTons : ∀ ix, Cond.methodLink RL ix yL_setTons ∈ gW → Cond.methodLink RL ix yL_setTons ∈ gW ∧ Cond.static yL_setTons ∈ gW ∧ Cond.initialized yL_setTons.cls ∈ gW ∧ Cond.codeWith yL_setTons cL_setTons 5 (some (FieldType.int)) [(0, 10, 13, 32), (0, 10, 17, 19)] ∈ gW ∧ yL_setTons.cls ≠ "java/lang/invoke/MethodHandle" ∧ yL_setTons.cls ≠ "java/lang/invoke/VarHandle" ∧ (parseMethodDescriptor yL_setTons.desc).map (fun d => d.parameters.length) = some 4 := fun _ h => ⟨h, gW_in (gT6 (List.mem_of_getElem? (i := 105) (by decide +kernel))) (by decide +kernel), gW_in (gT1 (List.mem_of_getElem? (i := 0) (by decide +kernel))) (by decide +kernel), gW_in (gT6 (List.mem_of_getElem? (i := 106) (by decide +kernel))) (by decide +kernel), by decide, by decide, by decide +kernel⟩
set_option maxRecDepth 20000 in
set_option maxHeartbeats 4000000 in
theorem k_L_setTons (l : Launch) (D : va_G) (cA : Nat → ClassId) (s0 : State) (z : Nat) (b : Nat) (ν : Mm) (sz : Nat) (hG : xG l D cA s0) (hNc : xNc s0) (ro : Nat) (hro : b + 2628 ≤ ro) (hrz : ro < z) (oc : Nat → Int64) (a1 : Int32) (a2 : Int32) (r : Thr (Int32 × Mm)) (hF : g_X11_setTons ν a1 a2 = some r) (hk : ∀ k, r = .error k → k = 1 ∨ k = 2) : Met l yL_setTons (wsH yL_setTons cL_setTons 5 (some (FieldType.int)) [(0, 10, 13, 32), (0, 10, 17, 19)]) { frames := 10, cells := 2, slots := 12, locals := 199 } (xP D cA s0 [.ref b, .int a1, .int a2, .ref ro] (fun H => H.size = sz ∧ WC D cA s0 z b ν H ∧ oCell cA D ro oc H)) (xQm (some (.int (thC (fun k => if k = 1 then 1 else if k = 2 then 2 else 0) r))) (fun H => WC D cA s0 z b (thM (fun q => q.2) ν r) H ∧ oCell cA D ro (thO (fun q => q.1.toInt64) oc r) H) (xAL b ro sz)) 2 12 (xAL b ro sz) := by
  refine h_start (own := RL) [(0, .ref b), (1, .int a1), (2, .int a2), (3, .ref ro)] rfl rfl (by decide) (nb rfl) ?_
  intro p e s m args below meth c C htab hw
  obtain ⟨hsz, hw, ho⟩ := hw
  subst hsz
  have hS : va_S (xAL b ro s.heap.size) s.heap s.heap [] := va_S.rf
  have hrl : ro < s.heap.size := at_lt ho
  refine x_aload_n C dL_setTons_0 rfl ?_
  refine x_iconst (0 : Int32) C dL_setTons_1 rfl ?_
  refine x_aload_n C dL_setTons_2 rfl ?_
  refine x_iload_n C dL_setTons_3 rfl ?_
  refine x_iload_n C dL_setTons_4 rfl ?_
  refine t_goC (fun ls h => t_runV (As := [.int a1, .int a2]) [.int (0 : Int32), .ref ro] h C ml_L_146 (k_X11_setTons l D cA s0 z b ν _ hG a1 a2 r hF) ⟨rfl, rfl, nb rfl, nb rfl⟩ rfl (C_PD hw) rfl ⟨rfl, hw⟩ (nb rfl) ⟨nb rfl, nb rfl⟩ dL_setTons_5) hS (fun _ h => Or.inl h) (fun k hr H1 locs1 q9 ce hw1 hz1 hk1 hS1 hce hcv hcl ls9 hl9 => ?_) (fun q hr H1 locs1 hw1 hz1 hk1 hS1 => ?_)
  · subst hr
    have ho1 : oCell cA D ro oc H1 := ho.kept (hk1 ro hrl (fun zz => zz.elim (fun g => absurd g.2 (by omega)) (fun g => absurd g (by omega))))
    rcases hk k rfl with rfl | rfl
    · refine x_catch (k := 1) (hpc := 13) (pre := []) (x := (0, 10, 13, 32)) (suf := [(0, 10, 17, 19)]) C hG hNc (by decide) htab (fun z hz => nomatch hz) (by decide) (by decide) lk_32 rfl hce hcv hcl hl9 ?_
      refine x_astore [(4, .ref q9), (0, .ref b), (1, .int a1), (2, .int a2), (3, .ref ro)] C dL_setTons_13 (by decide) rfl ?_
      refine x_iconst (1 : Int32) C dL_setTons_15 rfl ?_
      exact x_iretM2 C rfl dL_setTons_16 rfl ⟨hw1, ho1⟩ hS1 (nb rfl) (nb rfl)
    · refine x_catch (k := 2) (hpc := 17) (pre := [(0, 10, 13, 32)]) (x := (0, 10, 17, 19)) (suf := []) C hG hNc (by decide) htab (fun z hz => by
        simp only [List.mem_cons, List.not_mem_nil, or_false] at hz
        rcases hz with rfl
        · exact ⟨by decide, 1, by decide, by decide, lk_32⟩) (by decide) (by decide) lk_19 rfl hce hcv hcl hl9 ?_
      refine x_astore [(4, .ref q9), (0, .ref b), (1, .int a1), (2, .int a2), (3, .ref ro)] C dL_setTons_17 (by decide) rfl ?_
      refine x_iconst (2 : Int32) C dL_setTons_19 rfl ?_
      exact x_iretM2 C rfl dL_setTons_20 rfl ⟨hw1, ho1⟩ hS1 (nb rfl) (nb rfl)
  · subst hr
    have ho1 : oCell cA D ro oc H1 := ho.kept (hk1 ro hrl (fun zz => zz.elim (fun g => absurd g.2 (by omega)) (fun g => absurd g (by omega))))
    refine x_i2l C dL_setTons_8 ?_
    refine x_last0 C ho1 in01 dL_setTons_9 hS1 (Or.inr rfl) (fun H2 locs2 ho2 hn2 hz2 hS2 => ?_)
    have hw2 := hw1.out hro hn2 hz2
    refine x_goto 21 C dL_setTons_10 (by decide) ?_
    refine x_iconst (0 : Int32) C dL_setTons_21 rfl ?_
    exact x_iretM2 C rfl dL_setTons_22 rfl ⟨hw2, ho2⟩ hS2 (nb rfl) (nb rfl)
theorem mw_L_bill : ∀ ix, Cond.methodLink RL ix yL_bill ∈ gW → Cond.methodLink RL ix yL_bill ∈ gW ∧ Cond.static yL_bill ∈ gW ∧ Cond.initialized yL_bill.cls ∈ gW ∧ Cond.codeWith yL_bill cL_bill 4 (some (FieldType.int)) [(0, 9, 12, 32), (0, 9, 15, 13)] ∈ gW ∧ yL_bill.cls ≠ "java/lang/invoke/MethodHandle" ∧ yL_bill.cls ≠ "java/lang/invoke/VarHandle" ∧ (parseMethodDescriptor yL_bill.desc).map (fun d => d.parameters.length) = some 3 := fun _ h => ⟨h, gW_in (gT6 (List.mem_of_getElem? (i := 112) (by decide +kernel))) (by decide +kernel), gW_in (gT1 (List.mem_of_getElem? (i := 0) (by decide +kernel))) (by decide +kernel), gW_in (gT6 (List.mem_of_getElem? (i := 113) (by decide +kernel))) (by decide +kernel), by decide, by decide, by decide +kernel⟩
set_option maxRecDepth 20000 in
set_option maxHeartbeats 4000000 in
theorem k_L_bill (l : Launch) (D : va_G) (cA : Nat → ClassId) (s0 : State) (z : Nat) (b : Nat) (ν : Mm) (sz : Nat) (hG : xG l D cA s0) (hNc : xNc s0) (ro : Nat) (hro : b + 2628 ≤ ro) (hrz : ro < z) (oc : Nat → Int64) (a1 : Int32) (r : Thr (Int32 × Mm)) (hF : g_X11_bill ν a1 = some r) (hk : ∀ k, r = .error k → k = 1 ∨ k = 3) : Met l yL_bill (wsH yL_bill cL_bill 4 (some (FieldType.int)) [(0, 9, 12, 32), (0, 9, 15, 13)]) { frames := 10, cells := 2, slots := 12, locals := 196 } (xP D cA s0 [.ref b, .int a1, .ref ro] (fun H => H.size = sz ∧ WC D cA s0 z b ν H ∧ oCell cA D ro oc H)) (xQm (some (.int (thC (fun k => if k = 1 then 1 else if k = 3 then 2 else 0) r))) (fun H => WC D cA s0 z b (thM (fun q => q.2) ν r) H ∧ oCell cA D ro (thO (fun q => q.1.toInt64) oc r) H) (xAL b ro sz)) 2 12 (xAL b ro sz) := by
  refine h_start (own := RL) [(0, .ref b), (1, .int a1), (2, .ref ro)] rfl rfl (by decide) (nb rfl) ?_
  intro p e s m args below meth c C htab hw
  obtain ⟨hsz, hw, ho⟩ := hw
  subst hsz
  have hS : va_S (xAL b ro s.heap.size) s.heap s.heap [] := va_S.rf
  have hrl : ro < s.heap.size := at_lt ho
  refine x_aload_n C dL_bill_0 rfl ?_
  refine x_iconst (0 : Int32) C dL_bill_1 rfl ?_
  refine x_aload_n C dL_bill_2 rfl ?_
  refine x_iload_n C dL_bill_3 rfl ?_
  refine t_goC (fun ls h => t_runV (As := [.int a1]) [.int (0 : Int32), .ref ro] h C ml_L_149 (k_X11_bill l D cA s0 z b ν _ hG a1 r hF) ⟨rfl, rfl, nb rfl, nb rfl⟩ rfl (C_PD hw) rfl ⟨rfl, hw⟩ (nb rfl) ⟨nb rfl, nb rfl⟩ dL_bill_4) hS (fun _ h => Or.inl h) (fun k hr H1 locs1 q9 ce hw1 hz1 hk1 hS1 hce hcv hcl ls9 hl9 => ?_) (fun q hr H1 locs1 hw1 hz1 hk1 hS1 => ?_)
  · subst hr
    have ho1 : oCell cA D ro oc H1 := ho.kept (hk1 ro hrl (fun zz => zz.elim (fun g => absurd g.2 (by omega)) (fun g => absurd g (by omega))))
    rcases hk k rfl with rfl | rfl
    · refine x_catch (k := 1) (hpc := 12) (pre := []) (x := (0, 9, 12, 32)) (suf := [(0, 9, 15, 13)]) C hG hNc (by decide) htab (fun z hz => nomatch hz) (by decide) (by decide) lk_32 rfl hce hcv hcl hl9 ?_
      refine x_astore_n [(3, .ref q9), (0, .ref b), (1, .int a1), (2, .ref ro)] C dL_bill_12 rfl (by decide) rfl ?_
      refine x_iconst (1 : Int32) C dL_bill_13 rfl ?_
      exact x_iretM2 C rfl dL_bill_14 rfl ⟨hw1, ho1⟩ hS1 (nb rfl) (nb rfl)
    · refine x_catch (k := 3) (hpc := 15) (pre := [(0, 9, 12, 32)]) (x := (0, 9, 15, 13)) (suf := []) C hG hNc (by decide) htab (fun z hz => by
        simp only [List.mem_cons, List.not_mem_nil, or_false] at hz
        rcases hz with rfl
        · exact ⟨by decide, 1, by decide, by decide, lk_32⟩) (by decide) (by decide) lk_13 rfl hce hcv hcl hl9 ?_
      refine x_astore_n [(3, .ref q9), (0, .ref b), (1, .int a1), (2, .ref ro)] C dL_bill_15 rfl (by decide) rfl ?_
      refine x_iconst (2 : Int32) C dL_bill_16 rfl ?_
      exact x_iretM2 C rfl dL_bill_17 rfl ⟨hw1, ho1⟩ hS1 (nb rfl) (nb rfl)
  · subst hr
    have ho1 : oCell cA D ro oc H1 := ho.kept (hk1 ro hrl (fun zz => zz.elim (fun g => absurd g.2 (by omega)) (fun g => absurd g (by omega))))
    refine x_i2l C dL_bill_7 ?_
    refine x_last0 C ho1 in01 dL_bill_8 hS1 (Or.inr rfl) (fun H2 locs2 ho2 hn2 hz2 hS2 => ?_)
    have hw2 := hw1.out hro hn2 hz2
    refine x_goto 18 C dL_bill_9 (by decide) ?_
    refine x_iconst (0 : Int32) C dL_bill_18 rfl ?_
    exact x_iretM2 C rfl dL_bill_19 rfl ⟨hw2, ho2⟩ hS2 (nb rfl) (nb rfl)
theorem mw_L_billAll : ∀ ix, Cond.methodLink RL ix yL_billAll ∈ gW → Cond.methodLink RL ix yL_billAll ∈ gW ∧ Cond.static yL_billAll ∈ gW ∧ Cond.initialized yL_billAll.cls ∈ gW ∧ Cond.codeWith yL_billAll cL_billAll 4 (some (FieldType.int)) [(0, 9, 12, 32)] ∈ gW ∧ yL_billAll.cls ≠ "java/lang/invoke/MethodHandle" ∧ yL_billAll.cls ≠ "java/lang/invoke/VarHandle" ∧ (parseMethodDescriptor yL_billAll.desc).map (fun d => d.parameters.length) = some 3 := fun _ h => ⟨h, gW_in (gT6 (List.mem_of_getElem? (i := 129) (by decide +kernel))) (by decide +kernel), gW_in (gT1 (List.mem_of_getElem? (i := 0) (by decide +kernel))) (by decide +kernel), gW_in (gT6 (List.mem_of_getElem? (i := 130) (by decide +kernel))) (by decide +kernel), by decide, by decide, by decide +kernel⟩
set_option maxRecDepth 20000 in
set_option maxHeartbeats 4000000 in
theorem k_L_billAll (l : Launch) (D : va_G) (cA : Nat → ClassId) (s0 : State) (z : Nat) (b : Nat) (ν : Mm) (sz : Nat) (hG : xG l D cA s0) (hNc : xNc s0) (ro : Nat) (hro : b + 2628 ≤ ro) (hrz : ro < z) (oc : Nat → Int64) (a1 : Int32) (r : Thr (Int32 × Mm)) (hF : g_X11_billAll ν a1 = some r) (hk : ∀ k, r = .error k → k = 1) : Met l yL_billAll (wsH yL_billAll cL_billAll 4 (some (FieldType.int)) [(0, 9, 12, 32)]) { frames := 10, cells := 1, slots := 6, locals := 198 } (xP D cA s0 [.ref b, .int a1, .ref ro] (fun H => H.size = sz ∧ WC D cA s0 z b ν H ∧ oCell cA D ro oc H)) (xQm (some (.int (thC (fun k => if k = 1 then 1 else 0) r))) (fun H => WC D cA s0 z b (thM (fun q => q.2) ν r) H ∧ oCell cA D ro (thO (fun q => q.1.toInt64) oc r) H) (xAL b ro sz)) 1 6 (xAL b ro sz) := by
  refine h_start (own := RL) [(0, .ref b), (1, .int a1), (2, .ref ro)] rfl rfl (by decide) (nb rfl) ?_
  intro p e s m args below meth c C htab hw
  obtain ⟨hsz, hw, ho⟩ := hw
  subst hsz
  have hS : va_S (xAL b ro s.heap.size) s.heap s.heap [] := va_S.rf
  have hrl : ro < s.heap.size := at_lt ho
  refine x_aload_n C dL_billAll_0 rfl ?_
  refine x_iconst (0 : Int32) C dL_billAll_1 rfl ?_
  refine x_aload_n C dL_billAll_2 rfl ?_
  refine x_iload_n C dL_billAll_3 rfl ?_
  refine t_goC (fun ls h => t_runV (As := [.int a1]) [.int (0 : Int32), .ref ro] h C ml_L_152 (k_X11_billAll l D cA s0 z b ν _ hG a1 r hF) ⟨rfl, rfl, nb rfl, nb rfl⟩ rfl (C_PD hw) rfl ⟨rfl, hw⟩ (nb rfl) ⟨nb rfl, nb rfl⟩ dL_billAll_4) hS (fun _ h => Or.inl h) (fun k hr H1 locs1 q9 ce hw1 hz1 hk1 hS1 hce hcv hcl ls9 hl9 => ?_) (fun q hr H1 locs1 hw1 hz1 hk1 hS1 => ?_)
  · subst hr
    have ho1 : oCell cA D ro oc H1 := ho.kept (hk1 ro hrl (fun zz => zz.elim (fun g => absurd g.2 (by omega)) (fun g => absurd g (by omega))))
    have hk := hk k rfl
    subst hk
    refine x_catch (k := 1) (hpc := 12) (pre := []) (x := (0, 9, 12, 32)) (suf := []) C hG hNc (by decide) htab (fun z hz => nomatch hz) (by decide) (by decide) lk_32 rfl hce hcv hcl hl9 ?_
    refine x_astore_n [(3, .ref q9), (0, .ref b), (1, .int a1), (2, .ref ro)] C dL_billAll_12 rfl (by decide) rfl ?_
    refine x_iconst (1 : Int32) C dL_billAll_13 rfl ?_
    exact x_iretM2 C rfl dL_billAll_14 rfl ⟨hw1, ho1⟩ hS1 (nb rfl) (nb rfl)
  · subst hr
    have ho1 : oCell cA D ro oc H1 := ho.kept (hk1 ro hrl (fun zz => zz.elim (fun g => absurd g.2 (by omega)) (fun g => absurd g (by omega))))
    refine x_i2l C dL_billAll_7 ?_
    refine x_last0 C ho1 in01 dL_billAll_8 hS1 (Or.inr rfl) (fun H2 locs2 ho2 hn2 hz2 hS2 => ?_)
    have hw2 := hw1.out hro hn2 hz2
    refine x_goto 15 C dL_billAll_9 (by decide) ?_
    refine x_iconst (0 : Int32) C dL_billAll_15 rfl ?_
    exact x_iretM2 C rfl dL_billAll_16 rfl ⟨hw2, ho2⟩ hS2 (nb rfl) (nb rfl)
theorem mw_L_credit : ∀ ix, Cond.methodLink RL ix yL_credit ∈ gW → Cond.methodLink RL ix yL_credit ∈ gW ∧ Cond.static yL_credit ∈ gW ∧ Cond.initialized yL_credit.cls ∈ gW ∧ Cond.codeWith yL_credit cL_credit 5 (some (FieldType.int)) [(0, 10, 13, 32), (0, 10, 17, 19), (0, 10, 21, 13)] ∈ gW ∧ yL_credit.cls ≠ "java/lang/invoke/MethodHandle" ∧ yL_credit.cls ≠ "java/lang/invoke/VarHandle" ∧ (parseMethodDescriptor yL_credit.desc).map (fun d => d.parameters.length) = some 4 := fun _ h => ⟨h, gW_in (gT6 (List.mem_of_getElem? (i := 136) (by decide +kernel))) (by decide +kernel), gW_in (gT1 (List.mem_of_getElem? (i := 0) (by decide +kernel))) (by decide +kernel), gW_in (gT6 (List.mem_of_getElem? (i := 137) (by decide +kernel))) (by decide +kernel), by decide, by decide, by decide +kernel⟩
set_option maxRecDepth 20000 in
set_option maxHeartbeats 4000000 in
theorem k_L_credit (l : Launch) (D : va_G) (cA : Nat → ClassId) (s0 : State) (z : Nat) (b : Nat) (ν : Mm) (sz : Nat) (hG : xG l D cA s0) (hNc : xNc s0) (ro : Nat) (hro : b + 2628 ≤ ro) (hrz : ro < z) (oc : Nat → Int64) (a1 : Int32) (a2 : Int32) (r : Thr (Int32 × Mm)) (hF : g_X11_credit ν a1 a2 = some r) (hk : ∀ k, r = .error k → k = 1 ∨ k = 2 ∨ k = 3) : Met l yL_credit (wsH yL_credit cL_credit 5 (some (FieldType.int)) [(0, 10, 13, 32), (0, 10, 17, 19), (0, 10, 21, 13)]) { frames := 10, cells := 3, slots := 18, locals := 197 } (xP D cA s0 [.ref b, .int a1, .int a2, .ref ro] (fun H => H.size = sz ∧ WC D cA s0 z b ν H ∧ oCell cA D ro oc H)) (xQm (some (.int (thC (fun k => if k = 1 then 1 else if k = 2 then 2 else if k = 3 then 3 else 0) r))) (fun H => WC D cA s0 z b (thM (fun q => q.2) ν r) H ∧ oCell cA D ro (thO (fun q => q.1.toInt64) oc r) H) (xAL b ro sz)) 3 18 (xAL b ro sz) := by
  refine h_start (own := RL) [(0, .ref b), (1, .int a1), (2, .int a2), (3, .ref ro)] rfl rfl (by decide) (nb rfl) ?_
  intro p e s m args below meth c C htab hw
  obtain ⟨hsz, hw, ho⟩ := hw
  subst hsz
  have hS : va_S (xAL b ro s.heap.size) s.heap s.heap [] := va_S.rf
  have hrl : ro < s.heap.size := at_lt ho
  refine x_aload_n C dL_credit_0 rfl ?_
  refine x_iconst (0 : Int32) C dL_credit_1 rfl ?_
  refine x_aload_n C dL_credit_2 rfl ?_
  refine x_iload_n C dL_credit_3 rfl ?_
  refine x_iload_n C dL_credit_4 rfl ?_
  refine t_goC (fun ls h => t_runV (As := [.int a1, .int a2]) [.int (0 : Int32), .ref ro] h C ml_L_155 (k_X11_credit l D cA s0 z b ν _ hG a1 a2 r hF) ⟨rfl, rfl, nb rfl, nb rfl⟩ rfl (C_PD hw) rfl ⟨rfl, hw⟩ (nb rfl) ⟨nb rfl, nb rfl⟩ dL_credit_5) hS (fun _ h => Or.inl h) (fun k hr H1 locs1 q9 ce hw1 hz1 hk1 hS1 hce hcv hcl ls9 hl9 => ?_) (fun q hr H1 locs1 hw1 hz1 hk1 hS1 => ?_)
  · subst hr
    have ho1 : oCell cA D ro oc H1 := ho.kept (hk1 ro hrl (fun zz => zz.elim (fun g => absurd g.2 (by omega)) (fun g => absurd g (by omega))))
    rcases hk k rfl with rfl | rfl | rfl
    · refine x_catch (k := 1) (hpc := 13) (pre := []) (x := (0, 10, 13, 32)) (suf := [(0, 10, 17, 19), (0, 10, 21, 13)]) C hG hNc (by decide) htab (fun z hz => nomatch hz) (by decide) (by decide) lk_32 rfl hce hcv hcl hl9 ?_
      refine x_astore [(4, .ref q9), (0, .ref b), (1, .int a1), (2, .int a2), (3, .ref ro)] C dL_credit_13 (by decide) rfl ?_
      refine x_iconst (1 : Int32) C dL_credit_15 rfl ?_
      exact x_iretM2 C rfl dL_credit_16 rfl ⟨hw1, ho1⟩ hS1 (nb rfl) (nb rfl)
    · refine x_catch (k := 2) (hpc := 17) (pre := [(0, 10, 13, 32)]) (x := (0, 10, 17, 19)) (suf := [(0, 10, 21, 13)]) C hG hNc (by decide) htab (fun z hz => by
        simp only [List.mem_cons, List.not_mem_nil, or_false] at hz
        rcases hz with rfl
        · exact ⟨by decide, 1, by decide, by decide, lk_32⟩) (by decide) (by decide) lk_19 rfl hce hcv hcl hl9 ?_
      refine x_astore [(4, .ref q9), (0, .ref b), (1, .int a1), (2, .int a2), (3, .ref ro)] C dL_credit_17 (by decide) rfl ?_
      refine x_iconst (2 : Int32) C dL_credit_19 rfl ?_
      exact x_iretM2 C rfl dL_credit_20 rfl ⟨hw1, ho1⟩ hS1 (nb rfl) (nb rfl)
    · refine x_catch (k := 3) (hpc := 21) (pre := [(0, 10, 13, 32), (0, 10, 17, 19)]) (x := (0, 10, 21, 13)) (suf := []) C hG hNc (by decide) htab (fun z hz => by
        simp only [List.mem_cons, List.not_mem_nil, or_false] at hz
        rcases hz with rfl | rfl
        · exact ⟨by decide, 1, by decide, by decide, lk_32⟩
        · exact ⟨by decide, 2, by decide, by decide, lk_19⟩) (by decide) (by decide) lk_13 rfl hce hcv hcl hl9 ?_
      refine x_astore [(4, .ref q9), (0, .ref b), (1, .int a1), (2, .int a2), (3, .ref ro)] C dL_credit_21 (by decide) rfl ?_
      refine x_iconst (3 : Int32) C dL_credit_23 rfl ?_
      exact x_iretM2 C rfl dL_credit_24 rfl ⟨hw1, ho1⟩ hS1 (nb rfl) (nb rfl)
  · subst hr
    have ho1 : oCell cA D ro oc H1 := ho.kept (hk1 ro hrl (fun zz => zz.elim (fun g => absurd g.2 (by omega)) (fun g => absurd g (by omega))))
    refine x_i2l C dL_credit_8 ?_
    refine x_last0 C ho1 in01 dL_credit_9 hS1 (Or.inr rfl) (fun H2 locs2 ho2 hn2 hz2 hS2 => ?_)
    have hw2 := hw1.out hro hn2 hz2
    refine x_goto 25 C dL_credit_10 (by decide) ?_
    refine x_iconst (0 : Int32) C dL_credit_25 rfl ?_
    exact x_iretM2 C rfl dL_credit_26 rfl ⟨hw2, ho2⟩ hS2 (nb rfl) (nb rfl)
theorem mw_L_dispute : ∀ ix, Cond.methodLink RL ix yL_dispute ∈ gW → Cond.methodLink RL ix yL_dispute ∈ gW ∧ Cond.static yL_dispute ∈ gW ∧ Cond.initialized yL_dispute.cls ∈ gW ∧ Cond.codeWith yL_dispute cL_dispute 5 (some (FieldType.int)) [(0, 10, 13, 32), (0, 10, 17, 19), (0, 10, 21, 13)] ∈ gW ∧ yL_dispute.cls ≠ "java/lang/invoke/MethodHandle" ∧ yL_dispute.cls ≠ "java/lang/invoke/VarHandle" ∧ (parseMethodDescriptor yL_dispute.desc).map (fun d => d.parameters.length) = some 4 := fun _ h => ⟨h, gW_in (gT6 (List.mem_of_getElem? (i := 149) (by decide +kernel))) (by decide +kernel), gW_in (gT1 (List.mem_of_getElem? (i := 0) (by decide +kernel))) (by decide +kernel), gW_in (gT6 (List.mem_of_getElem? (i := 150) (by decide +kernel))) (by decide +kernel), by decide, by decide, by decide +kernel⟩
set_option maxRecDepth 20000 in
set_option maxHeartbeats 4000000 in
theorem k_L_dispute (l : Launch) (D : va_G) (cA : Nat → ClassId) (s0 : State) (z : Nat) (b : Nat) (ν : Mm) (sz : Nat) (hG : xG l D cA s0) (hNc : xNc s0) (ro : Nat) (hro : b + 2628 ≤ ro) (hrz : ro < z) (oc : Nat → Int64) (a1 : Int32) (a2 : Int32) (r : Thr (Int32 × Mm)) (hF : g_X11_dispute ν a1 a2 = some r) (hk : ∀ k, r = .error k → k = 1 ∨ k = 2 ∨ k = 3) : Met l yL_dispute (wsH yL_dispute cL_dispute 5 (some (FieldType.int)) [(0, 10, 13, 32), (0, 10, 17, 19), (0, 10, 21, 13)]) { frames := 10, cells := 4, slots := 24, locals := 198 } (xP D cA s0 [.ref b, .int a1, .int a2, .ref ro] (fun H => H.size = sz ∧ WC D cA s0 z b ν H ∧ oCell cA D ro oc H)) (xQm (some (.int (thC (fun k => if k = 1 then 1 else if k = 2 then 2 else if k = 3 then 3 else 0) r))) (fun H => WC D cA s0 z b (thM (fun q => q.2) ν r) H ∧ oCell cA D ro (thO (fun q => q.1.toInt64) oc r) H) (xAL b ro sz)) 4 24 (xAL b ro sz) := by
  refine h_start (own := RL) [(0, .ref b), (1, .int a1), (2, .int a2), (3, .ref ro)] rfl rfl (by decide) (nb rfl) ?_
  intro p e s m args below meth c C htab hw
  obtain ⟨hsz, hw, ho⟩ := hw
  subst hsz
  have hS : va_S (xAL b ro s.heap.size) s.heap s.heap [] := va_S.rf
  have hrl : ro < s.heap.size := at_lt ho
  refine x_aload_n C dL_dispute_0 rfl ?_
  refine x_iconst (0 : Int32) C dL_dispute_1 rfl ?_
  refine x_aload_n C dL_dispute_2 rfl ?_
  refine x_iload_n C dL_dispute_3 rfl ?_
  refine x_iload_n C dL_dispute_4 rfl ?_
  refine t_goC (fun ls h => t_runV (As := [.int a1, .int a2]) [.int (0 : Int32), .ref ro] h C ml_L_158 (k_X11_dispute l D cA s0 z b ν _ hG a1 a2 r hF) ⟨rfl, rfl, nb rfl, nb rfl⟩ rfl (C_PD hw) rfl ⟨rfl, hw⟩ (nb rfl) ⟨nb rfl, nb rfl⟩ dL_dispute_5) hS (fun _ h => Or.inl h) (fun k hr H1 locs1 q9 ce hw1 hz1 hk1 hS1 hce hcv hcl ls9 hl9 => ?_) (fun q hr H1 locs1 hw1 hz1 hk1 hS1 => ?_)
  · subst hr
    have ho1 : oCell cA D ro oc H1 := ho.kept (hk1 ro hrl (fun zz => zz.elim (fun g => absurd g.2 (by omega)) (fun g => absurd g (by omega))))
    rcases hk k rfl with rfl | rfl | rfl
    · refine x_catch (k := 1) (hpc := 13) (pre := []) (x := (0, 10, 13, 32)) (suf := [(0, 10, 17, 19), (0, 10, 21, 13)]) C hG hNc (by decide) htab (fun z hz => nomatch hz) (by decide) (by decide) lk_32 rfl hce hcv hcl hl9 ?_
      refine x_astore [(4, .ref q9), (0, .ref b), (1, .int a1), (2, .int a2), (3, .ref ro)] C dL_dispute_13 (by decide) rfl ?_
      refine x_iconst (1 : Int32) C dL_dispute_15 rfl ?_
      exact x_iretM2 C rfl dL_dispute_16 rfl ⟨hw1, ho1⟩ hS1 (nb rfl) (nb rfl)
    · refine x_catch (k := 2) (hpc := 17) (pre := [(0, 10, 13, 32)]) (x := (0, 10, 17, 19)) (suf := [(0, 10, 21, 13)]) C hG hNc (by decide) htab (fun z hz => by
        simp only [List.mem_cons, List.not_mem_nil, or_false] at hz
        rcases hz with rfl
        · exact ⟨by decide, 1, by decide, by decide, lk_32⟩) (by decide) (by decide) lk_19 rfl hce hcv hcl hl9 ?_
      refine x_astore [(4, .ref q9), (0, .ref b), (1, .int a1), (2, .int a2), (3, .ref ro)] C dL_dispute_17 (by decide) rfl ?_
      refine x_iconst (2 : Int32) C dL_dispute_19 rfl ?_
      exact x_iretM2 C rfl dL_dispute_20 rfl ⟨hw1, ho1⟩ hS1 (nb rfl) (nb rfl)
    · refine x_catch (k := 3) (hpc := 21) (pre := [(0, 10, 13, 32), (0, 10, 17, 19)]) (x := (0, 10, 21, 13)) (suf := []) C hG hNc (by decide) htab (fun z hz => by
        simp only [List.mem_cons, List.not_mem_nil, or_false] at hz
        rcases hz with rfl | rfl
        · exact ⟨by decide, 1, by decide, by decide, lk_32⟩
        · exact ⟨by decide, 2, by decide, by decide, lk_19⟩) (by decide) (by decide) lk_13 rfl hce hcv hcl hl9 ?_
      refine x_astore [(4, .ref q9), (0, .ref b), (1, .int a1), (2, .int a2), (3, .ref ro)] C dL_dispute_21 (by decide) rfl ?_
      refine x_iconst (3 : Int32) C dL_dispute_23 rfl ?_
      exact x_iretM2 C rfl dL_dispute_24 rfl ⟨hw1, ho1⟩ hS1 (nb rfl) (nb rfl)
  · subst hr
    have ho1 : oCell cA D ro oc H1 := ho.kept (hk1 ro hrl (fun zz => zz.elim (fun g => absurd g.2 (by omega)) (fun g => absurd g (by omega))))
    refine x_i2l C dL_dispute_8 ?_
    refine x_last0 C ho1 in01 dL_dispute_9 hS1 (Or.inr rfl) (fun H2 locs2 ho2 hn2 hz2 hS2 => ?_)
    have hw2 := hw1.out hro hn2 hz2
    refine x_goto 25 C dL_dispute_10 (by decide) ?_
    refine x_iconst (0 : Int32) C dL_dispute_25 rfl ?_
    exact x_iretM2 C rfl dL_dispute_26 rfl ⟨hw2, ho2⟩ hS2 (nb rfl) (nb rfl)
theorem mw_L_settle : ∀ ix, Cond.methodLink RL ix yL_settle ∈ gW → Cond.methodLink RL ix yL_settle ∈ gW ∧ Cond.static yL_settle ∈ gW ∧ Cond.initialized yL_settle.cls ∈ gW ∧ Cond.codeWith yL_settle cL_settle 6 (some (FieldType.int)) [(0, 12, 15, 32), (0, 12, 19, 13)] ∈ gW ∧ yL_settle.cls ≠ "java/lang/invoke/MethodHandle" ∧ yL_settle.cls ≠ "java/lang/invoke/VarHandle" ∧ (parseMethodDescriptor yL_settle.desc).map (fun d => d.parameters.length) = some 5 := fun _ h => ⟨h, gW_in (gT6 (List.mem_of_getElem? (i := 157) (by decide +kernel))) (by decide +kernel), gW_in (gT1 (List.mem_of_getElem? (i := 0) (by decide +kernel))) (by decide +kernel), gW_in (gT6 (List.mem_of_getElem? (i := 158) (by decide +kernel))) (by decide +kernel), by decide, by decide, by decide +kernel⟩
set_option maxRecDepth 20000 in
set_option maxHeartbeats 4000000 in
theorem k_L_settle (l : Launch) (D : va_G) (cA : Nat → ClassId) (s0 : State) (z : Nat) (b : Nat) (ν : Mm) (sz : Nat) (hG : xG l D cA s0) (hNc : xNc s0) (ro : Nat) (hro : b + 2628 ≤ ro) (hrz : ro < z) (oc : Nat → Int64) (a1 : Int32) (a2 : Int32) (a3 : Bool) (r : Thr (Int32 × Mm)) (hF : g_X11_settle ν a1 a2 a3 = some r) (hk : ∀ k, r = .error k → k = 1 ∨ k = 3) : Met l yL_settle (wsH yL_settle cL_settle 6 (some (FieldType.int)) [(0, 12, 15, 32), (0, 12, 19, 13)]) { frames := 10, cells := 2, slots := 12, locals := 199 } (xP D cA s0 [.ref b, .int a1, .int a2, .int (bI a3), .ref ro] (fun H => H.size = sz ∧ WC D cA s0 z b ν H ∧ oCell cA D ro oc H)) (xQm (some (.int (thC (fun k => if k = 1 then 1 else if k = 3 then 2 else 0) r))) (fun H => WC D cA s0 z b (thM (fun q => q.2) ν r) H ∧ oCell cA D ro (thO (fun q => q.1.toInt64) oc r) H) (xAL b ro sz)) 2 12 (xAL b ro sz) := by
  refine h_start (own := RL) [(0, .ref b), (1, .int a1), (2, .int a2), (3, .int (bI a3)), (4, .ref ro)] rfl rfl (by decide) (nb rfl) ?_
  intro p e s m args below meth c C htab hw
  obtain ⟨hsz, hw, ho⟩ := hw
  subst hsz
  have hS : va_S (xAL b ro s.heap.size) s.heap s.heap [] := va_S.rf
  have hrl : ro < s.heap.size := at_lt ho
  refine x_aload C dL_settle_0 rfl ?_
  refine x_iconst (0 : Int32) C dL_settle_2 rfl ?_
  refine x_aload_n C dL_settle_3 rfl ?_
  refine x_iload_n C dL_settle_4 rfl ?_
  refine x_iload_n C dL_settle_5 rfl ?_
  refine x_iload_n C dL_settle_6 rfl ?_
  refine t_goC (fun ls h => t_runV (As := [.int a1, .int a2, .int (bI a3)]) [.int (0 : Int32), .ref ro] h C ml_L_161 (k_X11_settle l D cA s0 z b ν _ hG a1 a2 a3 r hF) ⟨rfl, rfl, nb rfl, nb rfl⟩ rfl (C_PD hw) rfl ⟨rfl, hw⟩ (nb rfl) ⟨nb rfl, nb rfl⟩ dL_settle_7) hS (fun _ h => Or.inl h) (fun k hr H1 locs1 q9 ce hw1 hz1 hk1 hS1 hce hcv hcl ls9 hl9 => ?_) (fun q hr H1 locs1 hw1 hz1 hk1 hS1 => ?_)
  · subst hr
    have ho1 : oCell cA D ro oc H1 := ho.kept (hk1 ro hrl (fun zz => zz.elim (fun g => absurd g.2 (by omega)) (fun g => absurd g (by omega))))
    rcases hk k rfl with rfl | rfl
    · refine x_catch (k := 1) (hpc := 15) (pre := []) (x := (0, 12, 15, 32)) (suf := [(0, 12, 19, 13)]) C hG hNc (by decide) htab (fun z hz => nomatch hz) (by decide) (by decide) lk_32 rfl hce hcv hcl hl9 ?_
      refine x_astore [(5, .ref q9), (0, .ref b), (1, .int a1), (2, .int a2), (3, .int (bI a3)), (4, .ref ro)] C dL_settle_15 (by decide) rfl ?_
      refine x_iconst (1 : Int32) C dL_settle_17 rfl ?_
      exact x_iretM2 C rfl dL_settle_18 rfl ⟨hw1, ho1⟩ hS1 (nb rfl) (nb rfl)
    · refine x_catch (k := 3) (hpc := 19) (pre := [(0, 12, 15, 32)]) (x := (0, 12, 19, 13)) (suf := []) C hG hNc (by decide) htab (fun z hz => by
        simp only [List.mem_cons, List.not_mem_nil, or_false] at hz
        rcases hz with rfl
        · exact ⟨by decide, 1, by decide, by decide, lk_32⟩) (by decide) (by decide) lk_13 rfl hce hcv hcl hl9 ?_
      refine x_astore [(5, .ref q9), (0, .ref b), (1, .int a1), (2, .int a2), (3, .int (bI a3)), (4, .ref ro)] C dL_settle_19 (by decide) rfl ?_
      refine x_iconst (2 : Int32) C dL_settle_21 rfl ?_
      exact x_iretM2 C rfl dL_settle_22 rfl ⟨hw1, ho1⟩ hS1 (nb rfl) (nb rfl)
  · subst hr
    have ho1 : oCell cA D ro oc H1 := ho.kept (hk1 ro hrl (fun zz => zz.elim (fun g => absurd g.2 (by omega)) (fun g => absurd g (by omega))))
    refine x_i2l C dL_settle_10 ?_
    refine x_last0 C ho1 in01 dL_settle_11 hS1 (Or.inr rfl) (fun H2 locs2 ho2 hn2 hz2 hS2 => ?_)
    have hw2 := hw1.out hro hn2 hz2
    refine x_goto 23 C dL_settle_12 (by decide) ?_
    refine x_iconst (0 : Int32) C dL_settle_23 rfl ?_
    exact x_iretM2 C rfl dL_settle_24 rfl ⟨hw2, ho2⟩ hS2 (nb rfl) (nb rfl)
theorem mw_L_pay : ∀ ix, Cond.methodLink RL ix yL_pay ∈ gW → Cond.methodLink RL ix yL_pay ∈ gW ∧ Cond.static yL_pay ∈ gW ∧ Cond.initialized yL_pay.cls ∈ gW ∧ Cond.codeWith yL_pay cL_pay 5 (some (FieldType.int)) [(0, 9, 12, 32), (0, 9, 16, 19)] ∈ gW ∧ yL_pay.cls ≠ "java/lang/invoke/MethodHandle" ∧ yL_pay.cls ≠ "java/lang/invoke/VarHandle" ∧ (parseMethodDescriptor yL_pay.desc).map (fun d => d.parameters.length) = some 4 := fun _ h => ⟨h, gW_in (gT6 (List.mem_of_getElem? (i := 164) (by decide +kernel))) (by decide +kernel), gW_in (gT1 (List.mem_of_getElem? (i := 0) (by decide +kernel))) (by decide +kernel), gW_in (gT6 (List.mem_of_getElem? (i := 165) (by decide +kernel))) (by decide +kernel), by decide, by decide, by decide +kernel⟩
set_option maxRecDepth 20000 in
set_option maxHeartbeats 4000000 in
theorem k_L_pay (l : Launch) (D : va_G) (cA : Nat → ClassId) (s0 : State) (z : Nat) (b : Nat) (ν : Mm) (sz : Nat) (hG : xG l D cA s0) (hNc : xNc s0) (ro : Nat) (hro : b + 2628 ≤ ro) (hrz : ro < z) (oc : Nat → Int64) (a1 : Int32) (a2 : Int32) (r : Thr (Int64 × Mm)) (hF : g_X11_pay ν a1 a2 = some r) (hk : ∀ k, r = .error k → k = 1 ∨ k = 2) : Met l yL_pay (wsH yL_pay cL_pay 5 (some (FieldType.int)) [(0, 9, 12, 32), (0, 9, 16, 19)]) { frames := 10, cells := 2, slots := 12, locals := 198 } (xP D cA s0 [.ref b, .int a1, .int a2, .ref ro] (fun H => H.size = sz ∧ WC D cA s0 z b ν H ∧ oCell cA D ro oc H)) (xQm (some (.int (thC (fun k => if k = 1 then 1 else if k = 2 then 2 else 0) r))) (fun H => WC D cA s0 z b (thM (fun q => q.2) ν r) H ∧ oCell cA D ro (thO (fun q => q.1) oc r) H) (xAL b ro sz)) 2 12 (xAL b ro sz) := by
  refine h_start (own := RL) [(0, .ref b), (1, .int a1), (2, .int a2), (3, .ref ro)] rfl rfl (by decide) (nb rfl) ?_
  intro p e s m args below meth c C htab hw
  obtain ⟨hsz, hw, ho⟩ := hw
  subst hsz
  have hS : va_S (xAL b ro s.heap.size) s.heap s.heap [] := va_S.rf
  have hrl : ro < s.heap.size := at_lt ho
  refine x_aload_n C dL_pay_0 rfl ?_
  refine x_iconst (0 : Int32) C dL_pay_1 rfl ?_
  refine x_aload_n C dL_pay_2 rfl ?_
  refine x_iload_n C dL_pay_3 rfl ?_
  refine x_iload_n C dL_pay_4 rfl ?_
  refine t_goC (fun ls h => t_runV (As := [.int a1, .int a2]) [.int (0 : Int32), .ref ro] h C ml_L_165 (k_X11_pay l D cA s0 z b ν _ hG a1 a2 r hF) ⟨rfl, rfl, nb rfl, nb rfl⟩ rfl (C_PD hw) rfl ⟨rfl, hw⟩ (nb rfl) ⟨nb rfl, nb rfl⟩ dL_pay_5) hS (fun _ h => Or.inl h) (fun k hr H1 locs1 q9 ce hw1 hz1 hk1 hS1 hce hcv hcl ls9 hl9 => ?_) (fun q hr H1 locs1 hw1 hz1 hk1 hS1 => ?_)
  · subst hr
    have ho1 : oCell cA D ro oc H1 := ho.kept (hk1 ro hrl (fun zz => zz.elim (fun g => absurd g.2 (by omega)) (fun g => absurd g (by omega))))
    rcases hk k rfl with rfl | rfl
    · refine x_catch (k := 1) (hpc := 12) (pre := []) (x := (0, 9, 12, 32)) (suf := [(0, 9, 16, 19)]) C hG hNc (by decide) htab (fun z hz => nomatch hz) (by decide) (by decide) lk_32 rfl hce hcv hcl hl9 ?_
      refine x_astore [(4, .ref q9), (0, .ref b), (1, .int a1), (2, .int a2), (3, .ref ro)] C dL_pay_12 (by decide) rfl ?_
      refine x_iconst (1 : Int32) C dL_pay_14 rfl ?_
      exact x_iretM2 C rfl dL_pay_15 rfl ⟨hw1, ho1⟩ hS1 (nb rfl) (nb rfl)
    · refine x_catch (k := 2) (hpc := 16) (pre := [(0, 9, 12, 32)]) (x := (0, 9, 16, 19)) (suf := []) C hG hNc (by decide) htab (fun z hz => by
        simp only [List.mem_cons, List.not_mem_nil, or_false] at hz
        rcases hz with rfl
        · exact ⟨by decide, 1, by decide, by decide, lk_32⟩) (by decide) (by decide) lk_19 rfl hce hcv hcl hl9 ?_
      refine x_astore [(4, .ref q9), (0, .ref b), (1, .int a1), (2, .int a2), (3, .ref ro)] C dL_pay_16 (by decide) rfl ?_
      refine x_iconst (2 : Int32) C dL_pay_18 rfl ?_
      exact x_iretM2 C rfl dL_pay_19 rfl ⟨hw1, ho1⟩ hS1 (nb rfl) (nb rfl)
  · subst hr
    have ho1 : oCell cA D ro oc H1 := ho.kept (hk1 ro hrl (fun zz => zz.elim (fun g => absurd g.2 (by omega)) (fun g => absurd g (by omega))))
    refine x_last0 C ho1 in01 dL_pay_8 hS1 (Or.inr rfl) (fun H2 locs2 ho2 hn2 hz2 hS2 => ?_)
    have hw2 := hw1.out hro hn2 hz2
    refine x_goto 20 C dL_pay_9 (by decide) ?_
    refine x_iconst (0 : Int32) C dL_pay_20 rfl ?_
    exact x_iretM2 C rfl dL_pay_21 rfl ⟨hw2, ho2⟩ hS2 (nb rfl) (nb rfl)
theorem mw_L_advance : ∀ ix, Cond.methodLink RL ix yL_advance ∈ gW → Cond.methodLink RL ix yL_advance ∈ gW ∧ Cond.static yL_advance ∈ gW ∧ Cond.initialized yL_advance.cls ∈ gW ∧ Cond.codeWith yL_advance cL_advance 4 (some (FieldType.int)) [(0, 9, 12, 19), (0, 9, 15, 13)] ∈ gW ∧ yL_advance.cls ≠ "java/lang/invoke/MethodHandle" ∧ yL_advance.cls ≠ "java/lang/invoke/VarHandle" ∧ (parseMethodDescriptor yL_advance.desc).map (fun d => d.parameters.length) = some 3 := fun _ h => ⟨h, gW_in (gT6 (List.mem_of_getElem? (i := 172) (by decide +kernel))) (by decide +kernel), gW_in (gT1 (List.mem_of_getElem? (i := 0) (by decide +kernel))) (by decide +kernel), gW_in (gT6 (List.mem_of_getElem? (i := 173) (by decide +kernel))) (by decide +kernel), by decide, by decide, by decide +kernel⟩
set_option maxRecDepth 20000 in
set_option maxHeartbeats 4000000 in
theorem k_L_advance (l : Launch) (D : va_G) (cA : Nat → ClassId) (s0 : State) (z : Nat) (b : Nat) (ν : Mm) (sz : Nat) (hG : xG l D cA s0) (hNc : xNc s0) (ro : Nat) (hro : b + 2628 ≤ ro) (hrz : ro < z) (oc : Nat → Int64) (a1 : Int32) (r : Thr (Int32 × Mm)) (hF : g_X11_advance ν a1 = some r) (hk : ∀ k, r = .error k → k = 2 ∨ k = 3) : Met l yL_advance (wsH yL_advance cL_advance 4 (some (FieldType.int)) [(0, 9, 12, 19), (0, 9, 15, 13)]) { frames := 10, cells := 2, slots := 12, locals := 196 } (xP D cA s0 [.ref b, .int a1, .ref ro] (fun H => H.size = sz ∧ WC D cA s0 z b ν H ∧ oCell cA D ro oc H)) (xQm (some (.int (thC (fun k => if k = 2 then 1 else if k = 3 then 2 else 0) r))) (fun H => WC D cA s0 z b (thM (fun q => q.2) ν r) H ∧ oCell cA D ro (thO (fun q => q.1.toInt64) oc r) H) (xAL b ro sz)) 2 12 (xAL b ro sz) := by
  refine h_start (own := RL) [(0, .ref b), (1, .int a1), (2, .ref ro)] rfl rfl (by decide) (nb rfl) ?_
  intro p e s m args below meth c C htab hw
  obtain ⟨hsz, hw, ho⟩ := hw
  subst hsz
  have hS : va_S (xAL b ro s.heap.size) s.heap s.heap [] := va_S.rf
  have hrl : ro < s.heap.size := at_lt ho
  refine x_aload_n C dL_advance_0 rfl ?_
  refine x_iconst (0 : Int32) C dL_advance_1 rfl ?_
  refine x_aload_n C dL_advance_2 rfl ?_
  refine x_iload_n C dL_advance_3 rfl ?_
  refine t_goC (fun ls h => t_runV (As := [.int a1]) [.int (0 : Int32), .ref ro] h C ml_L_168 (k_X11_advance l D cA s0 z b ν _ hG a1 r hF) ⟨rfl, rfl, nb rfl, nb rfl⟩ rfl (C_PD hw) rfl ⟨rfl, hw⟩ (nb rfl) ⟨nb rfl, nb rfl⟩ dL_advance_4) hS (fun _ h => Or.inl h) (fun k hr H1 locs1 q9 ce hw1 hz1 hk1 hS1 hce hcv hcl ls9 hl9 => ?_) (fun q hr H1 locs1 hw1 hz1 hk1 hS1 => ?_)
  · subst hr
    have ho1 : oCell cA D ro oc H1 := ho.kept (hk1 ro hrl (fun zz => zz.elim (fun g => absurd g.2 (by omega)) (fun g => absurd g (by omega))))
    rcases hk k rfl with rfl | rfl
    · refine x_catch (k := 2) (hpc := 12) (pre := []) (x := (0, 9, 12, 19)) (suf := [(0, 9, 15, 13)]) C hG hNc (by decide) htab (fun z hz => nomatch hz) (by decide) (by decide) lk_19 rfl hce hcv hcl hl9 ?_
      refine x_astore_n [(3, .ref q9), (0, .ref b), (1, .int a1), (2, .ref ro)] C dL_advance_12 rfl (by decide) rfl ?_
      refine x_iconst (1 : Int32) C dL_advance_13 rfl ?_
      exact x_iretM2 C rfl dL_advance_14 rfl ⟨hw1, ho1⟩ hS1 (nb rfl) (nb rfl)
    · refine x_catch (k := 3) (hpc := 15) (pre := [(0, 9, 12, 19)]) (x := (0, 9, 15, 13)) (suf := []) C hG hNc (by decide) htab (fun z hz => by
        simp only [List.mem_cons, List.not_mem_nil, or_false] at hz
        rcases hz with rfl
        · exact ⟨by decide, 2, by decide, by decide, lk_19⟩) (by decide) (by decide) lk_13 rfl hce hcv hcl hl9 ?_
      refine x_astore_n [(3, .ref q9), (0, .ref b), (1, .int a1), (2, .ref ro)] C dL_advance_15 rfl (by decide) rfl ?_
      refine x_iconst (2 : Int32) C dL_advance_16 rfl ?_
      exact x_iretM2 C rfl dL_advance_17 rfl ⟨hw1, ho1⟩ hS1 (nb rfl) (nb rfl)
  · subst hr
    have ho1 : oCell cA D ro oc H1 := ho.kept (hk1 ro hrl (fun zz => zz.elim (fun g => absurd g.2 (by omega)) (fun g => absurd g (by omega))))
    refine x_i2l C dL_advance_7 ?_
    refine x_last0 C ho1 in01 dL_advance_8 hS1 (Or.inr rfl) (fun H2 locs2 ho2 hn2 hz2 hS2 => ?_)
    have hw2 := hw1.out hro hn2 hz2
    refine x_goto 18 C dL_advance_9 (by decide) ?_
    refine x_iconst (0 : Int32) C dL_advance_18 rfl ?_
    exact x_iretM2 C rfl dL_advance_19 rfl ⟨hw2, ho2⟩ hS2 (nb rfl) (nb rfl)
theorem mw_L_setRate : ∀ ix, Cond.methodLink RL ix yL_setRate ∈ gW → Cond.methodLink RL ix yL_setRate ∈ gW ∧ Cond.static yL_setRate ∈ gW ∧ Cond.initialized yL_setRate.cls ∈ gW ∧ Cond.codeWith yL_setRate cL_setRate 5 (some (FieldType.int)) [(0, 10, 13, 32), (0, 10, 17, 19), (0, 10, 21, 13)] ∈ gW ∧ yL_setRate.cls ≠ "java/lang/invoke/MethodHandle" ∧ yL_setRate.cls ≠ "java/lang/invoke/VarHandle" ∧ (parseMethodDescriptor yL_setRate.desc).map (fun d => d.parameters.length) = some 4 := fun _ h => ⟨h, gW_in (gT6 (List.mem_of_getElem? (i := 180) (by decide +kernel))) (by decide +kernel), gW_in (gT1 (List.mem_of_getElem? (i := 0) (by decide +kernel))) (by decide +kernel), gW_in (gT6 (List.mem_of_getElem? (i := 181) (by decide +kernel))) (by decide +kernel), by decide, by decide, by decide +kernel⟩
set_option maxRecDepth 20000 in
set_option maxHeartbeats 4000000 in
theorem k_L_setRate (l : Launch) (D : va_G) (cA : Nat → ClassId) (s0 : State) (z : Nat) (b : Nat) (ν : Mm) (sz : Nat) (hG : xG l D cA s0) (hNc : xNc s0) (ro : Nat) (hro : b + 2628 ≤ ro) (hrz : ro < z) (oc : Nat → Int64) (a1 : Int32) (a2 : Int32) (r : Thr (Int32 × Mm)) (hF : g_X11_setRate ν a1 a2 = some r) (hk : ∀ k, r = .error k → k = 1 ∨ k = 2 ∨ k = 3) : Met l yL_setRate (wsH yL_setRate cL_setRate 5 (some (FieldType.int)) [(0, 10, 13, 32), (0, 10, 17, 19), (0, 10, 21, 13)]) { frames := 10, cells := 3, slots := 18, locals := 197 } (xP D cA s0 [.ref b, .int a1, .int a2, .ref ro] (fun H => H.size = sz ∧ WC D cA s0 z b ν H ∧ oCell cA D ro oc H)) (xQm (some (.int (thC (fun k => if k = 1 then 1 else if k = 2 then 2 else if k = 3 then 3 else 0) r))) (fun H => WC D cA s0 z b (thM (fun q => q.2) ν r) H ∧ oCell cA D ro (thO (fun q => q.1.toInt64) oc r) H) (xAL b ro sz)) 3 18 (xAL b ro sz) := by
  refine h_start (own := RL) [(0, .ref b), (1, .int a1), (2, .int a2), (3, .ref ro)] rfl rfl (by decide) (nb rfl) ?_
  intro p e s m args below meth c C htab hw
  obtain ⟨hsz, hw, ho⟩ := hw
  subst hsz
  have hS : va_S (xAL b ro s.heap.size) s.heap s.heap [] := va_S.rf
  have hrl : ro < s.heap.size := at_lt ho
  refine x_aload_n C dL_setRate_0 rfl ?_
  refine x_iconst (0 : Int32) C dL_setRate_1 rfl ?_
  refine x_aload_n C dL_setRate_2 rfl ?_
  refine x_iload_n C dL_setRate_3 rfl ?_
  refine x_iload_n C dL_setRate_4 rfl ?_
  refine t_goC (fun ls h => t_runV (As := [.int a1, .int a2]) [.int (0 : Int32), .ref ro] h C ml_L_171 (k_X11_setRate l D cA s0 z b ν _ hG a1 a2 r hF) ⟨rfl, rfl, nb rfl, nb rfl⟩ rfl (C_PD hw) rfl ⟨rfl, hw⟩ (nb rfl) ⟨nb rfl, nb rfl⟩ dL_setRate_5) hS (fun _ h => Or.inl h) (fun k hr H1 locs1 q9 ce hw1 hz1 hk1 hS1 hce hcv hcl ls9 hl9 => ?_) (fun q hr H1 locs1 hw1 hz1 hk1 hS1 => ?_)
  · subst hr
    have ho1 : oCell cA D ro oc H1 := ho.kept (hk1 ro hrl (fun zz => zz.elim (fun g => absurd g.2 (by omega)) (fun g => absurd g (by omega))))
    rcases hk k rfl with rfl | rfl | rfl
    · refine x_catch (k := 1) (hpc := 13) (pre := []) (x := (0, 10, 13, 32)) (suf := [(0, 10, 17, 19), (0, 10, 21, 13)]) C hG hNc (by decide) htab (fun z hz => nomatch hz) (by decide) (by decide) lk_32 rfl hce hcv hcl hl9 ?_
      refine x_astore [(4, .ref q9), (0, .ref b), (1, .int a1), (2, .int a2), (3, .ref ro)] C dL_setRate_13 (by decide) rfl ?_
      refine x_iconst (1 : Int32) C dL_setRate_15 rfl ?_
      exact x_iretM2 C rfl dL_setRate_16 rfl ⟨hw1, ho1⟩ hS1 (nb rfl) (nb rfl)
    · refine x_catch (k := 2) (hpc := 17) (pre := [(0, 10, 13, 32)]) (x := (0, 10, 17, 19)) (suf := [(0, 10, 21, 13)]) C hG hNc (by decide) htab (fun z hz => by
        simp only [List.mem_cons, List.not_mem_nil, or_false] at hz
        rcases hz with rfl
        · exact ⟨by decide, 1, by decide, by decide, lk_32⟩) (by decide) (by decide) lk_19 rfl hce hcv hcl hl9 ?_
      refine x_astore [(4, .ref q9), (0, .ref b), (1, .int a1), (2, .int a2), (3, .ref ro)] C dL_setRate_17 (by decide) rfl ?_
      refine x_iconst (2 : Int32) C dL_setRate_19 rfl ?_
      exact x_iretM2 C rfl dL_setRate_20 rfl ⟨hw1, ho1⟩ hS1 (nb rfl) (nb rfl)
    · refine x_catch (k := 3) (hpc := 21) (pre := [(0, 10, 13, 32), (0, 10, 17, 19)]) (x := (0, 10, 21, 13)) (suf := []) C hG hNc (by decide) htab (fun z hz => by
        simp only [List.mem_cons, List.not_mem_nil, or_false] at hz
        rcases hz with rfl | rfl
        · exact ⟨by decide, 1, by decide, by decide, lk_32⟩
        · exact ⟨by decide, 2, by decide, by decide, lk_19⟩) (by decide) (by decide) lk_13 rfl hce hcv hcl hl9 ?_
      refine x_astore [(4, .ref q9), (0, .ref b), (1, .int a1), (2, .int a2), (3, .ref ro)] C dL_setRate_21 (by decide) rfl ?_
      refine x_iconst (3 : Int32) C dL_setRate_23 rfl ?_
      exact x_iretM2 C rfl dL_setRate_24 rfl ⟨hw1, ho1⟩ hS1 (nb rfl) (nb rfl)
  · subst hr
    have ho1 : oCell cA D ro oc H1 := ho.kept (hk1 ro hrl (fun zz => zz.elim (fun g => absurd g.2 (by omega)) (fun g => absurd g (by omega))))
    refine x_i2l C dL_setRate_8 ?_
    refine x_last0 C ho1 in01 dL_setRate_9 hS1 (Or.inr rfl) (fun H2 locs2 ho2 hn2 hz2 hS2 => ?_)
    have hw2 := hw1.out hro hn2 hz2
    refine x_goto 25 C dL_setRate_10 (by decide) ?_
    refine x_iconst (0 : Int32) C dL_setRate_25 rfl ?_
    exact x_iretM2 C rfl dL_setRate_26 rfl ⟨hw2, ho2⟩ hS2 (nb rfl) (nb rfl)
theorem mw_L_setPercent : ∀ ix, Cond.methodLink RL ix yL_setPercent ∈ gW → Cond.methodLink RL ix yL_setPercent ∈ gW ∧ Cond.static yL_setPercent ∈ gW ∧ Cond.initialized yL_setPercent.cls ∈ gW ∧ Cond.codeWith yL_setPercent cL_setPercent 5 (some (FieldType.int)) [(0, 10, 13, 32), (0, 10, 17, 19), (0, 10, 21, 13)] ∈ gW ∧ yL_setPercent.cls ≠ "java/lang/invoke/MethodHandle" ∧ yL_setPercent.cls ≠ "java/lang/invoke/VarHandle" ∧ (parseMethodDescriptor yL_setPercent.desc).map (fun d => d.parameters.length) = some 4 := fun _ h => ⟨h, gW_in (gT6 (List.mem_of_getElem? (i := 191) (by decide +kernel))) (by decide +kernel), gW_in (gT1 (List.mem_of_getElem? (i := 0) (by decide +kernel))) (by decide +kernel), gW_in (gT6 (List.mem_of_getElem? (i := 192) (by decide +kernel))) (by decide +kernel), by decide, by decide, by decide +kernel⟩
set_option maxRecDepth 20000 in
set_option maxHeartbeats 4000000 in
theorem k_L_setPercent (l : Launch) (D : va_G) (cA : Nat → ClassId) (s0 : State) (z : Nat) (b : Nat) (ν : Mm) (sz : Nat) (hG : xG l D cA s0) (hNc : xNc s0) (ro : Nat) (hro : b + 2628 ≤ ro) (hrz : ro < z) (oc : Nat → Int64) (a1 : Int32) (a2 : Int32) (r : Thr (Int32 × Mm)) (hF : g_X11_setPercent ν a1 a2 = some r) (hk : ∀ k, r = .error k → k = 1 ∨ k = 2 ∨ k = 3) : Met l yL_setPercent (wsH yL_setPercent cL_setPercent 5 (some (FieldType.int)) [(0, 10, 13, 32), (0, 10, 17, 19), (0, 10, 21, 13)]) { frames := 10, cells := 3, slots := 18, locals := 197 } (xP D cA s0 [.ref b, .int a1, .int a2, .ref ro] (fun H => H.size = sz ∧ WC D cA s0 z b ν H ∧ oCell cA D ro oc H)) (xQm (some (.int (thC (fun k => if k = 1 then 1 else if k = 2 then 2 else if k = 3 then 3 else 0) r))) (fun H => WC D cA s0 z b (thM (fun q => q.2) ν r) H ∧ oCell cA D ro (thO (fun q => q.1.toInt64) oc r) H) (xAL b ro sz)) 3 18 (xAL b ro sz) := by
  refine h_start (own := RL) [(0, .ref b), (1, .int a1), (2, .int a2), (3, .ref ro)] rfl rfl (by decide) (nb rfl) ?_
  intro p e s m args below meth c C htab hw
  obtain ⟨hsz, hw, ho⟩ := hw
  subst hsz
  have hS : va_S (xAL b ro s.heap.size) s.heap s.heap [] := va_S.rf
  have hrl : ro < s.heap.size := at_lt ho
  refine x_aload_n C dL_setPercent_0 rfl ?_
  refine x_iconst (0 : Int32) C dL_setPercent_1 rfl ?_
  refine x_aload_n C dL_setPercent_2 rfl ?_
  refine x_iload_n C dL_setPercent_3 rfl ?_
  refine x_iload_n C dL_setPercent_4 rfl ?_
  refine t_goC (fun ls h => t_runV (As := [.int a1, .int a2]) [.int (0 : Int32), .ref ro] h C ml_L_174 (k_X11_setPercent l D cA s0 z b ν _ hG a1 a2 r hF) ⟨rfl, rfl, nb rfl, nb rfl⟩ rfl (C_PD hw) rfl ⟨rfl, hw⟩ (nb rfl) ⟨nb rfl, nb rfl⟩ dL_setPercent_5) hS (fun _ h => Or.inl h) (fun k hr H1 locs1 q9 ce hw1 hz1 hk1 hS1 hce hcv hcl ls9 hl9 => ?_) (fun q hr H1 locs1 hw1 hz1 hk1 hS1 => ?_)
  · subst hr
    have ho1 : oCell cA D ro oc H1 := ho.kept (hk1 ro hrl (fun zz => zz.elim (fun g => absurd g.2 (by omega)) (fun g => absurd g (by omega))))
    rcases hk k rfl with rfl | rfl | rfl
    · refine x_catch (k := 1) (hpc := 13) (pre := []) (x := (0, 10, 13, 32)) (suf := [(0, 10, 17, 19), (0, 10, 21, 13)]) C hG hNc (by decide) htab (fun z hz => nomatch hz) (by decide) (by decide) lk_32 rfl hce hcv hcl hl9 ?_
      refine x_astore [(4, .ref q9), (0, .ref b), (1, .int a1), (2, .int a2), (3, .ref ro)] C dL_setPercent_13 (by decide) rfl ?_
      refine x_iconst (1 : Int32) C dL_setPercent_15 rfl ?_
      exact x_iretM2 C rfl dL_setPercent_16 rfl ⟨hw1, ho1⟩ hS1 (nb rfl) (nb rfl)
    · refine x_catch (k := 2) (hpc := 17) (pre := [(0, 10, 13, 32)]) (x := (0, 10, 17, 19)) (suf := [(0, 10, 21, 13)]) C hG hNc (by decide) htab (fun z hz => by
        simp only [List.mem_cons, List.not_mem_nil, or_false] at hz
        rcases hz with rfl
        · exact ⟨by decide, 1, by decide, by decide, lk_32⟩) (by decide) (by decide) lk_19 rfl hce hcv hcl hl9 ?_
      refine x_astore [(4, .ref q9), (0, .ref b), (1, .int a1), (2, .int a2), (3, .ref ro)] C dL_setPercent_17 (by decide) rfl ?_
      refine x_iconst (2 : Int32) C dL_setPercent_19 rfl ?_
      exact x_iretM2 C rfl dL_setPercent_20 rfl ⟨hw1, ho1⟩ hS1 (nb rfl) (nb rfl)
    · refine x_catch (k := 3) (hpc := 21) (pre := [(0, 10, 13, 32), (0, 10, 17, 19)]) (x := (0, 10, 21, 13)) (suf := []) C hG hNc (by decide) htab (fun z hz => by
        simp only [List.mem_cons, List.not_mem_nil, or_false] at hz
        rcases hz with rfl | rfl
        · exact ⟨by decide, 1, by decide, by decide, lk_32⟩
        · exact ⟨by decide, 2, by decide, by decide, lk_19⟩) (by decide) (by decide) lk_13 rfl hce hcv hcl hl9 ?_
      refine x_astore [(4, .ref q9), (0, .ref b), (1, .int a1), (2, .int a2), (3, .ref ro)] C dL_setPercent_21 (by decide) rfl ?_
      refine x_iconst (3 : Int32) C dL_setPercent_23 rfl ?_
      exact x_iretM2 C rfl dL_setPercent_24 rfl ⟨hw1, ho1⟩ hS1 (nb rfl) (nb rfl)
  · subst hr
    have ho1 : oCell cA D ro oc H1 := ho.kept (hk1 ro hrl (fun zz => zz.elim (fun g => absurd g.2 (by omega)) (fun g => absurd g (by omega))))
    refine x_i2l C dL_setPercent_8 ?_
    refine x_last0 C ho1 in01 dL_setPercent_9 hS1 (Or.inr rfl) (fun H2 locs2 ho2 hn2 hz2 hS2 => ?_)
    have hw2 := hw1.out hro hn2 hz2
    refine x_goto 25 C dL_setPercent_10 (by decide) ?_
    refine x_iconst (0 : Int32) C dL_setPercent_25 rfl ?_
    exact x_iretM2 C rfl dL_setPercent_26 rfl ⟨hw2, ho2⟩ hS2 (nb rfl) (nb rfl)
theorem mw_L_setLay : ∀ ix, Cond.methodLink RL ix yL_setLay ∈ gW → Cond.methodLink RL ix yL_setLay ∈ gW ∧ Cond.static yL_setLay ∈ gW ∧ Cond.initialized yL_setLay.cls ∈ gW ∧ Cond.codeWith yL_setLay cL_setLay 5 (some (FieldType.int)) [(0, 10, 13, 19), (0, 10, 17, 13)] ∈ gW ∧ yL_setLay.cls ≠ "java/lang/invoke/MethodHandle" ∧ yL_setLay.cls ≠ "java/lang/invoke/VarHandle" ∧ (parseMethodDescriptor yL_setLay.desc).map (fun d => d.parameters.length) = some 4 := fun _ h => ⟨h, gW_in (gT6 (List.mem_of_getElem? (i := 198) (by decide +kernel))) (by decide +kernel), gW_in (gT1 (List.mem_of_getElem? (i := 0) (by decide +kernel))) (by decide +kernel), gW_in (gT6 (List.mem_of_getElem? (i := 199) (by decide +kernel))) (by decide +kernel), by decide, by decide, by decide +kernel⟩
set_option maxRecDepth 20000 in
set_option maxHeartbeats 4000000 in
theorem k_L_setLay (l : Launch) (D : va_G) (cA : Nat → ClassId) (s0 : State) (z : Nat) (b : Nat) (ν : Mm) (sz : Nat) (hG : xG l D cA s0) (hNc : xNc s0) (ro : Nat) (hro : b + 2628 ≤ ro) (hrz : ro < z) (oc : Nat → Int64) (a1 : Int32) (a2 : Int32) (r : Thr (Int32 × Mm)) (hF : g_X11_setLay ν a1 a2 = some r) (hk : ∀ k, r = .error k → k = 2 ∨ k = 3) : Met l yL_setLay (wsH yL_setLay cL_setLay 5 (some (FieldType.int)) [(0, 10, 13, 19), (0, 10, 17, 13)]) { frames := 10, cells := 3, slots := 18, locals := 198 } (xP D cA s0 [.ref b, .int a1, .int a2, .ref ro] (fun H => H.size = sz ∧ WC D cA s0 z b ν H ∧ oCell cA D ro oc H)) (xQm (some (.int (thC (fun k => if k = 2 then 1 else if k = 3 then 2 else 0) r))) (fun H => WC D cA s0 z b (thM (fun q => q.2) ν r) H ∧ oCell cA D ro (thO (fun q => q.1.toInt64) oc r) H) (xAL b ro sz)) 3 18 (xAL b ro sz) := by
  refine h_start (own := RL) [(0, .ref b), (1, .int a1), (2, .int a2), (3, .ref ro)] rfl rfl (by decide) (nb rfl) ?_
  intro p e s m args below meth c C htab hw
  obtain ⟨hsz, hw, ho⟩ := hw
  subst hsz
  have hS : va_S (xAL b ro s.heap.size) s.heap s.heap [] := va_S.rf
  have hrl : ro < s.heap.size := at_lt ho
  refine x_aload_n C dL_setLay_0 rfl ?_
  refine x_iconst (0 : Int32) C dL_setLay_1 rfl ?_
  refine x_aload_n C dL_setLay_2 rfl ?_
  refine x_iload_n C dL_setLay_3 rfl ?_
  refine x_iload_n C dL_setLay_4 rfl ?_
  refine t_goC (fun ls h => t_runV (As := [.int a1, .int a2]) [.int (0 : Int32), .ref ro] h C ml_L_177 (k_X11_setLay l D cA s0 z b ν _ hG a1 a2 r hF) ⟨rfl, rfl, nb rfl, nb rfl⟩ rfl (C_PD hw) rfl ⟨rfl, hw⟩ (nb rfl) ⟨nb rfl, nb rfl⟩ dL_setLay_5) hS (fun _ h => Or.inl h) (fun k hr H1 locs1 q9 ce hw1 hz1 hk1 hS1 hce hcv hcl ls9 hl9 => ?_) (fun q hr H1 locs1 hw1 hz1 hk1 hS1 => ?_)
  · subst hr
    have ho1 : oCell cA D ro oc H1 := ho.kept (hk1 ro hrl (fun zz => zz.elim (fun g => absurd g.2 (by omega)) (fun g => absurd g (by omega))))
    rcases hk k rfl with rfl | rfl
    · refine x_catch (k := 2) (hpc := 13) (pre := []) (x := (0, 10, 13, 19)) (suf := [(0, 10, 17, 13)]) C hG hNc (by decide) htab (fun z hz => nomatch hz) (by decide) (by decide) lk_19 rfl hce hcv hcl hl9 ?_
      refine x_astore [(4, .ref q9), (0, .ref b), (1, .int a1), (2, .int a2), (3, .ref ro)] C dL_setLay_13 (by decide) rfl ?_
      refine x_iconst (1 : Int32) C dL_setLay_15 rfl ?_
      exact x_iretM2 C rfl dL_setLay_16 rfl ⟨hw1, ho1⟩ hS1 (nb rfl) (nb rfl)
    · refine x_catch (k := 3) (hpc := 17) (pre := [(0, 10, 13, 19)]) (x := (0, 10, 17, 13)) (suf := []) C hG hNc (by decide) htab (fun z hz => by
        simp only [List.mem_cons, List.not_mem_nil, or_false] at hz
        rcases hz with rfl
        · exact ⟨by decide, 2, by decide, by decide, lk_19⟩) (by decide) (by decide) lk_13 rfl hce hcv hcl hl9 ?_
      refine x_astore [(4, .ref q9), (0, .ref b), (1, .int a1), (2, .int a2), (3, .ref ro)] C dL_setLay_17 (by decide) rfl ?_
      refine x_iconst (2 : Int32) C dL_setLay_19 rfl ?_
      exact x_iretM2 C rfl dL_setLay_20 rfl ⟨hw1, ho1⟩ hS1 (nb rfl) (nb rfl)
  · subst hr
    have ho1 : oCell cA D ro oc H1 := ho.kept (hk1 ro hrl (fun zz => zz.elim (fun g => absurd g.2 (by omega)) (fun g => absurd g (by omega))))
    refine x_i2l C dL_setLay_8 ?_
    refine x_last0 C ho1 in01 dL_setLay_9 hS1 (Or.inr rfl) (fun H2 locs2 ho2 hn2 hz2 hS2 => ?_)
    have hw2 := hw1.out hro hn2 hz2
    refine x_goto 21 C dL_setLay_10 (by decide) ?_
    refine x_iconst (0 : Int32) C dL_setLay_21 rfl ?_
    exact x_iretM2 C rfl dL_setLay_22 rfl ⟨hw2, ho2⟩ hS2 (nb rfl) (nb rfl)
theorem mw_L_undo : ∀ ix, Cond.methodLink RL ix yL_undo ∈ gW → Cond.methodLink RL ix yL_undo ∈ gW ∧ Cond.static yL_undo ∈ gW ∧ Cond.initialized yL_undo.cls ∈ gW ∧ Cond.codeWith yL_undo cL_undo 3 (some (FieldType.int)) [(0, 8, 11, 13)] ∈ gW ∧ yL_undo.cls ≠ "java/lang/invoke/MethodHandle" ∧ yL_undo.cls ≠ "java/lang/invoke/VarHandle" ∧ (parseMethodDescriptor yL_undo.desc).map (fun d => d.parameters.length) = some 2 := fun _ h => ⟨h, gW_in (gT6 (List.mem_of_getElem? (i := 205) (by decide +kernel))) (by decide +kernel), gW_in (gT1 (List.mem_of_getElem? (i := 0) (by decide +kernel))) (by decide +kernel), gW_in (gT6 (List.mem_of_getElem? (i := 206) (by decide +kernel))) (by decide +kernel), by decide, by decide, by decide +kernel⟩
set_option maxRecDepth 20000 in
set_option maxHeartbeats 4000000 in
theorem k_L_undo (l : Launch) (D : va_G) (cA : Nat → ClassId) (s0 : State) (z : Nat) (b : Nat) (ν : Mm) (sz : Nat) (hG : xG l D cA s0) (hNc : xNc s0) (ro : Nat) (hro : b + 2628 ≤ ro) (hrz : ro < z) (oc : Nat → Int64)  (r : Thr (Int32 × Mm)) (hF : g_X11_undo ν  = some r) (hk : ∀ k, r = .error k → k = 3) : Met l yL_undo (wsH yL_undo cL_undo 3 (some (FieldType.int)) [(0, 8, 11, 13)]) { frames := 9, cells := 1, slots := 6, locals := 173 } (xP D cA s0 [.ref b, .ref ro] (fun H => H.size = sz ∧ WC D cA s0 z b ν H ∧ oCell cA D ro oc H)) (xQm (some (.int (thC (fun k => if k = 3 then 1 else 0) r))) (fun H => WC D cA s0 z b (thM (fun q => q.2) ν r) H ∧ oCell cA D ro (thO (fun q => q.1.toInt64) oc r) H) (xAL b ro sz)) 1 6 (xAL b ro sz) := by
  refine h_start (own := RL) [(0, .ref b), (1, .ref ro)] rfl rfl (by decide) (nb rfl) ?_
  intro p e s m args below meth c C htab hw
  obtain ⟨hsz, hw, ho⟩ := hw
  subst hsz
  have hS : va_S (xAL b ro s.heap.size) s.heap s.heap [] := va_S.rf
  have hrl : ro < s.heap.size := at_lt ho
  refine x_aload_n C dL_undo_0 rfl ?_
  refine x_iconst (0 : Int32) C dL_undo_1 rfl ?_
  refine x_aload_n C dL_undo_2 rfl ?_
  refine t_goC (fun ls h => t_runV (As := []) [.int (0 : Int32), .ref ro] h C ml_L_180 (k_X11_undo l D cA s0 z b ν _ hG  r hF) ⟨rfl, rfl, nb rfl, nb rfl⟩ rfl (C_PD hw) rfl ⟨rfl, hw⟩ (nb rfl) ⟨nb rfl, nb rfl⟩ dL_undo_3) hS (fun _ h => Or.inl h) (fun k hr H1 locs1 q9 ce hw1 hz1 hk1 hS1 hce hcv hcl ls9 hl9 => ?_) (fun q hr H1 locs1 hw1 hz1 hk1 hS1 => ?_)
  · subst hr
    have ho1 : oCell cA D ro oc H1 := ho.kept (hk1 ro hrl (fun zz => zz.elim (fun g => absurd g.2 (by omega)) (fun g => absurd g (by omega))))
    have hk := hk k rfl
    subst hk
    refine x_catch (k := 3) (hpc := 11) (pre := []) (x := (0, 8, 11, 13)) (suf := []) C hG hNc (by decide) htab (fun z hz => nomatch hz) (by decide) (by decide) lk_13 rfl hce hcv hcl hl9 ?_
    refine x_astore_n [(2, .ref q9), (0, .ref b), (1, .ref ro)] C dL_undo_11 rfl (by decide) rfl ?_
    refine x_iconst (1 : Int32) C dL_undo_12 rfl ?_
    exact x_iretM2 C rfl dL_undo_13 rfl ⟨hw1, ho1⟩ hS1 (nb rfl) (nb rfl)
  · subst hr
    have ho1 : oCell cA D ro oc H1 := ho.kept (hk1 ro hrl (fun zz => zz.elim (fun g => absurd g.2 (by omega)) (fun g => absurd g (by omega))))
    refine x_i2l C dL_undo_6 ?_
    refine x_last0 C ho1 in01 dL_undo_7 hS1 (Or.inr rfl) (fun H2 locs2 ho2 hn2 hz2 hS2 => ?_)
    have hw2 := hw1.out hro hn2 hz2
    refine x_goto 14 C dL_undo_8 (by decide) ?_
    refine x_iconst (0 : Int32) C dL_undo_14 rfl ?_
    exact x_iretM2 C rfl dL_undo_15 rfl ⟨hw2, ho2⟩ hS2 (nb rfl) (nb rfl)
theorem mw_L_writeStatement : ∀ ix, Cond.methodLink RL ix yL_writeStatement ∈ gW → Cond.methodLink RL ix yL_writeStatement ∈ gW ∧ Cond.static yL_writeStatement ∈ gW ∧ Cond.initialized yL_writeStatement.cls ∈ gW ∧ Cond.codeWith yL_writeStatement cL_writeStatement 4 (some (FieldType.int)) [(0, 9, 12, 32)] ∈ gW ∧ yL_writeStatement.cls ≠ "java/lang/invoke/MethodHandle" ∧ yL_writeStatement.cls ≠ "java/lang/invoke/VarHandle" ∧ (parseMethodDescriptor yL_writeStatement.desc).map (fun d => d.parameters.length) = some 3 := fun _ h => ⟨h, gW_in (gT6 (List.mem_of_getElem? (i := 216) (by decide +kernel))) (by decide +kernel), gW_in (gT1 (List.mem_of_getElem? (i := 0) (by decide +kernel))) (by decide +kernel), gW_in (gT6 (List.mem_of_getElem? (i := 217) (by decide +kernel))) (by decide +kernel), by decide, by decide, by decide +kernel⟩
set_option maxRecDepth 20000 in
set_option maxHeartbeats 4000000 in
theorem k_L_writeStatement (l : Launch) (D : va_G) (cA : Nat → ClassId) (s0 : State) (z : Nat) (b : Nat) (ν : Mm) (sz : Nat) (hG : xG l D cA s0) (hNc : xNc s0) (ro : Nat) (hro : b + 2628 ≤ ro) (hrz : ro < z) (oc : Nat → Int64) (a1 : Int32) (r : Thr (Int32 × Mm)) (hF : g_X11_writeStatement ν a1 = some r) (hk : ∀ k, r = .error k → k = 1) : Met l yL_writeStatement (wsH yL_writeStatement cL_writeStatement 4 (some (FieldType.int)) [(0, 9, 12, 32)]) { frames := 10, cells := 1, slots := 6, locals := 196 } (xP D cA s0 [.ref b, .int a1, .ref ro] (fun H => H.size = sz ∧ WC D cA s0 z b ν H ∧ oCell cA D ro oc H)) (xQm (some (.int (thC (fun k => if k = 1 then 1 else 0) r))) (fun H => WC D cA s0 z b (thM (fun q => q.2) ν r) H ∧ oCell cA D ro (thO (fun q => q.1.toInt64) oc r) H) (xAL b ro sz)) 1 6 (xAL b ro sz) := by
  refine h_start (own := RL) [(0, .ref b), (1, .int a1), (2, .ref ro)] rfl rfl (by decide) (nb rfl) ?_
  intro p e s m args below meth c C htab hw
  obtain ⟨hsz, hw, ho⟩ := hw
  subst hsz
  have hS : va_S (xAL b ro s.heap.size) s.heap s.heap [] := va_S.rf
  have hrl : ro < s.heap.size := at_lt ho
  refine x_aload_n C dL_writeStatement_0 rfl ?_
  refine x_iconst (0 : Int32) C dL_writeStatement_1 rfl ?_
  refine x_aload_n C dL_writeStatement_2 rfl ?_
  refine x_iload_n C dL_writeStatement_3 rfl ?_
  refine t_goC (fun ls h => t_runV (As := [.int a1]) [.int (0 : Int32), .ref ro] h C ml_L_184 (k_X11_writeStatement l D cA s0 z b ν _ hG a1 r hF) ⟨rfl, rfl, nb rfl, nb rfl⟩ rfl (C_PD hw) rfl ⟨rfl, hw⟩ (nb rfl) ⟨nb rfl, nb rfl⟩ dL_writeStatement_4) hS (fun _ h => Or.inl h) (fun k hr H1 locs1 q9 ce hw1 hz1 hk1 hS1 hce hcv hcl ls9 hl9 => ?_) (fun q hr H1 locs1 hw1 hz1 hk1 hS1 => ?_)
  · subst hr
    have ho1 : oCell cA D ro oc H1 := ho.kept (hk1 ro hrl (fun zz => zz.elim (fun g => absurd g.2 (by omega)) (fun g => absurd g (by omega))))
    have hk := hk k rfl
    subst hk
    refine x_catch (k := 1) (hpc := 12) (pre := []) (x := (0, 9, 12, 32)) (suf := []) C hG hNc (by decide) htab (fun z hz => nomatch hz) (by decide) (by decide) lk_32 rfl hce hcv hcl hl9 ?_
    refine x_astore_n [(3, .ref q9), (0, .ref b), (1, .int a1), (2, .ref ro)] C dL_writeStatement_12 rfl (by decide) rfl ?_
    refine x_iconst (1 : Int32) C dL_writeStatement_13 rfl ?_
    exact x_iretM2 C rfl dL_writeStatement_14 rfl ⟨hw1, ho1⟩ hS1 (nb rfl) (nb rfl)
  · subst hr
    have ho1 : oCell cA D ro oc H1 := ho.kept (hk1 ro hrl (fun zz => zz.elim (fun g => absurd g.2 (by omega)) (fun g => absurd g (by omega))))
    refine x_i2l C dL_writeStatement_7 ?_
    refine x_last0 C ho1 in01 dL_writeStatement_8 hS1 (Or.inr rfl) (fun H2 locs2 ho2 hn2 hz2 hS2 => ?_)
    have hw2 := hw1.out hro hn2 hz2
    refine x_goto 15 C dL_writeStatement_9 (by decide) ?_
    refine x_iconst (0 : Int32) C dL_writeStatement_15 rfl ?_
    exact x_iretM2 C rfl dL_writeStatement_16 rfl ⟨hw2, ho2⟩ hS2 (nb rfl) (nb rfl)
theorem mw_L_writeInvoice : ∀ ix, Cond.methodLink RL ix yL_writeInvoice ∈ gW → Cond.methodLink RL ix yL_writeInvoice ∈ gW ∧ Cond.static yL_writeInvoice ∈ gW ∧ Cond.initialized yL_writeInvoice.cls ∈ gW ∧ Cond.codeWith yL_writeInvoice cL_writeInvoice 4 (some (FieldType.int)) [(0, 9, 12, 32)] ∈ gW ∧ yL_writeInvoice.cls ≠ "java/lang/invoke/MethodHandle" ∧ yL_writeInvoice.cls ≠ "java/lang/invoke/VarHandle" ∧ (parseMethodDescriptor yL_writeInvoice.desc).map (fun d => d.parameters.length) = some 3 := fun _ h => ⟨h, gW_in (gT7 (List.mem_of_getElem? (i := 11) (by decide +kernel))) (by decide +kernel), gW_in (gT1 (List.mem_of_getElem? (i := 0) (by decide +kernel))) (by decide +kernel), gW_in (gT7 (List.mem_of_getElem? (i := 12) (by decide +kernel))) (by decide +kernel), by decide, by decide, by decide +kernel⟩
set_option maxRecDepth 20000 in
set_option maxHeartbeats 4000000 in
theorem k_L_writeInvoice (l : Launch) (D : va_G) (cA : Nat → ClassId) (s0 : State) (z : Nat) (b : Nat) (ν : Mm) (sz : Nat) (hG : xG l D cA s0) (hNc : xNc s0) (ro : Nat) (hro : b + 2628 ≤ ro) (hrz : ro < z) (oc : Nat → Int64) (a1 : Int32) (r : Thr (Int32 × Mm)) (hF : g_X11_writeInvoice ν a1 = some r) (hk : ∀ k, r = .error k → k = 1) : Met l yL_writeInvoice (wsH yL_writeInvoice cL_writeInvoice 4 (some (FieldType.int)) [(0, 9, 12, 32)]) { frames := 10, cells := 1, slots := 6, locals := 220 } (xP D cA s0 [.ref b, .int a1, .ref ro] (fun H => H.size = sz ∧ WC D cA s0 z b ν H ∧ oCell cA D ro oc H)) (xQm (some (.int (thC (fun k => if k = 1 then 1 else 0) r))) (fun H => WC D cA s0 z b (thM (fun q => q.2) ν r) H ∧ oCell cA D ro (thO (fun q => q.1.toInt64) oc r) H) (xAL b ro sz)) 1 6 (xAL b ro sz) := by
  refine h_start (own := RL) [(0, .ref b), (1, .int a1), (2, .ref ro)] rfl rfl (by decide) (nb rfl) ?_
  intro p e s m args below meth c C htab hw
  obtain ⟨hsz, hw, ho⟩ := hw
  subst hsz
  have hS : va_S (xAL b ro s.heap.size) s.heap s.heap [] := va_S.rf
  have hrl : ro < s.heap.size := at_lt ho
  refine x_aload_n C dL_writeInvoice_0 rfl ?_
  refine x_iconst (0 : Int32) C dL_writeInvoice_1 rfl ?_
  refine x_aload_n C dL_writeInvoice_2 rfl ?_
  refine x_iload_n C dL_writeInvoice_3 rfl ?_
  refine t_goC (fun ls h => t_runV (As := [.int a1]) [.int (0 : Int32), .ref ro] h C ml_L_187 (k_X11_writeInvoice l D cA s0 z b ν _ hG a1 r hF) ⟨rfl, rfl, nb rfl, nb rfl⟩ rfl (C_PD hw) rfl ⟨rfl, hw⟩ (nb rfl) ⟨nb rfl, nb rfl⟩ dL_writeInvoice_4) hS (fun _ h => Or.inl h) (fun k hr H1 locs1 q9 ce hw1 hz1 hk1 hS1 hce hcv hcl ls9 hl9 => ?_) (fun q hr H1 locs1 hw1 hz1 hk1 hS1 => ?_)
  · subst hr
    have ho1 : oCell cA D ro oc H1 := ho.kept (hk1 ro hrl (fun zz => zz.elim (fun g => absurd g.2 (by omega)) (fun g => absurd g (by omega))))
    have hk := hk k rfl
    subst hk
    refine x_catch (k := 1) (hpc := 12) (pre := []) (x := (0, 9, 12, 32)) (suf := []) C hG hNc (by decide) htab (fun z hz => nomatch hz) (by decide) (by decide) lk_32 rfl hce hcv hcl hl9 ?_
    refine x_astore_n [(3, .ref q9), (0, .ref b), (1, .int a1), (2, .ref ro)] C dL_writeInvoice_12 rfl (by decide) rfl ?_
    refine x_iconst (1 : Int32) C dL_writeInvoice_13 rfl ?_
    exact x_iretM2 C rfl dL_writeInvoice_14 rfl ⟨hw1, ho1⟩ hS1 (nb rfl) (nb rfl)
  · subst hr
    have ho1 : oCell cA D ro oc H1 := ho.kept (hk1 ro hrl (fun zz => zz.elim (fun g => absurd g.2 (by omega)) (fun g => absurd g (by omega))))
    refine x_i2l C dL_writeInvoice_7 ?_
    refine x_last0 C ho1 in01 dL_writeInvoice_8 hS1 (Or.inr rfl) (fun H2 locs2 ho2 hn2 hz2 hS2 => ?_)
    have hw2 := hw1.out hro hn2 hz2
    refine x_goto 15 C dL_writeInvoice_9 (by decide) ?_
    refine x_iconst (0 : Int32) C dL_writeInvoice_15 rfl ?_
    exact x_iretM2 C rfl dL_writeInvoice_16 rfl ⟨hw2, ho2⟩ hS2 (nb rfl) (nb rfl)
theorem mw_L_writeTariff : ∀ ix, Cond.methodLink RL ix yL_writeTariff ∈ gW → Cond.methodLink RL ix yL_writeTariff ∈ gW ∧ Cond.static yL_writeTariff ∈ gW ∧ Cond.initialized yL_writeTariff.cls ∈ gW ∧ Cond.codeWith yL_writeTariff cL_writeTariff 4 (some (FieldType.int)) [(0, 9, 12, 32)] ∈ gW ∧ yL_writeTariff.cls ≠ "java/lang/invoke/MethodHandle" ∧ yL_writeTariff.cls ≠ "java/lang/invoke/VarHandle" ∧ (parseMethodDescriptor yL_writeTariff.desc).map (fun d => d.parameters.length) = some 3 := fun _ h => ⟨h, gW_in (gT7 (List.mem_of_getElem? (i := 49) (by decide +kernel))) (by decide +kernel), gW_in (gT1 (List.mem_of_getElem? (i := 0) (by decide +kernel))) (by decide +kernel), gW_in (gT7 (List.mem_of_getElem? (i := 50) (by decide +kernel))) (by decide +kernel), by decide, by decide, by decide +kernel⟩
set_option maxRecDepth 20000 in
set_option maxHeartbeats 4000000 in
theorem k_L_writeTariff (l : Launch) (D : va_G) (cA : Nat → ClassId) (s0 : State) (z : Nat) (b : Nat) (ν : Mm) (sz : Nat) (hG : xG l D cA s0) (hNc : xNc s0) (ro : Nat) (hro : b + 2628 ≤ ro) (hrz : ro < z) (oc : Nat → Int64) (a1 : Int32) (r : Thr (Int32 × Mm)) (hF : g_X11_writeTariff ν a1 = some r) (hk : ∀ k, r = .error k → k = 1) : Met l yL_writeTariff (wsH yL_writeTariff cL_writeTariff 4 (some (FieldType.int)) [(0, 9, 12, 32)]) { frames := 9, cells := 1, slots := 6, locals := 175 } (xP D cA s0 [.ref b, .int a1, .ref ro] (fun H => H.size = sz ∧ WC D cA s0 z b ν H ∧ oCell cA D ro oc H)) (xQm (some (.int (thC (fun k => if k = 1 then 1 else 0) r))) (fun H => WC D cA s0 z b (thM (fun q => q.2) ν r) H ∧ oCell cA D ro (thO (fun q => q.1.toInt64) oc r) H) (xAL b ro sz)) 1 6 (xAL b ro sz) := by
  refine h_start (own := RL) [(0, .ref b), (1, .int a1), (2, .ref ro)] rfl rfl (by decide) (nb rfl) ?_
  intro p e s m args below meth c C htab hw
  obtain ⟨hsz, hw, ho⟩ := hw
  subst hsz
  have hS : va_S (xAL b ro s.heap.size) s.heap s.heap [] := va_S.rf
  have hrl : ro < s.heap.size := at_lt ho
  refine x_aload_n C dL_writeTariff_0 rfl ?_
  refine x_iconst (0 : Int32) C dL_writeTariff_1 rfl ?_
  refine x_aload_n C dL_writeTariff_2 rfl ?_
  refine x_iload_n C dL_writeTariff_3 rfl ?_
  refine t_goC (fun ls h => t_runV (As := [.int a1]) [.int (0 : Int32), .ref ro] h C ml_L_190 (k_X11_writeTariff l D cA s0 z b ν _ hG a1 r hF) ⟨rfl, rfl, nb rfl, nb rfl⟩ rfl (C_PD hw) rfl ⟨rfl, hw⟩ (nb rfl) ⟨nb rfl, nb rfl⟩ dL_writeTariff_4) hS (fun _ h => Or.inl h) (fun k hr H1 locs1 q9 ce hw1 hz1 hk1 hS1 hce hcv hcl ls9 hl9 => ?_) (fun q hr H1 locs1 hw1 hz1 hk1 hS1 => ?_)
  · subst hr
    have ho1 : oCell cA D ro oc H1 := ho.kept (hk1 ro hrl (fun zz => zz.elim (fun g => absurd g.2 (by omega)) (fun g => absurd g (by omega))))
    have hk := hk k rfl
    subst hk
    refine x_catch (k := 1) (hpc := 12) (pre := []) (x := (0, 9, 12, 32)) (suf := []) C hG hNc (by decide) htab (fun z hz => nomatch hz) (by decide) (by decide) lk_32 rfl hce hcv hcl hl9 ?_
    refine x_astore_n [(3, .ref q9), (0, .ref b), (1, .int a1), (2, .ref ro)] C dL_writeTariff_12 rfl (by decide) rfl ?_
    refine x_iconst (1 : Int32) C dL_writeTariff_13 rfl ?_
    exact x_iretM2 C rfl dL_writeTariff_14 rfl ⟨hw1, ho1⟩ hS1 (nb rfl) (nb rfl)
  · subst hr
    have ho1 : oCell cA D ro oc H1 := ho.kept (hk1 ro hrl (fun zz => zz.elim (fun g => absurd g.2 (by omega)) (fun g => absurd g (by omega))))
    refine x_i2l C dL_writeTariff_7 ?_
    refine x_last0 C ho1 in01 dL_writeTariff_8 hS1 (Or.inr rfl) (fun H2 locs2 ho2 hn2 hz2 hS2 => ?_)
    have hw2 := hw1.out hro hn2 hz2
    refine x_goto 15 C dL_writeTariff_9 (by decide) ?_
    refine x_iconst (0 : Int32) C dL_writeTariff_15 rfl ?_
    exact x_iretM2 C rfl dL_writeTariff_16 rfl ⟨hw2, ho2⟩ hS2 (nb rfl) (nb rfl)
theorem mw_L_bestDay : ∀ ix, Cond.methodLink RL ix yL_bestDay ∈ gW → Cond.methodLink RL ix yL_bestDay ∈ gW ∧ Cond.static yL_bestDay ∈ gW ∧ Cond.initialized yL_bestDay.cls ∈ gW ∧ Cond.codeWith yL_bestDay cL_bestDay 8 (some (FieldType.int)) [(0, 16, 19, 32), (0, 16, 23, 19)] ∈ gW ∧ yL_bestDay.cls ≠ "java/lang/invoke/MethodHandle" ∧ yL_bestDay.cls ≠ "java/lang/invoke/VarHandle" ∧ (parseMethodDescriptor yL_bestDay.desc).map (fun d => d.parameters.length) = some 7 := fun _ h => ⟨h, gW_in (gT7 (List.mem_of_getElem? (i := 77) (by decide +kernel))) (by decide +kernel), gW_in (gT1 (List.mem_of_getElem? (i := 0) (by decide +kernel))) (by decide +kernel), gW_in (gT7 (List.mem_of_getElem? (i := 78) (by decide +kernel))) (by decide +kernel), by decide, by decide, by decide +kernel⟩
set_option maxRecDepth 20000 in
set_option maxHeartbeats 4000000 in
theorem k_L_bestDay (l : Launch) (D : va_G) (cA : Nat → ClassId) (s0 : State) (z : Nat) (b : Nat) (ν : Mm) (sz : Nat) (hG : xG l D cA s0) (hNc : xNc s0) (ro : Nat) (hro : b + 2628 ≤ ro) (hrz : ro < z) (oc : Nat → Int64) (a1 : Int32) (a2 : Int32) (a3 : Int32) (a4 : Int32) (a5 : Int32) (r : Thr Int32) (hF : g_X11_bestDay ν a1 a2 a3 a4 a5 = some r) (hk : ∀ k, r = .error k → k = 1 ∨ k = 2) : Met l yL_bestDay (wsH yL_bestDay cL_bestDay 8 (some (FieldType.int)) [(0, 16, 19, 32), (0, 16, 23, 19)]) { frames := 10, cells := 5, slots := 30, locals := 204 } (xP D cA s0 [.ref b, .int a1, .int a2, .int a3, .int a4, .int a5, .ref ro] (fun H => H.size = sz ∧ WC D cA s0 z b ν H ∧ oCell cA D ro oc H)) (xQm (some (.int (thC (fun k => if k = 1 then 1 else if k = 2 then 2 else 0) r))) (fun H => WC D cA s0 z b (thM (fun _ => ν) ν r) H ∧ oCell cA D ro (thO (fun q => q.toInt64) oc r) H) (xAL b ro sz)) 5 30 (xAL b ro sz) := by
  refine h_start (own := RL) [(0, .ref b), (1, .int a1), (2, .int a2), (3, .int a3), (4, .int a4), (5, .int a5), (6, .ref ro)] rfl rfl (by decide) (nb rfl) ?_
  intro p e s m args below meth c C htab hw
  obtain ⟨hsz, hw, ho⟩ := hw
  subst hsz
  have hS : va_S (xAL b ro s.heap.size) s.heap s.heap [] := va_S.rf
  have hrl : ro < s.heap.size := at_lt ho
  refine x_aload C dL_bestDay_0 rfl ?_
  refine x_iconst (0 : Int32) C dL_bestDay_2 rfl ?_
  refine x_aload_n C dL_bestDay_3 rfl ?_
  refine x_iload_n C dL_bestDay_4 rfl ?_
  refine x_iload_n C dL_bestDay_5 rfl ?_
  refine x_iload_n C dL_bestDay_6 rfl ?_
  refine x_iload C dL_bestDay_7 rfl ?_
  refine x_iload C dL_bestDay_9 rfl ?_
  refine t_goC (fun ls h => t_runV (As := [.int a1, .int a2, .int a3, .int a4, .int a5]) [.int (0 : Int32), .ref ro] h C ml_L_193 (k_X11_bestDay l D cA s0 z b ν _ hG a1 a2 a3 a4 a5 r hF) ⟨rfl, rfl, nb rfl, nb rfl⟩ rfl (C_PD hw) rfl ⟨rfl, hw⟩ (nb rfl) ⟨nb rfl, nb rfl⟩ dL_bestDay_11) hS (fun _ h => Or.inl h) (fun k hr H1 locs1 q9 ce hw1 hz1 hk1 hS1 hce hcv hcl ls9 hl9 => ?_) (fun q hr H1 locs1 hw1 hz1 hk1 hS1 => ?_)
  · subst hr
    have ho1 : oCell cA D ro oc H1 := ho.kept (hk1 ro hrl (fun zz => zz.elim (fun g => absurd g.2 (by omega)) (fun g => absurd g (by omega))))
    rcases hk k rfl with rfl | rfl
    · refine x_catch (k := 1) (hpc := 19) (pre := []) (x := (0, 16, 19, 32)) (suf := [(0, 16, 23, 19)]) C hG hNc (by decide) htab (fun z hz => nomatch hz) (by decide) (by decide) lk_32 rfl hce hcv hcl hl9 ?_
      refine x_astore [(7, .ref q9), (0, .ref b), (1, .int a1), (2, .int a2), (3, .int a3), (4, .int a4), (5, .int a5), (6, .ref ro)] C dL_bestDay_19 (by decide) rfl ?_
      refine x_iconst (1 : Int32) C dL_bestDay_21 rfl ?_
      exact x_iretM2 C rfl dL_bestDay_22 rfl ⟨hw1, ho1⟩ hS1 (nb rfl) (nb rfl)
    · refine x_catch (k := 2) (hpc := 23) (pre := [(0, 16, 19, 32)]) (x := (0, 16, 23, 19)) (suf := []) C hG hNc (by decide) htab (fun z hz => by
        simp only [List.mem_cons, List.not_mem_nil, or_false] at hz
        rcases hz with rfl
        · exact ⟨by decide, 1, by decide, by decide, lk_32⟩) (by decide) (by decide) lk_19 rfl hce hcv hcl hl9 ?_
      refine x_astore [(7, .ref q9), (0, .ref b), (1, .int a1), (2, .int a2), (3, .int a3), (4, .int a4), (5, .int a5), (6, .ref ro)] C dL_bestDay_23 (by decide) rfl ?_
      refine x_iconst (2 : Int32) C dL_bestDay_25 rfl ?_
      exact x_iretM2 C rfl dL_bestDay_26 rfl ⟨hw1, ho1⟩ hS1 (nb rfl) (nb rfl)
  · subst hr
    have ho1 : oCell cA D ro oc H1 := ho.kept (hk1 ro hrl (fun zz => zz.elim (fun g => absurd g.2 (by omega)) (fun g => absurd g (by omega))))
    refine x_i2l C dL_bestDay_14 ?_
    refine x_last0 C ho1 in01 dL_bestDay_15 hS1 (Or.inr rfl) (fun H2 locs2 ho2 hn2 hz2 hS2 => ?_)
    have hw2 := hw1.out hro hn2 hz2
    refine x_goto 27 C dL_bestDay_16 (by decide) ?_
    refine x_iconst (0 : Int32) C dL_bestDay_27 rfl ?_
    exact x_iretM2 C rfl dL_bestDay_28 rfl ⟨hw2, ho2⟩ hS2 (nb rfl) (nb rfl)
theorem mw_L_outputByte : ∀ ix, Cond.methodLink RL ix yL_outputByte ∈ gW → Cond.methodLink RL ix yL_outputByte ∈ gW ∧ Cond.static yL_outputByte ∈ gW ∧ Cond.initialized yL_outputByte.cls ∈ gW ∧ Cond.codeWith yL_outputByte cL_outputByte 4 (some (FieldType.int)) [(0, 9, 12, 32)] ∈ gW ∧ yL_outputByte.cls ≠ "java/lang/invoke/MethodHandle" ∧ yL_outputByte.cls ≠ "java/lang/invoke/VarHandle" ∧ (parseMethodDescriptor yL_outputByte.desc).map (fun d => d.parameters.length) = some 3 := fun _ h => ⟨h, gW_in (gT7 (List.mem_of_getElem? (i := 89) (by decide +kernel))) (by decide +kernel), gW_in (gT1 (List.mem_of_getElem? (i := 0) (by decide +kernel))) (by decide +kernel), gW_in (gT7 (List.mem_of_getElem? (i := 90) (by decide +kernel))) (by decide +kernel), by decide, by decide, by decide +kernel⟩
set_option maxRecDepth 20000 in
set_option maxHeartbeats 4000000 in
theorem k_L_outputByte (l : Launch) (D : va_G) (cA : Nat → ClassId) (s0 : State) (z : Nat) (b : Nat) (ν : Mm) (sz : Nat) (hG : xG l D cA s0) (hNc : xNc s0) (ro : Nat) (hro : b + 2628 ≤ ro) (hrz : ro < z) (oc : Nat → Int64) (a1 : Int32) (r : Thr Int32) (hF : g_X11_outputByte ν a1 = some r) (hk : ∀ k, r = .error k → k = 1) : Met l yL_outputByte (wsH yL_outputByte cL_outputByte 4 (some (FieldType.int)) [(0, 9, 12, 32)]) { frames := 9, cells := 1, slots := 6, locals := 175 } (xP D cA s0 [.ref b, .int a1, .ref ro] (fun H => H.size = sz ∧ WC D cA s0 z b ν H ∧ oCell cA D ro oc H)) (xQm (some (.int (thC (fun k => if k = 1 then 1 else 0) r))) (fun H => WC D cA s0 z b (thM (fun _ => ν) ν r) H ∧ oCell cA D ro (thO (fun q => q.toInt64) oc r) H) (xAL b ro sz)) 1 6 (xAL b ro sz) := by
  refine h_start (own := RL) [(0, .ref b), (1, .int a1), (2, .ref ro)] rfl rfl (by decide) (nb rfl) ?_
  intro p e s m args below meth c C htab hw
  obtain ⟨hsz, hw, ho⟩ := hw
  subst hsz
  have hS : va_S (xAL b ro s.heap.size) s.heap s.heap [] := va_S.rf
  have hrl : ro < s.heap.size := at_lt ho
  refine x_aload_n C dL_outputByte_0 rfl ?_
  refine x_iconst (0 : Int32) C dL_outputByte_1 rfl ?_
  refine x_aload_n C dL_outputByte_2 rfl ?_
  refine x_iload_n C dL_outputByte_3 rfl ?_
  refine t_goC (fun ls h => t_runV (As := [.int a1]) [.int (0 : Int32), .ref ro] h C ml_L_196 (k_X11_outputByte l D cA s0 z b ν _ hG a1 r hF) ⟨rfl, rfl, nb rfl, nb rfl⟩ rfl (C_PD hw) rfl ⟨rfl, hw⟩ (nb rfl) ⟨nb rfl, nb rfl⟩ dL_outputByte_4) hS (fun _ h => Or.inl h) (fun k hr H1 locs1 q9 ce hw1 hz1 hk1 hS1 hce hcv hcl ls9 hl9 => ?_) (fun q hr H1 locs1 hw1 hz1 hk1 hS1 => ?_)
  · subst hr
    have ho1 : oCell cA D ro oc H1 := ho.kept (hk1 ro hrl (fun zz => zz.elim (fun g => absurd g.2 (by omega)) (fun g => absurd g (by omega))))
    have hk := hk k rfl
    subst hk
    refine x_catch (k := 1) (hpc := 12) (pre := []) (x := (0, 9, 12, 32)) (suf := []) C hG hNc (by decide) htab (fun z hz => nomatch hz) (by decide) (by decide) lk_32 rfl hce hcv hcl hl9 ?_
    refine x_astore_n [(3, .ref q9), (0, .ref b), (1, .int a1), (2, .ref ro)] C dL_outputByte_12 rfl (by decide) rfl ?_
    refine x_iconst (1 : Int32) C dL_outputByte_13 rfl ?_
    exact x_iretM2 C rfl dL_outputByte_14 rfl ⟨hw1, ho1⟩ hS1 (nb rfl) (nb rfl)
  · subst hr
    have ho1 : oCell cA D ro oc H1 := ho.kept (hk1 ro hrl (fun zz => zz.elim (fun g => absurd g.2 (by omega)) (fun g => absurd g (by omega))))
    refine x_i2l C dL_outputByte_7 ?_
    refine x_last0 C ho1 in01 dL_outputByte_8 hS1 (Or.inr rfl) (fun H2 locs2 ho2 hn2 hz2 hS2 => ?_)
    have hw2 := hw1.out hro hn2 hz2
    refine x_goto 15 C dL_outputByte_9 (by decide) ?_
    refine x_iconst (0 : Int32) C dL_outputByte_15 rfl ?_
    exact x_iretM2 C rfl dL_outputByte_16 rfl ⟨hw2, ho2⟩ hS2 (nb rfl) (nb rfl)
