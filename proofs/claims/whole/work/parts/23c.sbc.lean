/-! The JDK own code of StringBuilder: contracts. -/
/-- a StringBuilder with room for 16 letters, n of them taken -/
def SbH (D : va_G) (cA : Nat → ClassId) (s0 : State) (q v n : Nat) (g : Nat → Int32) (H : Heap) : Prop := extS s0 H ∧ va_at D xcl (q, .inr (14, [.ref v, .int 0, .int 0, .int (nI n)])) H ∧ va_at D xcl (v, .inl (cA 2, 16, .inl g)) H ∧ q ≠ v ∧ s0.heap.size ≤ q ∧ s0.heap.size ≤ v
theorem sb_grow {A : Nat → Prop} {H0 H H1 : Heap} {locs : List Loc} (hS : va_S A H0 H locs) (hz : H1.size = H.size + 1) (ho : ∀ q : Nat, q < H.size → H1[q]? = H[q]?) : va_S A H0 H1 locs :=
  ⟨by have := hS.1; omega, fun q h1 h2 => (ho q (Nat.lt_of_lt_of_le h1 hS.1)).trans (hS.2.1 q h1 h2), hS.2.2⟩
theorem sb_ext {s0 : State} {H H1 : Heap} (h : extS s0 H) (hz : H.size ≤ H1.size) (ho : ∀ q : Nat, q < s0.heap.size → H1[q]? = H[q]?) : extS s0 H1 := ⟨Nat.le_trans h.1 hz, fun q hq => (ho q hq).trans (h.2 q hq)⟩
theorem sb_d {d : Nat} (h : d < 128) : (nI d).toInt8.toInt32 = nI d ∧ vp_nar .byte (nI d) = nI d ∧ ¬ (255 : Int32) < nI d ∧ fits .byte (.int (nI d)) = true := by
  have h1 : ∀ d, d < 128 → ((nI d).toInt8.toInt32 = nI d ∧ vp_nar .byte (nI d) = nI d ∧ ¬ (255 : Int32) < nI d ∧ fits .byte (.int (nI d)) = true) := by decide +kernel
  exact h1 d h
set_option maxRecDepth 20000 in
set_option maxHeartbeats 4000000 in
theorem kJ_isLatin1 (l : Launch) (D : va_G) (cA : Nat → ClassId) (s0 : State) (hZ : xSt s0) (q v n : Nat) (g : Nat → Int32) : Met l yJ5_isLatin1_aae02 (wsG yJ5_isLatin1_aae02 cJ5_isLatin1_aae02 1 (some .boolean)) { frames := 0, cells := 0, slots := 0, locals := 0 } (xP D cA s0 [.ref q] (SbH D cA s0 q v n g)) (xQr (some (.int 1))) 0 0 xN := by
  refine x_start (own := RJ5) [(0, .ref q)] rfl rfl (by decide) (nb rfl) ?_
  intro p e s m args below meth c C hw
  refine x_gets C hZ.1 hw.1 flw_J5_18 dJ5_isLatin1_aae02_0 ?_
  refine x_if_eq 17 C dJ5_isLatin1_aae02_3 (by decide) (fun z => absurd z (by decide)) (fun _ => ?_)
  refine x_aload_n C dJ5_isLatin1_aae02_6 rfl ?_
  refine x_get (.int 0) C fl_J5_22 hw.2.1 rfl dJ5_isLatin1_aae02_7 ?_
  refine x_if_ne 17 C dJ5_isLatin1_aae02_10 (by decide) (fun z => absurd rfl z) (fun _ => ?_)
  refine x_iconst (1 : Int32) C dJ5_isLatin1_aae02_13 rfl ?_
  refine x_goto 18 C dJ5_isLatin1_aae02_14 (by decide) ?_
  exact x_zretR C rfl dJ5_isLatin1_aae02_18 rfl rfl
set_option maxRecDepth 20000 in
set_option maxHeartbeats 4000000 in
theorem kJ_canEncode (l : Launch) (D : va_G) (cA : Nat → ClassId) (s0 : State) {d : Nat} (hd : d < 128) : Met l yJ1_canEncode_fc78d (wsG yJ1_canEncode_fc78d cJ1_canEncode_fc78d 1 (some .boolean)) { frames := 0, cells := 0, slots := 0, locals := 0 } (xP D cA s0 [.int (nI d)] (fun _ => True)) (xQr (some (.int 1))) 0 0 xN := by
  refine x_start (own := RJ1) [(0, .int (nI d))] rfl rfl (by decide) (nb rfl) ?_
  intro p e s m args below meth c C hw
  refine x_iload_n C dJ1_canEncode_fc78d_0 rfl ?_
  refine x_sipush (255 : Int32) C dJ1_canEncode_fc78d_1 rfl ?_
  refine x_icmp_gt 11 C dJ1_canEncode_fc78d_4 (by decide) (fun z => absurd z (sb_d hd).2.2.1) (fun _ => ?_)
  refine x_iconst (1 : Int32) C dJ1_canEncode_fc78d_7 rfl ?_
  refine x_goto 12 C dJ1_canEncode_fc78d_8 (by decide) ?_
  exact x_zretR C rfl dJ1_canEncode_fc78d_12 rfl rfl
set_option maxRecDepth 20000 in
set_option maxHeartbeats 4000000 in
theorem kJ_ens (l : Launch) (D : va_G) (cA : Nat → ClassId) (s0 : State) (q v n : Nat) (g : Nat → Int32) {w : Nat} (hw16 : w ≤ 16) : Met l yJ5_ensureCapacityInternal_d00df (wsG yJ5_ensureCapacityInternal_d00df cJ5_ensureCapacityInternal_d00df 3 none) { frames := 0, cells := 0, slots := 0, locals := 0 } (xP D cA s0 [.ref q, .int (nI w)] (SbH D cA s0 q v n g)) (xQr none) 0 0 xN := by
  refine x_start (own := RJ5) [(0, .ref q), (1, .int (nI w))] rfl rfl (by decide) (nb rfl) ?_
  intro p e s m args below meth c C hw
  refine x_aload_n C dJ5_ensureCapacityInternal_d00df_0 rfl ?_
  refine x_get (.ref v) C fl_J5_15 hw.2.1 rfl dJ5_ensureCapacityInternal_d00df_1 ?_
  refine x_alen (nI 16) C hw.2.2.1 rfl rfl dJ5_ensureCapacityInternal_d00df_4 ?_
  refine x_aload_n C dJ5_ensureCapacityInternal_d00df_5 rfl ?_
  refine x_get (.int 0) C fl_J5_22 hw.2.1 rfl dJ5_ensureCapacityInternal_d00df_6 ?_
  refine x_ishr C dJ5_ensureCapacityInternal_d00df_9 ?_
  refine x_istore_n [(2, .int (nI 16)), (0, .ref q), (1, .int (nI w))] C dJ5_ensureCapacityInternal_d00df_10 rfl (by decide) rfl ?_
  refine x_iload_n C dJ5_ensureCapacityInternal_d00df_11 rfl ?_
  refine x_iload_n C dJ5_ensureCapacityInternal_d00df_12 rfl ?_
  refine x_isub C dJ5_ensureCapacityInternal_d00df_13 ?_
  have h1 : ∀ w, w ≤ 16 → nI w - nI 16 ≤ 0 := by decide +kernel
  refine x_if_le 38 C dJ5_ensureCapacityInternal_d00df_14 (by decide) (fun _ => ?_) (fun z => absurd (h1 w hw16) z)
  exact x_vretR C rfl dJ5_ensureCapacityInternal_d00df_38 rfl
set_option maxRecDepth 20000 in
set_option maxHeartbeats 4000000 in
theorem kJ_append5 (l : Launch) (D : va_G) (cA : Nat → ClassId) (s0 : State) (hZ : xSt s0) (q v n : Nat) (g : Nat → Int32) (hn : n < 16) {d : Nat} (hd : d < 128) : Met l yJ5_append_3fe6f (wsG yJ5_append_3fe6f cJ5_append_3fe6f 2 (some (.object "java/lang/AbstractStringBuilder"))) { frames := 1, cells := 0, slots := 0, locals := 22 } (xP D cA s0 [.ref q, .int (nI d)] (SbH D cA s0 q v n g)) (xQm (some (.ref q)) (SbH D cA s0 q v (n + 1) (upd g n (nI d))) (fun a => a = q ∨ a = v)) 0 0 (fun a => a = q ∨ a = v) := by
  refine x_start (own := RJ5) [(0, .ref q), (1, .int (nI d))] rfl rfl (by decide) (nb rfl) ?_
  intro p e s m args below meth c C hw
  have hS : va_S (fun a => a = q ∨ a = v) s.heap s.heap [] := va_S.rf
  have hsel := sel_private (C := "java/lang/StringBuilder") (n := 4) (y := yJ5_ensureCapacityInternal_d00df) (by decide) (C.2.2.2.2.2.1 _ mu_J5_100.2.1) (C.2.2.2.2.2.1 _ in_J4) (pv_at (args := args) hZ.2.2 C.2.2.2.2.2.2.2.2.2) (C.2.2.2.2.2.1 _ mu_J5_100.2.2.1)
  refine x_aload_n C dJ5_append_3fe6f_0 rfl ?_
  refine x_aload_n C dJ5_append_3fe6f_1 rfl ?_
  refine x_get (.int (nI n)) C fl_J5_79 hw.2.1 rfl dJ5_append_3fe6f_2 ?_
  refine x_iconst (1 : Int32) C dJ5_append_3fe6f_5 rfl ?_
  refine x_iadd C dJ5_append_3fe6f_6 ?_
  refine x_topi (nI (n + 1)) (nI_1 n) ?_
  refine x_goR (fun ls h => x_runU (As := [.int (nI (n + 1))]) [] h C mu_J5_100 hsel (kJ_ens l D cA s0 q v n g (by omega)) ⟨rfl, rfl, nb rfl, nb rfl⟩ rfl hw.2.1 rfl hw (nb rfl) ⟨Nat.zero_le _, Nat.zero_le _⟩ dJ5_append_3fe6f_7) ?_
  refine x_aload_n C dJ5_append_3fe6f_10 rfl ?_
  refine x_goR (fun ls h => x_runU (As := []) [] h C mu_J5_83 (C.2.2.2.2.2.1 _ se_isLatin1) (kJ_isLatin1 l D cA s0 hZ q v n g) ⟨rfl, rfl, nb rfl, nb rfl⟩ rfl hw.2.1 rfl hw (nb rfl) ⟨Nat.zero_le _, Nat.zero_le _⟩ dJ5_append_3fe6f_11) ?_
  refine x_if_eq 45 C dJ5_append_3fe6f_14 (by decide) (fun z => absurd z (by decide)) (fun _ => ?_)
  refine x_iload_n C dJ5_append_3fe6f_17 rfl ?_
  refine x_goR (fun ls h => x_runS (As := [.int (nI d)]) [] h C ml_J5_191 (kJ_canEncode l D cA s0 hd) ⟨rfl, rfl, nb rfl, nb rfl⟩ rfl trivial (nb rfl) ⟨Nat.zero_le _, Nat.zero_le _⟩ dJ5_append_3fe6f_18) ?_
  refine x_if_eq 45 C dJ5_append_3fe6f_21 (by decide) (fun z => absurd z (by decide)) (fun _ => ?_)
  refine x_aload_n C dJ5_append_3fe6f_24 rfl ?_
  refine x_get (.ref v) C fl_J5_15 hw.2.1 rfl dJ5_append_3fe6f_25 ?_
  refine x_aload_n C dJ5_append_3fe6f_28 rfl ?_
  refine x_dup C dJ5_append_3fe6f_29 rfl ?_
  refine x_get (.int (nI n)) C fl_J5_79 hw.2.1 rfl dJ5_append_3fe6f_30 ?_
  refine x_dup_x1 C dJ5_append_3fe6f_33 rfl rfl ?_
  refine x_iconst (1 : Int32) C dJ5_append_3fe6f_34 rfl ?_
  refine x_iadd C dJ5_append_3fe6f_35 ?_
  refine x_topi (nI (n + 1)) (nI_1 n) ?_
  obtain ⟨hx, hq, hv, hne, hbq, hbv⟩ := hw
  refine x_put0 C fl_J5_79 hq rfl rfl rfl (nb rfl) dJ5_append_3fe6f_36 hS (Or.inl rfl) (fun H1 locs1 h1 h2 h3 hS => ?_)
  have hv1 := hv.kept (h2 v (fun z => hne z.symm))
  refine x_iload_n C dJ5_append_3fe6f_39 rfl ?_
  refine x_i2b C dJ5_append_3fe6f_40 ?_
  refine x_topi (nI d) (sb_d hd).1 ?_
  refine x_bast0 C hv1 (vp_in_nI hn (by decide)) dJ5_append_3fe6f_41 hS (Or.inr rfl) (fun H2 locs2 g1 g2 g3 hS => ?_)
  rw [nI_clamp (by omega), (sb_d hd).2.1] at g1
  refine x_goto 75 C dJ5_append_3fe6f_42 (by decide) ?_
  refine x_aload_n C dJ5_append_3fe6f_75 rfl ?_
  refine x_aretM C rfl dJ5_append_3fe6f_76 (Or.inl ⟨_, rfl⟩) rfl ⟨sb_ext hx (by omega) (fun r hr => (g2 r (by omega)).trans (h2 r (by omega))), h1.kept (g2 q hne), g1, hne, hbq, hbv⟩ hS
set_option maxRecDepth 20000 in
set_option maxHeartbeats 4000000 in
theorem kJ_append4 (l : Launch) (D : va_G) (cA : Nat → ClassId) (s0 : State) (hZ : xSt s0) (q v n : Nat) (g : Nat → Int32) (hn : n < 16) {d : Nat} (hd : d < 128) : Met l yJ4_append_cf468 (wsG yJ4_append_cf468 cJ4_append_cf468 2 (some (.object "java/lang/StringBuilder"))) { frames := 2, cells := 0, slots := 0, locals := 43 } (xP D cA s0 [.ref q, .int (nI d)] (SbH D cA s0 q v n g)) (xQm (some (.ref q)) (SbH D cA s0 q v (n + 1) (upd g n (nI d))) (fun a => a = q ∨ a = v)) 0 0 (fun a => a = q ∨ a = v) := by
  refine x_start (own := RJ4) [(0, .ref q), (1, .int (nI d))] rfl rfl (by decide) (nb rfl) ?_
  intro p e s m args below meth c C hw
  have hS : va_S (fun a => a = q ∨ a = v) s.heap s.heap [] := va_S.rf
  refine x_aload_n C dJ4_append_cf468_0 rfl ?_
  refine x_iload_n C dJ4_append_cf468_1 rfl ?_
  refine x_goM (fun ls h => x_runSU (As := [.int (nI d)]) [] h C mu_J4_50 su_J4 (by decide) (kJ_append5 l D cA s0 hZ q v n g hn hd) ⟨rfl, rfl, nb rfl, nb rfl⟩ rfl hw.2.1 rfl hw (nb rfl) ⟨Nat.zero_le _, Nat.zero_le _⟩ dJ4_append_cf468_2) hS (fun _ h => h) (fun H1 locs1 h1 h2 h3 hS => ?_)
  refine x_pop C dJ4_append_cf468_5 rfl ?_
  refine x_aload_n C dJ4_append_cf468_6 rfl ?_
  exact x_aretM C rfl dJ4_append_cf468_7 (Or.inl ⟨_, rfl⟩) rfl h1 hS
set_option maxRecDepth 20000 in
set_option maxHeartbeats 4000000 in
theorem kJ_init5 (l : Launch) (D : va_G) (cA : Nat → ClassId) (s0 : State) (hZ : xSt s0) (q : Nat) (hq : s0.heap.size ≤ q) : Met l yJ5_init_d00df (wsG yJ5_init_d00df cJ5_init_d00df 2 none) { frames := 1, cells := 1, slots := 16, locals := 14 } (xP D cA s0 [.ref q, .int (nI 16)] (fun H => extS s0 H ∧ va_at D xcl (q, .inr (14, [.null, .int 0, .int 0, .int 0])) H ∧ H.size = q + 1)) (xQm none (fun H => SbH D cA s0 q (q + 1) 0 (fun _ => 0) H ∧ H.size = q + 2) (fun a => q ≤ a)) 1 16 (fun a => q ≤ a) := by
  refine i_start (own := RJ5) [(0, .ref q), (1, .int (nI 16))] rfl rfl (by decide) (nb rfl) ?_
  intro p e s m args below meth c C hin hw
  obtain ⟨hx, ho, hz⟩ := hw
  have hS : va_S (fun a => q ≤ a) s.heap s.heap [] := va_S.rf
  refine x_aload_n C dJ5_init_d00df_0 rfl ?_
  refine x_obj C oi_J5_3 oi_i oi_c (nb rfl) (nb rfl) dJ5_init_d00df_1 ?_
  refine x_gets C hZ.1 hx flw_J5_18 dJ5_init_d00df_4 ?_
  refine x_if_eq 25 C dJ5_init_d00df_7 (by decide) (fun z => absurd z (by decide)) (fun _ => ?_)
  refine x_aload_n C dJ5_init_d00df_10 rfl ?_
  refine x_iload_n C dJ5_init_d00df_11 rfl ?_
  refine x_newaB (N := 16) C ar_byte rfl (by decide) (nb rfl) (nb rfl) dJ5_init_d00df_12 (fun H1 h1 z1 o1 => ?_)
  have hS := sb_grow hS z1 o1
  rw [hz] at h1 ⊢
  have ho := ho.kept (o1 q (by omega))
  refine x_put0 C fl_J5_15 ho rfl rfl rfl (nb rfl) dJ5_init_d00df_14 hS (Nat.le_refl q) (fun H2 locs2 h2 o2 z2 hS => ?_)
  refine x_aload_n C dJ5_init_d00df_17 rfl ?_
  refine x_iconst (0 : Int32) C dJ5_init_d00df_18 rfl ?_
  refine x_put0 C fl_J5_22 h2 rfl rfl rfl (nb rfl) dJ5_init_d00df_19 hS (Nat.le_refl q) (fun H3 locs3 h3 o3 z3 hS => ?_)
  refine x_goto 38 C dJ5_init_d00df_22 (by decide) ?_
  refine x_vretM2 C rfl dJ5_init_d00df_38 rfl ⟨⟨sb_ext hx (by omega) (fun r hr => (o3 r (by omega)).trans ((o2 r (by omega)).trans (o1 r (by omega)))), h3, (h1.kept (o2 (q + 1) (by omega))).kept (o3 (q + 1) (by omega)), by omega, hq, by omega⟩, by omega⟩ hS (nb rfl) (nb rfl)
set_option maxRecDepth 20000 in
set_option maxHeartbeats 4000000 in
theorem kJ_init4 (l : Launch) (D : va_G) (cA : Nat → ClassId) (s0 : State) (hZ : xSt s0) (q : Nat) (hq : s0.heap.size ≤ q) : Met l yJ4_init_da8c8 (wsG yJ4_init_da8c8 cJ4_init_da8c8 1 none) { frames := 2, cells := 1, slots := 16, locals := 35 } (xP D cA s0 [.ref q] (fun H => extS s0 H ∧ va_at D xcl (q, .inr (14, [.null, .int 0, .int 0, .int 0])) H ∧ H.size = q + 1)) (xQm none (fun H => SbH D cA s0 q (q + 1) 0 (fun _ => 0) H ∧ H.size = q + 2) (fun a => q ≤ a)) 1 16 (fun a => q ≤ a) := by
  refine i_start (own := RJ4) [(0, .ref q)] rfl rfl (by decide) (nb rfl) ?_
  intro p e s m args below meth c C hin hw
  have hS : va_S (fun a => q ≤ a) s.heap s.heap [] := va_S.rf
  refine x_aload_n C dJ4_init_da8c8_0 rfl ?_
  refine x_bipush (nI 16) C dJ4_init_da8c8_1 rfl ?_
  refine x_goM (fun ls h => x_runI (As := [.int (nI 16)]) [] h C mi_J4_1 (kJ_init5 l D cA s0 hZ q hq) ⟨rfl, rfl, nb rfl, nb rfl⟩ rfl hw (nb rfl) ⟨nb rfl, nb rfl⟩ dJ4_init_da8c8_3) hS (fun _ h => h) (fun H1 locs1 h1 h2 h3 hS => ?_)
  exact x_vretM2 C rfl dJ4_init_da8c8_6 rfl h1 hS (nb rfl) (nb rfl)
set_option maxRecDepth 20000 in
set_option maxHeartbeats 4000000 in
theorem kJ_getValue (l : Launch) (D : va_G) (cA : Nat → ClassId) (s0 : State) (q v n : Nat) (g : Nat → Int32) : Met l yJ5_getValue_6d5f1 (wsG yJ5_getValue_6d5f1 cJ5_getValue_6d5f1 1 (some (.array .byte))) { frames := 0, cells := 0, slots := 0, locals := 0 } (xP D cA s0 [.ref q] (SbH D cA s0 q v n g)) (xQr (some (.ref v))) 0 0 xN := by
  refine x_start (own := RJ5) [(0, .ref q)] rfl rfl (by decide) (nb rfl) ?_
  intro p e s m args below meth c C hw
  refine x_aload_n C dJ5_getValue_6d5f1_0 rfl ?_
  refine x_get (.ref v) C fl_J5_15 hw.2.1 rfl dJ5_getValue_6d5f1_1 ?_
  exact x_aretR C rfl dJ5_getValue_6d5f1_4 (Or.inr ⟨_, rfl⟩) rfl
set_option maxRecDepth 20000 in
set_option maxHeartbeats 4000000 in
theorem kJ_length5 (l : Launch) (D : va_G) (cA : Nat → ClassId) (s0 : State) (q v n : Nat) (g : Nat → Int32) : Met l yJ5_length_8abf5 (wsG yJ5_length_8abf5 cJ5_length_8abf5 1 (some .int)) { frames := 0, cells := 0, slots := 0, locals := 0 } (xP D cA s0 [.ref q] (SbH D cA s0 q v n g)) (xQr (some (.int (nI n)))) 0 0 xN := by
  refine x_start (own := RJ5) [(0, .ref q)] rfl rfl (by decide) (nb rfl) ?_
  intro p e s m args below meth c C hw
  refine x_aload_n C dJ5_length_8abf5_0 rfl ?_
  refine x_get (.int (nI n)) C fl_J5_79 hw.2.1 rfl dJ5_length_8abf5_1 ?_
  exact x_iretR C rfl dJ5_length_8abf5_4 rfl
set_option maxRecDepth 20000 in
set_option maxHeartbeats 4000000 in
theorem kJ_length4 (l : Launch) (D : va_G) (cA : Nat → ClassId) (s0 : State) (q v n : Nat) (g : Nat → Int32) : Met l yJ4_length_8abf5 (wsG yJ4_length_8abf5 cJ4_length_8abf5 1 (some .int)) { frames := 1, cells := 0, slots := 0, locals := 20 } (xP D cA s0 [.ref q] (SbH D cA s0 q v n g)) (xQr (some (.int (nI n)))) 0 0 xN := by
  refine x_start (own := RJ4) [(0, .ref q)] rfl rfl (by decide) (nb rfl) ?_
  intro p e s m args below meth c C hw
  refine x_aload_n C dJ4_length_8abf5_0 rfl ?_
  refine x_goR (fun ls h => x_runSU (As := []) [] h C mu_J4_343 su_J4 (by decide) (kJ_length5 l D cA s0 q v n g) ⟨rfl, rfl, nb rfl, nb rfl⟩ rfl hw.2.1 rfl hw (nb rfl) ⟨Nat.zero_le _, Nat.zero_le _⟩ dJ4_length_8abf5_1) ?_
  exact x_iretR C rfl dJ4_length_8abf5_4 rfl
set_option maxRecDepth 20000 in
set_option maxHeartbeats 4000000 in
theorem kJ_checkLen (l : Launch) (D : va_G) (cA : Nat → ClassId) (s0 : State) {w : Nat} (hw : w < 2 ^ 31) : Met l yJ7_checkLength_df160 (wsG yJ7_checkLength_df160 cJ7_checkLength_df160 2 none) { frames := 0, cells := 0, slots := 0, locals := 0 } (xP D cA s0 [.int 0, .int (nI w)] (fun _ => True)) (xQr none) 0 0 xN := by
  refine x_start (own := RJ7) [(0, .int 0), (1, .int (nI w))] rfl rfl (by decide) (nb rfl) ?_
  intro p e s m args below meth c C _
  refine x_iload_n C dJ7_checkLength_df160_0 rfl ?_
  refine x_iload_n C dJ7_checkLength_df160_1 rfl ?_
  refine x_icmp_ge 37 C dJ7_checkLength_df160_2 (by decide) (fun _ => ?_) (fun z => absurd (Int32.not_lt.mp (nI_pos hw)) z)
  exact x_vretR C rfl dJ7_checkLength_df160_37 rfl
set_option maxRecDepth 20000 in
set_option maxHeartbeats 4000000 in
theorem kJ_cprb (l : Launch) (D : va_G) (cA : Nat → ClassId) (s0 : State) (v n sz : Nat) (g : Nat → Int32) (hn : n < 16) (hv : v < sz) (hfit : ∀ i, i < n → fits .byte (.int (g i)) = true) : Met l yJ7_copyOfRangeByte_39247 (wsG yJ7_copyOfRangeByte_39247 cJ7_copyOfRangeByte_39247 5 (some (.array .byte))) { frames := 1, cells := 1, slots := n, locals := 40 } (xP D cA s0 [.ref v, .int 0, .int (nI n)] (fun H => H.size = sz ∧ va_at D xcl (v, .inl (cA 2, 16, .inl g)) H)) (xQm (some (.ref sz)) (fun H => va_at D xcl (sz, .inl (cA 2, n, .inl g)) H ∧ H.size = sz + 1) (fun a => sz ≤ a)) 1 n (fun a => sz ≤ a) := by
  refine x_start (own := RJ7) [(0, .ref v), (1, .int 0), (2, .int (nI n))] rfl rfl (by decide) (nb rfl) ?_
  intro p e s m args below meth c C hw
  obtain ⟨hz, hva⟩ := hw
  have hS : va_S (fun a => sz ≤ a) s.heap s.heap [] := va_S.rf
  refine x_iload_n C dJ7_copyOfRangeByte_39247_0 rfl ?_
  refine x_iload_n C dJ7_copyOfRangeByte_39247_1 rfl ?_
  refine x_goR (fun ls h => x_runS (As := [.int 0, .int (nI n)]) [] h C ml_J7_343 (kJ_checkLen l D cA s0 (by omega)) ⟨rfl, rfl, nb rfl, nb rfl⟩ rfl trivial (nb rfl) ⟨Nat.zero_le _, Nat.zero_le _⟩ dJ7_copyOfRangeByte_39247_2) ?_
  refine x_iload_n C dJ7_copyOfRangeByte_39247_5 rfl ?_
  refine x_iload_n C dJ7_copyOfRangeByte_39247_6 rfl ?_
  refine x_isub C dJ7_copyOfRangeByte_39247_7 ?_
  refine x_topi (nI n) (Int32.sub_zero _) ?_
  refine x_istore_n [(3, .int (nI n)), (0, .ref v), (1, .int 0), (2, .int (nI n))] C dJ7_copyOfRangeByte_39247_8 rfl (by decide) rfl ?_
  refine x_iload_n C dJ7_copyOfRangeByte_39247_9 rfl ?_
  refine x_newaB (N := n) C ar_byte rfl (by omega) (nb rfl) (by show 0 + n ≤ n; omega) dJ7_copyOfRangeByte_39247_10 (fun H1 h1 z1 o1 => ?_)
  have hS := sb_grow hS z1 o1
  rw [hz] at h1 z1 ⊢
  have hv1 := hva.kept (o1 v (by omega))
  refine x_astore [(4, .ref sz), (3, .int (nI n)), (0, .ref v), (1, .int 0), (2, .int (nI n))] C dJ7_copyOfRangeByte_39247_12 (by decide) rfl ?_
  refine x_aload_n C dJ7_copyOfRangeByte_39247_14 rfl ?_
  refine x_iload_n C dJ7_copyOfRangeByte_39247_15 rfl ?_
  refine x_aload C dJ7_copyOfRangeByte_39247_16 rfl ?_
  refine x_iconst (0 : Int32) C dJ7_copyOfRangeByte_39247_18 rfl ?_
  refine x_aload_n C dJ7_copyOfRangeByte_39247_19 rfl ?_
  refine x_alen (nI 16) C hv1 rfl rfl dJ7_copyOfRangeByte_39247_20 ?_
  refine x_iload_n C dJ7_copyOfRangeByte_39247_21 rfl ?_
  refine x_isub C dJ7_copyOfRangeByte_39247_22 ?_
  refine x_iload_n C dJ7_copyOfRangeByte_39247_23 rfl ?_
  refine x_mmin C ml_J7_304 (nb rfl) (nb rfl) ⟨nb rfl, by show 0 + n ≤ n; omega⟩ dJ7_copyOfRangeByte_39247_24 ?_
  have hm : ∀ n, n < 16 → imin (nI 16 - 0) (nI n) = nI n := by decide +kernel
  refine x_topi (nI n) (hm n hn) ?_
  refine x_copyB0 C ac_J7_150 hv1 h1 (by omega) (by decide) hfit (nb rfl) (nb rfl) dJ7_copyOfRangeByte_39247_27 hS (Nat.le_refl sz) (fun H2 locs2 h2 o2 z2 hS => ?_)
  refine x_aload C dJ7_copyOfRangeByte_39247_30 rfl ?_
  exact x_aretM2 C rfl dJ7_copyOfRangeByte_39247_32 (Or.inr ⟨_, rfl⟩) rfl ⟨h2, by omega⟩ hS (nb rfl) (by show 0 + n ≤ n; omega)
set_option maxRecDepth 20000 in
set_option maxHeartbeats 4000000 in
theorem kJ_cpr (l : Launch) (D : va_G) (cA : Nat → ClassId) (s0 : State) (v n sz : Nat) (g : Nat → Int32) (hn : n < 16) (hv : v < sz) (hfit : ∀ i, i < n → fits .byte (.int (g i)) = true) : Met l yJ7_copyOfRange_39247 (wsG yJ7_copyOfRange_39247 cJ7_copyOfRange_39247 3 (some (.array .byte))) { frames := 2, cells := 1, slots := n, locals := 64 } (xP D cA s0 [.ref v, .int 0, .int (nI n)] (fun H => H.size = sz ∧ va_at D xcl (v, .inl (cA 2, 16, .inl g)) H)) (xQm (some (.ref sz)) (fun H => va_at D xcl (sz, .inl (cA 2, n, .inl g)) H ∧ H.size = sz + 1) (fun a => sz ≤ a)) 1 n (fun a => sz ≤ a) := by
  refine x_start (own := RJ7) [(0, .ref v), (1, .int 0), (2, .int (nI n))] rfl rfl (by decide) (nb rfl) ?_
  intro p e s m args below meth c C hw
  have hS : va_S (fun a => sz ≤ a) s.heap s.heap [] := va_S.rf
  refine x_iload_n C dJ7_copyOfRange_39247_0 rfl ?_
  refine x_if_ne 10 C dJ7_copyOfRange_39247_1 (by decide) (fun z => absurd rfl z) (fun _ => ?_)
  refine x_iload_n C dJ7_copyOfRange_39247_4 rfl ?_
  refine x_aload_n C dJ7_copyOfRange_39247_5 rfl ?_
  refine x_alen (nI 16) C hw.2 rfl rfl dJ7_copyOfRange_39247_6 ?_
  refine x_icmp_eq 17 C dJ7_copyOfRange_39247_7 (by decide) (fun z => absurd ((nI_eq (by omega) (by decide)).mp z) (by omega)) (fun _ => ?_)
  refine x_aload_n C dJ7_copyOfRange_39247_10 rfl ?_
  refine x_iload_n C dJ7_copyOfRange_39247_11 rfl ?_
  refine x_iload_n C dJ7_copyOfRange_39247_12 rfl ?_
  refine x_goM (fun ls h => x_runS (As := [.ref v, .int 0, .int (nI n)]) [] h C ml_J7_339 (kJ_cprb l D cA s0 v n sz g hn hv hfit) ⟨rfl, rfl, nb rfl, nb rfl⟩ rfl hw (nb rfl) ⟨nb rfl, by show 0 + n ≤ n; omega⟩ dJ7_copyOfRange_39247_13) hS (fun _ h => h) (fun H1 locs1 h1 h2 h3 hS => ?_)
  exact x_aretM2 C rfl dJ7_copyOfRange_39247_16 (Or.inr ⟨_, rfl⟩) rfl h1 hS (nb rfl) (by show 0 + n ≤ n; omega)
