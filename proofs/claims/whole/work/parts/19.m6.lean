def f_X12_thrown (μ : Mm) : Int32 := μ.1 0 0
set_option maxRecDepth 20000 in
set_option maxHeartbeats 4000000 in
theorem c_X12_thrown (l : Launch) (D : va_G) (cA : Nat → ClassId) (s0 : State) (b : Nat) (μ : Mm) : Met l yX12_thrown (wsG yX12_thrown cX12_thrown 1 (some (FieldType.int))) { frames := 0, cells := 0, slots := 0, locals := 0 } (xP D cA s0 [.ref b] (RM D cA b μ)) (xQr (some (.int (f_X12_thrown μ)))) 0 0 xN := by
  refine x_start (own := RX12) [(0, .ref b)] rfl rfl (by decide) (nb rfl) ?_
  intro p e s m args below meth c C hw
  obtain ⟨F, hF⟩ : ∃ z, z = (f_X12_thrown μ) := ⟨_, rfl⟩
  rw [← hF]
  refine x_aload_n C dX12_thrown_0 rfl ?_
  refine x_get (.int (μ.1 0 0)) C fl_X12_3 (M_obj hw) rfl dX12_thrown_1 ?_
  exact x_iretR C rfl dX12_thrown_4 (e_i hF)
def f_X12_bandOf (μ : Mm) (a1 : Int32) : Int32 × Mm := (if (f_X12_passes μ (f_X12_isTons a1)).1 then (f_X12_bandWith ((f_X12_passes μ (f_X12_isTons a1)).2) a1, (f_X12_passes μ (f_X12_isTons a1)).2) else ((0 : Int32), (f_X12_passes μ (f_X12_isTons a1)).2))
set_option maxRecDepth 20000 in
set_option maxHeartbeats 4000000 in
theorem c_X12_bandOf (l : Launch) (D : va_G) (cA : Nat → ClassId) (s0 : State) (b : Nat) (μ : Mm) (sz : Nat) (hok : OkR (μ.1 1)) (a1 : Int32) : Met l yX12_bandOf (wsG yX12_bandOf cX12_bandOf 2 (some (FieldType.int))) { frames := 2, cells := 0, slots := 0, locals := 45 } (xP D cA s0 [.ref b, .int a1] (fun H => H.size = sz ∧ RM D cA b μ H)) (xQm (some (.int (f_X12_bandOf μ a1).1)) (fun H => RM D cA b (f_X12_bandOf μ a1).2 H) (xA b 8 sz)) 0 0 (xA b 8 sz) := by
  refine x_start (own := RX12) [(0, .ref b), (1, .int a1)] rfl rfl (by decide) (nb rfl) ?_
  intro p e s m args below meth c C hw
  obtain ⟨F, hF⟩ : ∃ z, z = (f_X12_bandOf μ a1) := ⟨_, rfl⟩
  rw [← hF]
  obtain ⟨hsz, hw⟩ := hw
  subst hsz
  have hS : va_S (xA b 8 s.heap.size) s.heap s.heap [] := va_S.rf
  refine x_aload_n C dX12_bandOf_0 rfl ?_
  refine x_iload_n C dX12_bandOf_1 rfl ?_
  refine x_goR (fun ls h => x_runS (As := [.int a1]) [.ref b] h C ml_X12_270 (c_X12_isTons l D cA s0 a1 ) ⟨rfl, rfl, nb rfl, nb rfl⟩ rfl trivial (nb rfl) ⟨Nat.zero_le _, Nat.zero_le _⟩ dX12_bandOf_2) ?_
  refine x_goM (fun ls h => x_runV (As := [.int (bI (f_X12_isTons a1))]) [] h C ml_X12_62 (c_X12_passes l D cA s0 b μ _ (f_X12_isTons a1) ) ⟨rfl, rfl, nb rfl, nb rfl⟩ rfl (M_obj hw) rfl ⟨rfl, hw⟩ (nb rfl) ⟨Nat.zero_le _, Nat.zero_le _⟩ dX12_bandOf_5) hS (xA_le hS) (fun H locs hw hz hk hS => ?_)
  have hw : RM D cA b ((f_X12_passes μ (f_X12_isTons a1)).2) H := hw
  refine x_ifB_eq 19 C dX12_bandOf_8 (by decide) (fun c1 => ?_) (fun c1 => ?_)
  · have hF := hF.trans (if_neg (nbt c1))
    refine x_iconst (0 : Int32) C dX12_bandOf_19 rfl ?_
    exact x_iretM C rfl dX12_bandOf_20 (e_i (congrArg Prod.fst hF)) (by rw [hF]; exact hw) hS
  · have hF := hF.trans (if_pos c1)
    refine x_aload_n C dX12_bandOf_11 rfl ?_
    refine x_iload_n C dX12_bandOf_12 rfl ?_
    refine x_goR (fun ls h => x_runV (As := [.int a1]) [] h C ml_X12_237 (c_X12_bandWith l D cA s0 b ((f_X12_passes μ (f_X12_isTons a1)).2) (ok_p1 hok) a1 ) ⟨rfl, rfl, nb rfl, nb rfl⟩ rfl (M_obj hw) rfl hw (nb rfl) ⟨Nat.zero_le _, Nat.zero_le _⟩ dX12_bandOf_13) ?_
    refine x_goto 20 C dX12_bandOf_16 (by decide) ?_
    exact x_iretM C rfl dX12_bandOf_20 (e_i (congrArg Prod.fst hF)) (by rw [hF]; exact hw) hS
def f_X12_dues (μ : Mm) (a1 : Int32) : Int32 × Mm := (if (f_X12_passes μ (f_X12_isTons a1)).1 then (f_X12_duesOf ((f_X12_passes μ (f_X12_isTons a1)).2) a1 (f_X12_version ((f_X12_passes μ (f_X12_isTons a1)).2)), (f_X12_passes μ (f_X12_isTons a1)).2) else ((0 : Int32), (f_X12_passes μ (f_X12_isTons a1)).2))
set_option maxRecDepth 20000 in
set_option maxHeartbeats 4000000 in
theorem c_X12_dues (l : Launch) (D : va_G) (cA : Nat → ClassId) (s0 : State) (b : Nat) (μ : Mm) (sz : Nat) (hok : OkR (μ.1 1)) (a1 : Int32) : Met l yX12_dues (wsG yX12_dues cX12_dues 2 (some (FieldType.int))) { frames := 3, cells := 0, slots := 0, locals := 68 } (xP D cA s0 [.ref b, .int a1] (fun H => H.size = sz ∧ RM D cA b μ H)) (xQm (some (.int (f_X12_dues μ a1).1)) (fun H => RM D cA b (f_X12_dues μ a1).2 H) (xA b 8 sz)) 0 0 (xA b 8 sz) := by
  refine x_start (own := RX12) [(0, .ref b), (1, .int a1)] rfl rfl (by decide) (nb rfl) ?_
  intro p e s m args below meth c C hw
  obtain ⟨F, hF⟩ : ∃ z, z = (f_X12_dues μ a1) := ⟨_, rfl⟩
  rw [← hF]
  obtain ⟨hsz, hw⟩ := hw
  subst hsz
  have hS : va_S (xA b 8 s.heap.size) s.heap s.heap [] := va_S.rf
  refine x_aload_n C dX12_dues_0 rfl ?_
  refine x_iload_n C dX12_dues_1 rfl ?_
  refine x_goR (fun ls h => x_runS (As := [.int a1]) [.ref b] h C ml_X12_270 (c_X12_isTons l D cA s0 a1 ) ⟨rfl, rfl, nb rfl, nb rfl⟩ rfl trivial (nb rfl) ⟨Nat.zero_le _, Nat.zero_le _⟩ dX12_dues_2) ?_
  refine x_goM (fun ls h => x_runV (As := [.int (bI (f_X12_isTons a1))]) [] h C ml_X12_62 (c_X12_passes l D cA s0 b μ _ (f_X12_isTons a1) ) ⟨rfl, rfl, nb rfl, nb rfl⟩ rfl (M_obj hw) rfl ⟨rfl, hw⟩ (nb rfl) ⟨Nat.zero_le _, Nat.zero_le _⟩ dX12_dues_5) hS (xA_le hS) (fun H locs hw hz hk hS => ?_)
  have hw : RM D cA b ((f_X12_passes μ (f_X12_isTons a1)).2) H := hw
  refine x_ifB_eq 23 C dX12_dues_8 (by decide) (fun c1 => ?_) (fun c1 => ?_)
  · have hF := hF.trans (if_neg (nbt c1))
    refine x_iconst (0 : Int32) C dX12_dues_23 rfl ?_
    exact x_iretM C rfl dX12_dues_24 (e_i (congrArg Prod.fst hF)) (by rw [hF]; exact hw) hS
  · have hF := hF.trans (if_pos c1)
    refine x_aload_n C dX12_dues_11 rfl ?_
    refine x_iload_n C dX12_dues_12 rfl ?_
    refine x_aload_n C dX12_dues_13 rfl ?_
    refine x_goR (fun ls h => x_runV (As := []) [.int a1, .ref b] h C ml_X12_256 (c_X12_version l D cA s0 b ((f_X12_passes μ (f_X12_isTons a1)).2) ) ⟨rfl, rfl, nb rfl, nb rfl⟩ rfl (M_obj hw) rfl hw (nb rfl) ⟨Nat.zero_le _, Nat.zero_le _⟩ dX12_dues_14) ?_
    obtain ⟨hn2, hl3⟩ := vpn (f_version_in (ok_p1 hok)) (by decide)
    refine x_goR (fun ls h => x_runV (As := [.int a1, .int (f_X12_version ((f_X12_passes μ (f_X12_isTons a1)).2))]) [] h C ml_X12_273 (c_X12_duesOf l D cA s0 b ((f_X12_passes μ (f_X12_isTons a1)).2) (ok_p1 hok) a1 (f_X12_version ((f_X12_passes μ (f_X12_isTons a1)).2)) (ixin hn2 (by omega) (by decide))) ⟨rfl, rfl, nb rfl, nb rfl⟩ rfl (M_obj hw) rfl hw (nb rfl) ⟨Nat.zero_le _, Nat.zero_le _⟩ dX12_dues_17) ?_
    refine x_goto 24 C dX12_dues_20 (by decide) ?_
    exact x_iretM C rfl dX12_dues_24 (e_i (congrArg Prod.fst hF)) (by rw [hF]; exact hw) hS
def f_X12_wasteFee (μ : Mm) (a1 : Int32) : Int32 × Mm := (if (f_X12_passes μ (f_X12_isWaste a1)).1 then (f_X12_feeOf ((f_X12_passes μ (f_X12_isWaste a1)).2) a1, (f_X12_passes μ (f_X12_isWaste a1)).2) else ((0 : Int32), (f_X12_passes μ (f_X12_isWaste a1)).2))
set_option maxRecDepth 20000 in
set_option maxHeartbeats 4000000 in
theorem c_X12_wasteFee (l : Launch) (D : va_G) (cA : Nat → ClassId) (s0 : State) (b : Nat) (μ : Mm) (sz : Nat) (hok : OkR (μ.1 1)) (a1 : Int32) : Met l yX12_wasteFee (wsG yX12_wasteFee cX12_wasteFee 2 (some (FieldType.int))) { frames := 2, cells := 0, slots := 0, locals := 45 } (xP D cA s0 [.ref b, .int a1] (fun H => H.size = sz ∧ RM D cA b μ H)) (xQm (some (.int (f_X12_wasteFee μ a1).1)) (fun H => RM D cA b (f_X12_wasteFee μ a1).2 H) (xA b 8 sz)) 0 0 (xA b 8 sz) := by
  refine x_start (own := RX12) [(0, .ref b), (1, .int a1)] rfl rfl (by decide) (nb rfl) ?_
  intro p e s m args below meth c C hw
  obtain ⟨F, hF⟩ : ∃ z, z = (f_X12_wasteFee μ a1) := ⟨_, rfl⟩
  rw [← hF]
  obtain ⟨hsz, hw⟩ := hw
  subst hsz
  have hS : va_S (xA b 8 s.heap.size) s.heap s.heap [] := va_S.rf
  refine x_aload_n C dX12_wasteFee_0 rfl ?_
  refine x_iload_n C dX12_wasteFee_1 rfl ?_
  refine x_goR (fun ls h => x_runS (As := [.int a1]) [.ref b] h C ml_X12_276 (c_X12_isWaste l D cA s0 a1 ) ⟨rfl, rfl, nb rfl, nb rfl⟩ rfl trivial (nb rfl) ⟨Nat.zero_le _, Nat.zero_le _⟩ dX12_wasteFee_2) ?_
  refine x_goM (fun ls h => x_runV (As := [.int (bI (f_X12_isWaste a1))]) [] h C ml_X12_62 (c_X12_passes l D cA s0 b μ _ (f_X12_isWaste a1) ) ⟨rfl, rfl, nb rfl, nb rfl⟩ rfl (M_obj hw) rfl ⟨rfl, hw⟩ (nb rfl) ⟨Nat.zero_le _, Nat.zero_le _⟩ dX12_wasteFee_5) hS (xA_le hS) (fun H locs hw hz hk hS => ?_)
  have hw : RM D cA b ((f_X12_passes μ (f_X12_isWaste a1)).2) H := hw
  refine x_ifB_eq 19 C dX12_wasteFee_8 (by decide) (fun c1 => ?_) (fun c1 => ?_)
  · have hF := hF.trans (if_neg (nbt c1))
    refine x_iconst (0 : Int32) C dX12_wasteFee_19 rfl ?_
    exact x_iretM C rfl dX12_wasteFee_20 (e_i (congrArg Prod.fst hF)) (by rw [hF]; exact hw) hS
  · have hF := hF.trans (if_pos c1)
    refine x_aload_n C dX12_wasteFee_11 rfl ?_
    refine x_iload_n C dX12_wasteFee_12 rfl ?_
    refine x_goR (fun ls h => x_runV (As := [.int a1]) [] h C ml_X12_279 (c_X12_feeOf l D cA s0 b ((f_X12_passes μ (f_X12_isWaste a1)).2) a1 ) ⟨rfl, rfl, nb rfl, nb rfl⟩ rfl (M_obj hw) rfl hw (nb rfl) ⟨Nat.zero_le _, Nat.zero_le _⟩ dX12_wasteFee_13) ?_
    refine x_goto 20 C dX12_wasteFee_16 (by decide) ?_
    exact x_iretM C rfl dX12_wasteFee_20 (e_i (congrArg Prod.fst hF)) (by rw [hF]; exact hw) hS
def f_X12_tonsIn (μ : Mm) (a1 : Int32) (a2 : Int32) : Int32 × Mm := (if (f_X12_passes2 μ (f_X12_isBand μ a2) (f_X12_isTons a1)).1 then (f_X12_inBand ((f_X12_passes2 μ (f_X12_isBand μ a2) (f_X12_isTons a1)).2) a1 a2, (f_X12_passes2 μ (f_X12_isBand μ a2) (f_X12_isTons a1)).2) else ((0 : Int32), (f_X12_passes2 μ (f_X12_isBand μ a2) (f_X12_isTons a1)).2))
set_option maxRecDepth 20000 in
set_option maxHeartbeats 4000000 in
theorem c_X12_tonsIn (l : Launch) (D : va_G) (cA : Nat → ClassId) (s0 : State) (b : Nat) (μ : Mm) (sz : Nat) (hok : OkR (μ.1 1)) (a1 : Int32) (a2 : Int32) : Met l yX12_tonsIn (wsG yX12_tonsIn cX12_tonsIn 3 (some (FieldType.int))) { frames := 2, cells := 0, slots := 0, locals := 46 } (xP D cA s0 [.ref b, .int a1, .int a2] (fun H => H.size = sz ∧ RM D cA b μ H)) (xQm (some (.int (f_X12_tonsIn μ a1 a2).1)) (fun H => RM D cA b (f_X12_tonsIn μ a1 a2).2 H) (xA b 8 sz)) 0 0 (xA b 8 sz) := by
  refine x_start (own := RX12) [(0, .ref b), (1, .int a1), (2, .int a2)] rfl rfl (by decide) (nb rfl) ?_
  intro p e s m args below meth c C hw
  obtain ⟨F, hF⟩ : ∃ z, z = (f_X12_tonsIn μ a1 a2) := ⟨_, rfl⟩
  rw [← hF]
  obtain ⟨hsz, hw⟩ := hw
  subst hsz
  have hS : va_S (xA b 8 s.heap.size) s.heap s.heap [] := va_S.rf
  refine x_aload_n C dX12_tonsIn_0 rfl ?_
  refine x_aload_n C dX12_tonsIn_1 rfl ?_
  refine x_iload_n C dX12_tonsIn_2 rfl ?_
  refine x_goR (fun ls h => x_runV (As := [.int a2]) [.ref b] h C ml_X12_259 (c_X12_isBand l D cA s0 b μ a2 ) ⟨rfl, rfl, nb rfl, nb rfl⟩ rfl (M_obj hw) rfl hw (nb rfl) ⟨Nat.zero_le _, Nat.zero_le _⟩ dX12_tonsIn_3) ?_
  refine x_iload_n C dX12_tonsIn_6 rfl ?_
  refine x_goR (fun ls h => x_runS (As := [.int a1]) [.int (bI (f_X12_isBand μ a2)), .ref b] h C ml_X12_270 (c_X12_isTons l D cA s0 a1 ) ⟨rfl, rfl, nb rfl, nb rfl⟩ rfl trivial (nb rfl) ⟨Nat.zero_le _, Nat.zero_le _⟩ dX12_tonsIn_7) ?_
  refine x_goM (fun ls h => x_runV (As := [.int (bI (f_X12_isBand μ a2)), .int (bI (f_X12_isTons a1))]) [] h C ml_X12_263 (c_X12_passes2 l D cA s0 b μ _ (f_X12_isBand μ a2) (f_X12_isTons a1) ) ⟨rfl, rfl, nb rfl, nb rfl⟩ rfl (M_obj hw) rfl ⟨rfl, hw⟩ (nb rfl) ⟨Nat.zero_le _, Nat.zero_le _⟩ dX12_tonsIn_10) hS (xA_le hS) (fun H locs hw hz hk hS => ?_)
  have hw : RM D cA b ((f_X12_passes2 μ (f_X12_isBand μ a2) (f_X12_isTons a1)).2) H := hw
  refine x_ifB_eq 25 C dX12_tonsIn_13 (by decide) (fun c1 => ?_) (fun c1 => ?_)
  · have hF := hF.trans (if_neg (nbt c1))
    refine x_iconst (0 : Int32) C dX12_tonsIn_25 rfl ?_
    exact x_iretM C rfl dX12_tonsIn_26 (e_i (congrArg Prod.fst hF)) (by rw [hF]; exact hw) hS
  · have hF := hF.trans (if_pos c1)
    obtain ⟨hn2, hl3⟩ := vpn (isBand_in hok (p2a c1)) (by decide)
    refine x_aload_n C dX12_tonsIn_16 rfl ?_
    refine x_iload_n C dX12_tonsIn_17 rfl ?_
    refine x_iload_n C dX12_tonsIn_18 rfl ?_
    refine x_goR (fun ls h => x_runV (As := [.int a1, .int a2]) [] h C ml_X12_243 (c_X12_inBand l D cA s0 b ((f_X12_passes2 μ (f_X12_isBand μ a2) (f_X12_isTons a1)).2) (ok_p2 hok) a1 a2 (ixin hn2 (by omega) (by decide))) ⟨rfl, rfl, nb rfl, nb rfl⟩ rfl (M_obj hw) rfl hw (nb rfl) ⟨Nat.zero_le _, Nat.zero_le _⟩ dX12_tonsIn_19) ?_
    refine x_goto 26 C dX12_tonsIn_22 (by decide) ?_
    exact x_iretM C rfl dX12_tonsIn_26 (e_i (congrArg Prod.fst hF)) (by rw [hF]; exact hw) hS
def f_X12_tons (μ : Mm) (a1 : Int32) : Int32 × Mm := (if (f_X12_passes μ (f_X12_isShip μ a1)).1 then (f_X12_ofShip ((f_X12_passes μ (f_X12_isShip μ a1)).2) a1 (0 : Int32), (f_X12_passes μ (f_X12_isShip μ a1)).2) else ((0 : Int32), (f_X12_passes μ (f_X12_isShip μ a1)).2))
set_option maxRecDepth 20000 in
set_option maxHeartbeats 4000000 in
theorem c_X12_tons (l : Launch) (D : va_G) (cA : Nat → ClassId) (s0 : State) (b : Nat) (μ : Mm) (sz : Nat) (hok : OkR (μ.1 1)) (a1 : Int32) : Met l yX12_tons (wsG yX12_tons cX12_tons 2 (some (FieldType.int))) { frames := 2, cells := 0, slots := 0, locals := 46 } (xP D cA s0 [.ref b, .int a1] (fun H => H.size = sz ∧ RM D cA b μ H)) (xQm (some (.int (f_X12_tons μ a1).1)) (fun H => RM D cA b (f_X12_tons μ a1).2 H) (xA b 8 sz)) 0 0 (xA b 8 sz) := by
  refine x_start (own := RX12) [(0, .ref b), (1, .int a1)] rfl rfl (by decide) (nb rfl) ?_
  intro p e s m args below meth c C hw
  obtain ⟨F, hF⟩ : ∃ z, z = (f_X12_tons μ a1) := ⟨_, rfl⟩
  rw [← hF]
  obtain ⟨hsz, hw⟩ := hw
  subst hsz
  have hS : va_S (xA b 8 s.heap.size) s.heap s.heap [] := va_S.rf
  refine x_aload_n C dX12_tons_0 rfl ?_
  refine x_aload_n C dX12_tons_1 rfl ?_
  refine x_iload_n C dX12_tons_2 rfl ?_
  refine x_goR (fun ls h => x_runV (As := [.int a1]) [.ref b] h C ml_X12_282 (c_X12_isShip l D cA s0 b μ a1 ) ⟨rfl, rfl, nb rfl, nb rfl⟩ rfl (M_obj hw) rfl hw (nb rfl) ⟨Nat.zero_le _, Nat.zero_le _⟩ dX12_tons_3) ?_
  refine x_goM (fun ls h => x_runV (As := [.int (bI (f_X12_isShip μ a1))]) [] h C ml_X12_62 (c_X12_passes l D cA s0 b μ _ (f_X12_isShip μ a1) ) ⟨rfl, rfl, nb rfl, nb rfl⟩ rfl (M_obj hw) rfl ⟨rfl, hw⟩ (nb rfl) ⟨Nat.zero_le _, Nat.zero_le _⟩ dX12_tons_6) hS (xA_le hS) (fun H locs hw hz hk hS => ?_)
  have hw : RM D cA b ((f_X12_passes μ (f_X12_isShip μ a1)).2) H := hw
  refine x_ifB_eq 21 C dX12_tons_9 (by decide) (fun c1 => ?_) (fun c1 => ?_)
  · have hF := hF.trans (if_neg (nbt c1))
    refine x_iconst (0 : Int32) C dX12_tons_21 rfl ?_
    exact x_iretM C rfl dX12_tons_22 (e_i (congrArg Prod.fst hF)) (by rw [hF]; exact hw) hS
  · have hF := hF.trans (if_pos c1)
    obtain ⟨hn2, hl3⟩ := vpn (isShip_in hok (p1 c1)) (by decide)
    refine x_aload_n C dX12_tons_12 rfl ?_
    refine x_iload_n C dX12_tons_13 rfl ?_
    refine x_iconst (0 : Int32) C dX12_tons_14 rfl ?_
    refine x_goR (fun ls h => x_runV (As := [.int a1, .int (0 : Int32)]) [] h C ml_X12_285 (c_X12_ofShip l D cA s0 b ((f_X12_passes μ (f_X12_isShip μ a1)).2) a1 (0 : Int32) (ixin hn2 (by omega) (by decide)) (ixin (ixl (x := (0 : Int32)) 0 rfl) (by omega) (by decide))) ⟨rfl, rfl, nb rfl, nb rfl⟩ rfl (M_obj hw) rfl hw (nb rfl) ⟨Nat.zero_le _, Nat.zero_le _⟩ dX12_tons_15) ?_
    refine x_goto 22 C dX12_tons_18 (by decide) ?_
    exact x_iretM C rfl dX12_tons_22 (e_i (congrArg Prod.fst hF)) (by rw [hF]; exact hw) hS
def f_X12_paid (μ : Mm) (a1 : Int32) : Int64 × Mm := (if (f_X12_passes μ (f_X12_isShip μ a1)).1 then (((f_X12_passes μ (f_X12_isShip μ a1)).2).2.1 3 (cl a1), (f_X12_passes μ (f_X12_isShip μ a1)).2) else ((0 : Int64), (f_X12_passes μ (f_X12_isShip μ a1)).2))
set_option maxRecDepth 20000 in
set_option maxHeartbeats 4000000 in
theorem c_X12_paid (l : Launch) (D : va_G) (cA : Nat → ClassId) (s0 : State) (b : Nat) (μ : Mm) (sz : Nat) (hok : OkR (μ.1 1)) (a1 : Int32) : Met l yX12_paid (wsG yX12_paid cX12_paid 2 (some (FieldType.long))) { frames := 2, cells := 0, slots := 0, locals := 46 } (xP D cA s0 [.ref b, .int a1] (fun H => H.size = sz ∧ RM D cA b μ H)) (xQm (some (.long (f_X12_paid μ a1).1)) (fun H => RM D cA b (f_X12_paid μ a1).2 H) (xA b 8 sz)) 0 0 (xA b 8 sz) := by
  refine x_start (own := RX12) [(0, .ref b), (1, .int a1)] rfl rfl (by decide) (nb rfl) ?_
  intro p e s m args below meth c C hw
  obtain ⟨F, hF⟩ : ∃ z, z = (f_X12_paid μ a1) := ⟨_, rfl⟩
  rw [← hF]
  obtain ⟨hsz, hw⟩ := hw
  subst hsz
  have hS : va_S (xA b 8 s.heap.size) s.heap s.heap [] := va_S.rf
  refine x_aload_n C dX12_paid_0 rfl ?_
  refine x_aload_n C dX12_paid_1 rfl ?_
  refine x_iload_n C dX12_paid_2 rfl ?_
  refine x_goR (fun ls h => x_runV (As := [.int a1]) [.ref b] h C ml_X12_282 (c_X12_isShip l D cA s0 b μ a1 ) ⟨rfl, rfl, nb rfl, nb rfl⟩ rfl (M_obj hw) rfl hw (nb rfl) ⟨Nat.zero_le _, Nat.zero_le _⟩ dX12_paid_3) ?_
  refine x_goM (fun ls h => x_runV (As := [.int (bI (f_X12_isShip μ a1))]) [] h C ml_X12_62 (c_X12_passes l D cA s0 b μ _ (f_X12_isShip μ a1) ) ⟨rfl, rfl, nb rfl, nb rfl⟩ rfl (M_obj hw) rfl ⟨rfl, hw⟩ (nb rfl) ⟨Nat.zero_le _, Nat.zero_le _⟩ dX12_paid_6) hS (xA_le hS) (fun H locs hw hz hk hS => ?_)
  have hw : RM D cA b ((f_X12_passes μ (f_X12_isShip μ a1)).2) H := hw
  refine x_ifB_eq 21 C dX12_paid_9 (by decide) (fun c1 => ?_) (fun c1 => ?_)
  · have hF := hF.trans (if_neg (nbt c1))
    refine x_lconst (0 : Int64) C dX12_paid_21 rfl ?_
    exact x_lretM C rfl dX12_paid_22 (e_l (congrArg Prod.fst hF)) (by rw [hF]; exact hw) hS
  · have hF := hF.trans (if_pos c1)
    obtain ⟨hn2, hl3⟩ := vpn (isShip_in hok (p1 c1)) (by decide)
    refine x_aload_n C dX12_paid_12 rfl ?_
    refine x_get (.ref (b + 3)) C fl_X12_27 (M_obj hw) rfl dX12_paid_13 ?_
    refine x_iload_n C dX12_paid_16 rfl ?_
    refine x_laldN C (M_a3 hw) hn2 (by omega) (by decide) dX12_paid_17 ?_
    refine x_goto 22 C dX12_paid_18 (by decide) ?_
    exact x_lretM C rfl dX12_paid_22 (e_l (congrArg Prod.fst hF)) (by rw [hF]; exact hw) hS
def f_X12_balance (μ : Mm) (a1 : Int32) : Int64 × Mm := (if (f_X12_passes μ (f_X12_isShip μ a1)).1 then (f_X12_balanceOf ((f_X12_passes μ (f_X12_isShip μ a1)).2) a1, (f_X12_passes μ (f_X12_isShip μ a1)).2) else ((0 : Int64), (f_X12_passes μ (f_X12_isShip μ a1)).2))
set_option maxRecDepth 20000 in
set_option maxHeartbeats 4000000 in
theorem c_X12_balance (l : Launch) (D : va_G) (cA : Nat → ClassId) (s0 : State) (b : Nat) (μ : Mm) (sz : Nat) (hok : OkR (μ.1 1)) (a1 : Int32) : Met l yX12_balance (wsG yX12_balance cX12_balance 2 (some (FieldType.long))) { frames := 4, cells := 0, slots := 0, locals := 91 } (xP D cA s0 [.ref b, .int a1] (fun H => H.size = sz ∧ RM D cA b μ H)) (xQm (some (.long (f_X12_balance μ a1).1)) (fun H => RM D cA b (f_X12_balance μ a1).2 H) (xA b 8 sz)) 0 0 (xA b 8 sz) := by
  refine x_start (own := RX12) [(0, .ref b), (1, .int a1)] rfl rfl (by decide) (nb rfl) ?_
  intro p e s m args below meth c C hw
  obtain ⟨F, hF⟩ : ∃ z, z = (f_X12_balance μ a1) := ⟨_, rfl⟩
  rw [← hF]
  obtain ⟨hsz, hw⟩ := hw
  subst hsz
  have hS : va_S (xA b 8 s.heap.size) s.heap s.heap [] := va_S.rf
  refine x_aload_n C dX12_balance_0 rfl ?_
  refine x_aload_n C dX12_balance_1 rfl ?_
  refine x_iload_n C dX12_balance_2 rfl ?_
  refine x_goR (fun ls h => x_runV (As := [.int a1]) [.ref b] h C ml_X12_282 (c_X12_isShip l D cA s0 b μ a1 ) ⟨rfl, rfl, nb rfl, nb rfl⟩ rfl (M_obj hw) rfl hw (nb rfl) ⟨Nat.zero_le _, Nat.zero_le _⟩ dX12_balance_3) ?_
  refine x_goM (fun ls h => x_runV (As := [.int (bI (f_X12_isShip μ a1))]) [] h C ml_X12_62 (c_X12_passes l D cA s0 b μ _ (f_X12_isShip μ a1) ) ⟨rfl, rfl, nb rfl, nb rfl⟩ rfl (M_obj hw) rfl ⟨rfl, hw⟩ (nb rfl) ⟨Nat.zero_le _, Nat.zero_le _⟩ dX12_balance_6) hS (xA_le hS) (fun H locs hw hz hk hS => ?_)
  have hw : RM D cA b ((f_X12_passes μ (f_X12_isShip μ a1)).2) H := hw
  refine x_ifB_eq 20 C dX12_balance_9 (by decide) (fun c1 => ?_) (fun c1 => ?_)
  · have hF := hF.trans (if_neg (nbt c1))
    refine x_lconst (0 : Int64) C dX12_balance_20 rfl ?_
    exact x_lretM C rfl dX12_balance_21 (e_l (congrArg Prod.fst hF)) (by rw [hF]; exact hw) hS
  · have hF := hF.trans (if_pos c1)
    obtain ⟨hn2, hl3⟩ := vpn (isShip_in hok (p1 c1)) (by decide)
    refine x_aload_n C dX12_balance_12 rfl ?_
    refine x_iload_n C dX12_balance_13 rfl ?_
    refine x_goR (fun ls h => x_runV (As := [.int a1]) [] h C ml_X12_389 (c_X12_balanceOf l D cA s0 b ((f_X12_passes μ (f_X12_isShip μ a1)).2) (ok_p1 hok) a1 (ixin hn2 (by omega) (by decide))) ⟨rfl, rfl, nb rfl, nb rfl⟩ rfl (M_obj hw) rfl hw (nb rfl) ⟨Nat.zero_le _, Nat.zero_le _⟩ dX12_balance_14) ?_
    refine x_goto 21 C dX12_balance_17 (by decide) ?_
    exact x_lretM C rfl dX12_balance_21 (e_l (congrArg Prod.fst hF)) (by rw [hF]; exact hw) hS
def f_X12_oldestOpen_L16 (μ : Mm) (a1 : Int32) : Nat → Int32 → Int32 × Mm
  | 0, _ => (0, μ)
  | n + 1, x2 => (if (((f_X12_passes μ (f_X12_isShip μ a1)).2).1 1 2) ≤ x2 then ((-1 : Int32), (f_X12_passes μ (f_X12_isShip μ a1)).2) else (if (f_X12_shipOf ((f_X12_passes μ (f_X12_isShip μ a1)).2) x2) = a1 then (if (f_X12_openOf ((f_X12_passes μ (f_X12_isShip μ a1)).2) x2) ≤ 0 then (f_X12_oldestOpen_L16 μ a1 n (x2 + (1 : Int32))) else (x2, (f_X12_passes μ (f_X12_isShip μ a1)).2)) else (f_X12_oldestOpen_L16 μ a1 n (x2 + (1 : Int32)))))
def f_X12_oldestOpen (μ : Mm) (a1 : Int32) : Int32 × Mm := (if (f_X12_passes μ (f_X12_isShip μ a1)).1 then (f_X12_oldestOpen_L16 μ a1 61 (0 : Int32)) else ((0 : Int32), (f_X12_passes μ (f_X12_isShip μ a1)).2))
set_option maxRecDepth 20000 in
set_option maxHeartbeats 4000000 in
theorem c_X12_oldestOpen (l : Launch) (D : va_G) (cA : Nat → ClassId) (s0 : State) (b : Nat) (μ : Mm) (sz : Nat) (hok : OkR (μ.1 1)) (a1 : Int32) : Met l yX12_oldestOpen (wsG yX12_oldestOpen cX12_oldestOpen 3 (some (FieldType.int))) { frames := 4, cells := 0, slots := 0, locals := 92 } (xP D cA s0 [.ref b, .int a1] (fun H => H.size = sz ∧ RM D cA b μ H)) (xQm (some (.int (f_X12_oldestOpen μ a1).1)) (fun H => RM D cA b (f_X12_oldestOpen μ a1).2 H) (xA b 8 sz)) 0 0 (xA b 8 sz) := by
  refine x_start (own := RX12) [(0, .ref b), (1, .int a1)] rfl rfl (by decide) (nb rfl) ?_
  intro p e s m args below meth c C hw
  obtain ⟨F, hF⟩ : ∃ z, z = (f_X12_oldestOpen μ a1) := ⟨_, rfl⟩
  rw [← hF]
  obtain ⟨hsz, hw⟩ := hw
  subst hsz
  have hS : va_S (xA b 8 s.heap.size) s.heap s.heap [] := va_S.rf
  have hL16 : ∀ (n : Nat) (x2 : Int32) (hf1_16 : vp_in a1 8) (hnx2 : x2 = nI (cl x2)) (hbx2 : cl x2 ≤ 60) (hmx2 : 60 < cl x2 + n) (H : Heap) (locs : List Loc) (hw : RM D cA b ((f_X12_passes μ (f_X12_isShip μ a1)).2) H) (hS : va_S (xA b 8 s.heap.size) s.heap H locs), F = f_X12_oldestOpen_L16 μ a1 n x2 → xW p l e { frames := 4, cells := 0, slots := 0, locals := 92 } s m args below meth c 3 (MQ below (xQm (some (.int F.1)) (fun H => RM D cA b F.2 H) (xA b 8 s.heap.size)) args s 0 0 (xA b 8 s.heap.size)) H locs 0 0 16 [(0, .ref b), (1, .int a1), (2, .int x2)] [] := by
    intro n
    induction n with
    | zero =>
      intro x2 hf1_16 hnx2 hbx2 hmx2 H locs hw hS hF
      exact False.elim (by omega)
    | succ n ih =>
      intro x2 hf1_16 hnx2 hbx2 hmx2 H locs hw hS hF
      have ih16 := ih
      obtain ⟨hnf1_16, hlf1_16⟩ := vpn hf1_16 (by decide)
      refine x_iload_n C dX12_oldestOpen_16 rfl ?_
      refine x_aload_n C dX12_oldestOpen_17 rfl ?_
      refine x_get (.ref (b + 1)) C fl_X12_17 (M_obj hw) rfl dX12_oldestOpen_18 ?_
      refine x_iconst (2 : Int32) C dX12_oldestOpen_21 rfl ?_
      refine x_ialdN C (M_a1 hw) (ixl (x := (2 : Int32)) 2 rfl) (by omega) (by decide) dX12_oldestOpen_22 ?_
      obtain ⟨hn4, hl5⟩ := vpn (OkR_2 (ok_p1 hok)) (by decide)
      refine x_icmp_ge 51 C dX12_oldestOpen_23 (by decide) (fun c6 => ?_) (fun c6 => ?_)
      · have hF := hF.trans (if_pos c6)
        have q7 := (nleI hn4 hnx2 (by omega) (by omega)).mp c6
        refine x_iconst (-1 : Int32) C dX12_oldestOpen_51 rfl ?_
        exact x_iretM C rfl dX12_oldestOpen_52 (e_i (congrArg Prod.fst hF)) (by rw [hF]; exact hw) hS
      · have hF := hF.trans (if_neg c6)
        have q7 := mt (nleI hn4 hnx2 (by omega) (by omega)).mpr c6
        refine x_aload_n C dX12_oldestOpen_26 rfl ?_
        refine x_iload_n C dX12_oldestOpen_27 rfl ?_
        refine x_goR (fun ls h => x_runV (As := [.int x2]) [] h C ml_X12_368 (c_X12_shipOf l D cA s0 b ((f_X12_passes μ (f_X12_isShip μ a1)).2) (ok_p1 hok) x2 (ixin hnx2 (by omega) (by decide))) ⟨rfl, rfl, nb rfl, nb rfl⟩ rfl (M_obj hw) rfl hw (nb rfl) ⟨Nat.zero_le _, Nat.zero_le _⟩ dX12_oldestOpen_28) ?_
        obtain ⟨hn8, hl9⟩ := vpn (f_shipOf_in (ok_p1 hok) (ixin hnx2 (by omega) (by decide))) (by decide)
        refine x_iload_n C dX12_oldestOpen_31 rfl ?_
        refine x_icmp_ne 45 C dX12_oldestOpen_32 (by decide) (fun c10 => ?_) (fun c10 => ?_)
        · have hF := hF.trans (if_neg c10)
          have q11 := mt (neqI hn8 hnf1_16 (by omega) (by omega)).mpr c10
          refine x_iinc (x2 + (1 : Int32)) [(2, .int (x2 + (1 : Int32))), (0, .ref b), (1, .int a1)] C dX12_oldestOpen_45 rfl rfl (by decide) rfl ?_
          refine x_goto 16 C dX12_oldestOpen_48 (by decide) ?_
          refine x_sub [(0, .ref b), (1, .int a1), (2, .int (x2 + (1 : Int32)))] [1, 2, 0] rfl ?_
          exact ih16 (x2 + (1 : Int32)) (ixin hnf1_16 (by omega) (by decide)) (natS (ixa hnx2 (ixl (x := (1 : Int32)) 1 rfl)) (by omega)).1 (by rw [(natS (ixa hnx2 (ixl (x := (1 : Int32)) 1 rfl)) (by omega)).2]; omega) (by rw [(natS (ixa hnx2 (ixl (x := (1 : Int32)) 1 rfl)) (by omega)).2]; omega) _ _ hw hS hF
        · have hF := hF.trans (if_pos c10)
          have q11 := (neqI hn8 hnf1_16 (by omega) (by omega)).mp c10
          refine x_aload_n C dX12_oldestOpen_35 rfl ?_
          refine x_iload_n C dX12_oldestOpen_36 rfl ?_
          refine x_goR (fun ls h => x_runV (As := [.int x2]) [] h C ml_X12_383 (c_X12_openOf l D cA s0 b ((f_X12_passes μ (f_X12_isShip μ a1)).2) (ok_p1 hok) x2 (ixin hnx2 (by omega) (by decide))) ⟨rfl, rfl, nb rfl, nb rfl⟩ rfl (M_obj hw) rfl hw (nb rfl) ⟨Nat.zero_le _, Nat.zero_le _⟩ dX12_oldestOpen_37) ?_
          refine x_if_le 45 C dX12_oldestOpen_40 (by decide) (fun c12 => ?_) (fun c12 => ?_)
          · have hF := hF.trans (if_pos c12)
            refine x_iinc (x2 + (1 : Int32)) [(2, .int (x2 + (1 : Int32))), (0, .ref b), (1, .int a1)] C dX12_oldestOpen_45 rfl rfl (by decide) rfl ?_
            refine x_goto 16 C dX12_oldestOpen_48 (by decide) ?_
            refine x_sub [(0, .ref b), (1, .int a1), (2, .int (x2 + (1 : Int32)))] [1, 2, 0] rfl ?_
            exact ih16 (x2 + (1 : Int32)) (ixin hnf1_16 (by omega) (by decide)) (natS (ixa hnx2 (ixl (x := (1 : Int32)) 1 rfl)) (by omega)).1 (by rw [(natS (ixa hnx2 (ixl (x := (1 : Int32)) 1 rfl)) (by omega)).2]; omega) (by rw [(natS (ixa hnx2 (ixl (x := (1 : Int32)) 1 rfl)) (by omega)).2]; omega) _ _ hw hS hF
          · have hF := hF.trans (if_neg c12)
            refine x_iload_n C dX12_oldestOpen_43 rfl ?_
            exact x_iretM C rfl dX12_oldestOpen_44 (e_i (congrArg Prod.fst hF)) (by rw [hF]; exact hw) hS
  refine x_aload_n C dX12_oldestOpen_0 rfl ?_
  refine x_aload_n C dX12_oldestOpen_1 rfl ?_
  refine x_iload_n C dX12_oldestOpen_2 rfl ?_
  refine x_goR (fun ls h => x_runV (As := [.int a1]) [.ref b] h C ml_X12_282 (c_X12_isShip l D cA s0 b μ a1 ) ⟨rfl, rfl, nb rfl, nb rfl⟩ rfl (M_obj hw) rfl hw (nb rfl) ⟨Nat.zero_le _, Nat.zero_le _⟩ dX12_oldestOpen_3) ?_
  refine x_goM (fun ls h => x_runV (As := [.int (bI (f_X12_isShip μ a1))]) [] h C ml_X12_62 (c_X12_passes l D cA s0 b μ _ (f_X12_isShip μ a1) ) ⟨rfl, rfl, nb rfl, nb rfl⟩ rfl (M_obj hw) rfl ⟨rfl, hw⟩ (nb rfl) ⟨Nat.zero_le _, Nat.zero_le _⟩ dX12_oldestOpen_6) hS (xA_le hS) (fun H locs hw hz hk hS => ?_)
  have hw : RM D cA b ((f_X12_passes μ (f_X12_isShip μ a1)).2) H := hw
  refine x_ifB_ne 14 C dX12_oldestOpen_9 (by decide) (fun c1 => ?_) (fun c1 => ?_)
  · have hF := hF.trans (if_pos c1)
    obtain ⟨hn2, hl3⟩ := vpn (isShip_in hok (p1 c1)) (by decide)
    refine x_iconst (0 : Int32) C dX12_oldestOpen_14 rfl ?_
    refine x_istore_n [(2, .int (0 : Int32)), (0, .ref b), (1, .int a1)] C dX12_oldestOpen_15 rfl (by decide) rfl ?_
    refine x_sub [(0, .ref b), (1, .int a1), (2, .int (0 : Int32))] [1, 2, 0] rfl ?_
    exact hL16 61 (0 : Int32) (ixin hn2 (by omega) (by decide)) (natS (ixl (x := (0 : Int32)) 0 rfl) (by omega)).1 (by rw [(natS (ixl (x := (0 : Int32)) 0 rfl) (by omega)).2]; omega) (by rw [(natS (ixl (x := (0 : Int32)) 0 rfl) (by omega)).2]; omega) _ _ hw hS hF
  · have hF := hF.trans (if_neg (nbt c1))
    refine x_iconst (0 : Int32) C dX12_oldestOpen_12 rfl ?_
    exact x_iretM C rfl dX12_oldestOpen_13 (e_i (congrArg Prod.fst hF)) (by rw [hF]; exact hw) hS
def f_X12_calls (μ : Mm) (a1 : Int32) (a2 : Int32) : Int32 × Mm := (if (f_X12_passes2 μ (f_X12_isShip μ a1) (f_X12_isYear a2)).1 then (f_X12_callsIn ((f_X12_passes2 μ (f_X12_isShip μ a1) (f_X12_isYear a2)).2) a1 a2, (f_X12_passes2 μ (f_X12_isShip μ a1) (f_X12_isYear a2)).2) else ((0 : Int32), (f_X12_passes2 μ (f_X12_isShip μ a1) (f_X12_isYear a2)).2))
set_option maxRecDepth 20000 in
set_option maxHeartbeats 4000000 in
theorem c_X12_calls (l : Launch) (D : va_G) (cA : Nat → ClassId) (s0 : State) (b : Nat) (μ : Mm) (sz : Nat) (hok : OkR (μ.1 1)) (a1 : Int32) (a2 : Int32) : Met l yX12_calls (wsG yX12_calls cX12_calls 3 (some (FieldType.int))) { frames := 3, cells := 0, slots := 0, locals := 68 } (xP D cA s0 [.ref b, .int a1, .int a2] (fun H => H.size = sz ∧ RM D cA b μ H)) (xQm (some (.int (f_X12_calls μ a1 a2).1)) (fun H => RM D cA b (f_X12_calls μ a1 a2).2 H) (xA b 8 sz)) 0 0 (xA b 8 sz) := by
  refine x_start (own := RX12) [(0, .ref b), (1, .int a1), (2, .int a2)] rfl rfl (by decide) (nb rfl) ?_
  intro p e s m args below meth c C hw
  obtain ⟨F, hF⟩ : ∃ z, z = (f_X12_calls μ a1 a2) := ⟨_, rfl⟩
  rw [← hF]
  obtain ⟨hsz, hw⟩ := hw
  subst hsz
  have hS : va_S (xA b 8 s.heap.size) s.heap s.heap [] := va_S.rf
  refine x_aload_n C dX12_calls_0 rfl ?_
  refine x_aload_n C dX12_calls_1 rfl ?_
  refine x_iload_n C dX12_calls_2 rfl ?_
  refine x_goR (fun ls h => x_runV (As := [.int a1]) [.ref b] h C ml_X12_282 (c_X12_isShip l D cA s0 b μ a1 ) ⟨rfl, rfl, nb rfl, nb rfl⟩ rfl (M_obj hw) rfl hw (nb rfl) ⟨Nat.zero_le _, Nat.zero_le _⟩ dX12_calls_3) ?_
  refine x_iload_n C dX12_calls_6 rfl ?_
  refine x_goR (fun ls h => x_runS (As := [.int a2]) [.int (bI (f_X12_isShip μ a1)), .ref b] h C ml_X12_339 (c_X12_isYear l D cA s0 a2 ) ⟨rfl, rfl, nb rfl, nb rfl⟩ rfl trivial (nb rfl) ⟨Nat.zero_le _, Nat.zero_le _⟩ dX12_calls_7) ?_
  refine x_goM (fun ls h => x_runV (As := [.int (bI (f_X12_isShip μ a1)), .int (bI (f_X12_isYear a2))]) [] h C ml_X12_263 (c_X12_passes2 l D cA s0 b μ _ (f_X12_isShip μ a1) (f_X12_isYear a2) ) ⟨rfl, rfl, nb rfl, nb rfl⟩ rfl (M_obj hw) rfl ⟨rfl, hw⟩ (nb rfl) ⟨Nat.zero_le _, Nat.zero_le _⟩ dX12_calls_10) hS (xA_le hS) (fun H locs hw hz hk hS => ?_)
  have hw : RM D cA b ((f_X12_passes2 μ (f_X12_isShip μ a1) (f_X12_isYear a2)).2) H := hw
  refine x_ifB_eq 25 C dX12_calls_13 (by decide) (fun c1 => ?_) (fun c1 => ?_)
  · have hF := hF.trans (if_neg (nbt c1))
    refine x_iconst (0 : Int32) C dX12_calls_25 rfl ?_
    exact x_iretM C rfl dX12_calls_26 (e_i (congrArg Prod.fst hF)) (by rw [hF]; exact hw) hS
  · have hF := hF.trans (if_pos c1)
    obtain ⟨hn2, hl3⟩ := vpn (isShip_in hok (p2a c1)) (by decide)
    refine x_aload_n C dX12_calls_16 rfl ?_
    refine x_iload_n C dX12_calls_17 rfl ?_
    refine x_iload_n C dX12_calls_18 rfl ?_
    refine x_goR (fun ls h => x_runV (As := [.int a1, .int a2]) [] h C ml_X12_342 (c_X12_callsIn l D cA s0 b ((f_X12_passes2 μ (f_X12_isShip μ a1) (f_X12_isYear a2)).2) (ok_p2 hok) a1 a2 ) ⟨rfl, rfl, nb rfl, nb rfl⟩ rfl (M_obj hw) rfl hw (nb rfl) ⟨Nat.zero_le _, Nat.zero_le _⟩ dX12_calls_19) ?_
    refine x_goto 26 C dX12_calls_22 (by decide) ?_
    exact x_iretM C rfl dX12_calls_26 (e_i (congrArg Prod.fst hF)) (by rw [hF]; exact hw) hS
def f_X12_rebates_L23 (μ : Mm) (a1 : Int32) (a2 : Int32) : Nat → Int64 → Int32 → Int64 × Mm
  | 0, _, _ => (0, μ)
  | n + 1, x3, x5 => (if (((f_X12_passes2 μ (f_X12_isShip μ a1) (f_X12_isYear a2)).2).1 1 1) ≤ x5 then (x3, (f_X12_passes2 μ (f_X12_isShip μ a1) (f_X12_isYear a2)).2) else (if (f_X12_ofCall ((f_X12_passes2 μ (f_X12_isShip μ a1) (f_X12_isYear a2)).2) x5 (0 : Int32)) = a1 then (if (f_X12_yearOf ((f_X12_passes2 μ (f_X12_isShip μ a1) (f_X12_isYear a2)).2) x5) = a2 then (f_X12_rebates_L23 μ a1 a2 n (x3 + ((f_X12_amountOf ((f_X12_passes2 μ (f_X12_isShip μ a1) (f_X12_isYear a2)).2) x5 (1 : Int32)).toInt64)) (x5 + (1 : Int32))) else (f_X12_rebates_L23 μ a1 a2 n (x3 + (0 : Int64)) (x5 + (1 : Int32)))) else (f_X12_rebates_L23 μ a1 a2 n (x3 + (0 : Int64)) (x5 + (1 : Int32)))))
def f_X12_rebates (μ : Mm) (a1 : Int32) (a2 : Int32) : Int64 × Mm := (if (f_X12_passes2 μ (f_X12_isShip μ a1) (f_X12_isYear a2)).1 then (f_X12_rebates_L23 μ a1 a2 42 (0 : Int64) (0 : Int32)) else ((0 : Int64), (f_X12_passes2 μ (f_X12_isShip μ a1) (f_X12_isYear a2)).2))
set_option maxRecDepth 20000 in
set_option maxHeartbeats 4000000 in
theorem c_X12_rebates (l : Launch) (D : va_G) (cA : Nat → ClassId) (s0 : State) (b : Nat) (μ : Mm) (sz : Nat) (hok : OkR (μ.1 1)) (a1 : Int32) (a2 : Int32) : Met l yX12_rebates (wsG yX12_rebates cX12_rebates 6 (some (FieldType.long))) { frames := 6, cells := 0, slots := 0, locals := 139 } (xP D cA s0 [.ref b, .int a1, .int a2] (fun H => H.size = sz ∧ RM D cA b μ H)) (xQm (some (.long (f_X12_rebates μ a1 a2).1)) (fun H => RM D cA b (f_X12_rebates μ a1 a2).2 H) (xA b 8 sz)) 0 0 (xA b 8 sz) := by
  refine x_start (own := RX12) [(0, .ref b), (1, .int a1), (2, .int a2)] rfl rfl (by decide) (nb rfl) ?_
  intro p e s m args below meth c C hw
  obtain ⟨F, hF⟩ : ∃ z, z = (f_X12_rebates μ a1 a2) := ⟨_, rfl⟩
  rw [← hF]
  obtain ⟨hsz, hw⟩ := hw
  subst hsz
  have hS : va_S (xA b 8 s.heap.size) s.heap s.heap [] := va_S.rf
  have hL23 : ∀ (n : Nat) (x3 : Int64) (x5 : Int32) (hf1_23 : vp_in a1 8) (hnx5 : x5 = nI (cl x5)) (hbx5 : cl x5 ≤ 41) (hmx5 : 41 < cl x5 + n) (H : Heap) (locs : List Loc) (hw : RM D cA b ((f_X12_passes2 μ (f_X12_isShip μ a1) (f_X12_isYear a2)).2) H) (hS : va_S (xA b 8 s.heap.size) s.heap H locs), F = f_X12_rebates_L23 μ a1 a2 n x3 x5 → xW p l e { frames := 6, cells := 0, slots := 0, locals := 139 } s m args below meth c 6 (MQ below (xQm (some (.long F.1)) (fun H => RM D cA b F.2 H) (xA b 8 s.heap.size)) args s 0 0 (xA b 8 s.heap.size)) H locs 0 0 23 [(0, .ref b), (1, .int a1), (2, .int a2), (3, .long x3), (5, .int x5)] [] := by
    intro n
    induction n with
    | zero =>
      intro x3 x5 hf1_23 hnx5 hbx5 hmx5 H locs hw hS hF
      exact False.elim (by omega)
    | succ n ih =>
      intro x3 x5 hf1_23 hnx5 hbx5 hmx5 H locs hw hS hF
      have ih23 := ih
      obtain ⟨hnf1_23, hlf1_23⟩ := vpn hf1_23 (by decide)
      refine x_iload C dX12_rebates_23 rfl ?_
      refine x_aload_n C dX12_rebates_25 rfl ?_
      refine x_get (.ref (b + 1)) C fl_X12_17 (M_obj hw) rfl dX12_rebates_26 ?_
      refine x_iconst (1 : Int32) C dX12_rebates_29 rfl ?_
      refine x_ialdN C (M_a1 hw) (ixl (x := (1 : Int32)) 1 rfl) (by omega) (by decide) dX12_rebates_30 ?_
      obtain ⟨hn4, hl5⟩ := vpn (OkR_1 (ok_p2 hok)) (by decide)
      refine x_icmp_ge 76 C dX12_rebates_31 (by decide) (fun c6 => ?_) (fun c6 => ?_)
      · have hF := hF.trans (if_pos c6)
        have q7 := (nleI hn4 hnx5 (by omega) (by omega)).mp c6
        refine x_lload_n C dX12_rebates_76 rfl ?_
        exact x_lretM C rfl dX12_rebates_77 (e_l (congrArg Prod.fst hF)) (by rw [hF]; exact hw) hS
      · have hF := hF.trans (if_neg c6)
        have q7 := mt (nleI hn4 hnx5 (by omega) (by omega)).mpr c6
        refine x_lload_n C dX12_rebates_34 rfl ?_
        refine x_aload_n C dX12_rebates_35 rfl ?_
        refine x_iload C dX12_rebates_36 rfl ?_
        refine x_iconst (0 : Int32) C dX12_rebates_38 rfl ?_
        refine x_goR (fun ls h => x_runV (As := [.int x5, .int (0 : Int32)]) [.long x3] h C ml_X12_248 (c_X12_ofCall l D cA s0 b ((f_X12_passes2 μ (f_X12_isShip μ a1) (f_X12_isYear a2)).2) x5 (0 : Int32) (ixin hnx5 (by omega) (by decide)) (ixin (ixl (x := (0 : Int32)) 0 rfl) (by omega) (by decide))) ⟨rfl, rfl, nb rfl, nb rfl⟩ rfl (M_obj hw) rfl hw (nb rfl) ⟨Nat.zero_le _, Nat.zero_le _⟩ dX12_rebates_39) ?_
        obtain ⟨hn8, hl9⟩ := vpn (f_ofCall_ship (ok_p2 hok) (ixin hnx5 (by omega) (by decide))) (by decide)
        refine x_iload_n C dX12_rebates_42 rfl ?_
        refine x_icmp_ne 67 C dX12_rebates_43 (by decide) (fun c10 => ?_) (fun c10 => ?_)
        · have hF := hF.trans (if_neg c10)
          have q11 := mt (neqI hn8 hnf1_23 (by omega) (by omega)).mpr c10
          refine x_lconst (0 : Int64) C dX12_rebates_67 rfl ?_
          refine x_ladd C dX12_rebates_68 ?_
          refine x_lstore_n [(3, .long (x3 + (0 : Int64))), (0, .ref b), (1, .int a1), (2, .int a2), (5, .int x5)] C dX12_rebates_69 rfl (by decide) rfl ?_
          refine x_iinc (x5 + (1 : Int32)) [(5, .int (x5 + (1 : Int32))), (3, .long (x3 + (0 : Int64))), (0, .ref b), (1, .int a1), (2, .int a2)] C dX12_rebates_70 rfl rfl (by decide) rfl ?_
          refine x_goto 23 C dX12_rebates_73 (by decide) ?_
          refine x_sub [(0, .ref b), (1, .int a1), (2, .int a2), (3, .long (x3 + (0 : Int64))), (5, .int (x5 + (1 : Int32)))] [2, 3, 4, 1, 0] rfl ?_
          exact ih23 (x3 + (0 : Int64)) (x5 + (1 : Int32)) (ixin hnf1_23 (by omega) (by decide)) (natS (ixa hnx5 (ixl (x := (1 : Int32)) 1 rfl)) (by omega)).1 (by rw [(natS (ixa hnx5 (ixl (x := (1 : Int32)) 1 rfl)) (by omega)).2]; omega) (by rw [(natS (ixa hnx5 (ixl (x := (1 : Int32)) 1 rfl)) (by omega)).2]; omega) _ _ hw hS hF
        · have hF := hF.trans (if_pos c10)
          have q11 := (neqI hn8 hnf1_23 (by omega) (by omega)).mp c10
          refine x_aload_n C dX12_rebates_46 rfl ?_
          refine x_iload C dX12_rebates_47 rfl ?_
          refine x_goR (fun ls h => x_runV (As := [.int x5]) [.long x3] h C ml_X12_292 (c_X12_yearOf l D cA s0 b ((f_X12_passes2 μ (f_X12_isShip μ a1) (f_X12_isYear a2)).2) x5 (ixin hnx5 (by omega) (by decide))) ⟨rfl, rfl, nb rfl, nb rfl⟩ rfl (M_obj hw) rfl hw (nb rfl) ⟨Nat.zero_le _, Nat.zero_le _⟩ dX12_rebates_49) ?_
          refine x_iload_n C dX12_rebates_52 rfl ?_
          refine x_icmp_ne 67 C dX12_rebates_53 (by decide) (fun c12 => ?_) (fun c12 => ?_)
          · have hF := hF.trans (if_neg c12)
            refine x_lconst (0 : Int64) C dX12_rebates_67 rfl ?_
            refine x_ladd C dX12_rebates_68 ?_
            refine x_lstore_n [(3, .long (x3 + (0 : Int64))), (0, .ref b), (1, .int a1), (2, .int a2), (5, .int x5)] C dX12_rebates_69 rfl (by decide) rfl ?_
            refine x_iinc (x5 + (1 : Int32)) [(5, .int (x5 + (1 : Int32))), (3, .long (x3 + (0 : Int64))), (0, .ref b), (1, .int a1), (2, .int a2)] C dX12_rebates_70 rfl rfl (by decide) rfl ?_
            refine x_goto 23 C dX12_rebates_73 (by decide) ?_
            refine x_sub [(0, .ref b), (1, .int a1), (2, .int a2), (3, .long (x3 + (0 : Int64))), (5, .int (x5 + (1 : Int32)))] [2, 3, 4, 1, 0] rfl ?_
            exact ih23 (x3 + (0 : Int64)) (x5 + (1 : Int32)) (ixin hnf1_23 (by omega) (by decide)) (natS (ixa hnx5 (ixl (x := (1 : Int32)) 1 rfl)) (by omega)).1 (by rw [(natS (ixa hnx5 (ixl (x := (1 : Int32)) 1 rfl)) (by omega)).2]; omega) (by rw [(natS (ixa hnx5 (ixl (x := (1 : Int32)) 1 rfl)) (by omega)).2]; omega) _ _ hw hS hF
          · have hF := hF.trans (if_pos c12)
            refine x_aload_n C dX12_rebates_56 rfl ?_
            refine x_iload C dX12_rebates_57 rfl ?_
            refine x_iconst (1 : Int32) C dX12_rebates_59 rfl ?_
            refine x_goR (fun ls h => x_runV (As := [.int x5, .int (1 : Int32)]) [.long x3] h C ml_X12_336 (c_X12_amountOf l D cA s0 b ((f_X12_passes2 μ (f_X12_isShip μ a1) (f_X12_isYear a2)).2) (ok_p2 hok) x5 (1 : Int32) (ixin hnx5 (by omega) (by decide))) ⟨rfl, rfl, nb rfl, nb rfl⟩ rfl (M_obj hw) rfl hw (nb rfl) ⟨Nat.zero_le _, Nat.zero_le _⟩ dX12_rebates_60) ?_
            refine x_i2l C dX12_rebates_63 ?_
            refine x_goto 68 C dX12_rebates_64 (by decide) ?_
            refine x_ladd C dX12_rebates_68 ?_
            refine x_lstore_n [(3, .long (x3 + ((f_X12_amountOf ((f_X12_passes2 μ (f_X12_isShip μ a1) (f_X12_isYear a2)).2) x5 (1 : Int32)).toInt64))), (0, .ref b), (1, .int a1), (2, .int a2), (5, .int x5)] C dX12_rebates_69 rfl (by decide) rfl ?_
            refine x_iinc (x5 + (1 : Int32)) [(5, .int (x5 + (1 : Int32))), (3, .long (x3 + ((f_X12_amountOf ((f_X12_passes2 μ (f_X12_isShip μ a1) (f_X12_isYear a2)).2) x5 (1 : Int32)).toInt64))), (0, .ref b), (1, .int a1), (2, .int a2)] C dX12_rebates_70 rfl rfl (by decide) rfl ?_
            refine x_goto 23 C dX12_rebates_73 (by decide) ?_
            refine x_sub [(0, .ref b), (1, .int a1), (2, .int a2), (3, .long (x3 + ((f_X12_amountOf ((f_X12_passes2 μ (f_X12_isShip μ a1) (f_X12_isYear a2)).2) x5 (1 : Int32)).toInt64))), (5, .int (x5 + (1 : Int32)))] [2, 3, 4, 1, 0] rfl ?_
            exact ih23 (x3 + ((f_X12_amountOf ((f_X12_passes2 μ (f_X12_isShip μ a1) (f_X12_isYear a2)).2) x5 (1 : Int32)).toInt64)) (x5 + (1 : Int32)) (ixin hnf1_23 (by omega) (by decide)) (natS (ixa hnx5 (ixl (x := (1 : Int32)) 1 rfl)) (by omega)).1 (by rw [(natS (ixa hnx5 (ixl (x := (1 : Int32)) 1 rfl)) (by omega)).2]; omega) (by rw [(natS (ixa hnx5 (ixl (x := (1 : Int32)) 1 rfl)) (by omega)).2]; omega) _ _ hw hS hF
  refine x_aload_n C dX12_rebates_0 rfl ?_
  refine x_aload_n C dX12_rebates_1 rfl ?_
  refine x_iload_n C dX12_rebates_2 rfl ?_
  refine x_goR (fun ls h => x_runV (As := [.int a1]) [.ref b] h C ml_X12_282 (c_X12_isShip l D cA s0 b μ a1 ) ⟨rfl, rfl, nb rfl, nb rfl⟩ rfl (M_obj hw) rfl hw (nb rfl) ⟨Nat.zero_le _, Nat.zero_le _⟩ dX12_rebates_3) ?_
  refine x_iload_n C dX12_rebates_6 rfl ?_
  refine x_goR (fun ls h => x_runS (As := [.int a2]) [.int (bI (f_X12_isShip μ a1)), .ref b] h C ml_X12_339 (c_X12_isYear l D cA s0 a2 ) ⟨rfl, rfl, nb rfl, nb rfl⟩ rfl trivial (nb rfl) ⟨Nat.zero_le _, Nat.zero_le _⟩ dX12_rebates_7) ?_
  refine x_goM (fun ls h => x_runV (As := [.int (bI (f_X12_isShip μ a1)), .int (bI (f_X12_isYear a2))]) [] h C ml_X12_263 (c_X12_passes2 l D cA s0 b μ _ (f_X12_isShip μ a1) (f_X12_isYear a2) ) ⟨rfl, rfl, nb rfl, nb rfl⟩ rfl (M_obj hw) rfl ⟨rfl, hw⟩ (nb rfl) ⟨Nat.zero_le _, Nat.zero_le _⟩ dX12_rebates_10) hS (xA_le hS) (fun H locs hw hz hk hS => ?_)
  have hw : RM D cA b ((f_X12_passes2 μ (f_X12_isShip μ a1) (f_X12_isYear a2)).2) H := hw
  refine x_ifB_ne 18 C dX12_rebates_13 (by decide) (fun c1 => ?_) (fun c1 => ?_)
  · have hF := hF.trans (if_pos c1)
    obtain ⟨hn2, hl3⟩ := vpn (isShip_in hok (p2a c1)) (by decide)
    refine x_lconst (0 : Int64) C dX12_rebates_18 rfl ?_
    refine x_lstore_n [(3, .long (0 : Int64)), (0, .ref b), (1, .int a1), (2, .int a2)] C dX12_rebates_19 rfl (by decide) rfl ?_
    refine x_iconst (0 : Int32) C dX12_rebates_20 rfl ?_
    refine x_istore [(5, .int (0 : Int32)), (3, .long (0 : Int64)), (0, .ref b), (1, .int a1), (2, .int a2)] C dX12_rebates_21 (by decide) rfl ?_
    refine x_sub [(0, .ref b), (1, .int a1), (2, .int a2), (3, .long (0 : Int64)), (5, .int (0 : Int32))] [2, 3, 4, 1, 0] rfl ?_
    exact hL23 42 (0 : Int64) (0 : Int32) (ixin hn2 (by omega) (by decide)) (natS (ixl (x := (0 : Int32)) 0 rfl) (by omega)).1 (by rw [(natS (ixl (x := (0 : Int32)) 0 rfl) (by omega)).2]; omega) (by rw [(natS (ixl (x := (0 : Int32)) 0 rfl) (by omega)).2]; omega) _ _ hw hS hF
  · have hF := hF.trans (if_neg (nbt c1))
    refine x_lconst (0 : Int64) C dX12_rebates_16 rfl ?_
    exact x_lretM C rfl dX12_rebates_17 (e_l (congrArg Prod.fst hF)) (by rw [hF]; exact hw) hS
def f_X12_layDays (μ : Mm) (a1 : Int32) : Int32 × Mm := (if (f_X12_passes μ (f_X12_isCall μ a1)).1 then (f_X12_laySet ((f_X12_passes μ (f_X12_isCall μ a1)).2) a1, (f_X12_passes μ (f_X12_isCall μ a1)).2) else ((0 : Int32), (f_X12_passes μ (f_X12_isCall μ a1)).2))
set_option maxRecDepth 20000 in
set_option maxHeartbeats 4000000 in
theorem c_X12_layDays (l : Launch) (D : va_G) (cA : Nat → ClassId) (s0 : State) (b : Nat) (μ : Mm) (sz : Nat) (hok : OkR (μ.1 1)) (a1 : Int32) : Met l yX12_layDays (wsG yX12_layDays cX12_layDays 2 (some (FieldType.int))) { frames := 3, cells := 0, slots := 0, locals := 64 } (xP D cA s0 [.ref b, .int a1] (fun H => H.size = sz ∧ RM D cA b μ H)) (xQm (some (.int (f_X12_layDays μ a1).1)) (fun H => RM D cA b (f_X12_layDays μ a1).2 H) (xA b 8 sz)) 0 0 (xA b 8 sz) := by
  refine x_start (own := RX12) [(0, .ref b), (1, .int a1)] rfl rfl (by decide) (nb rfl) ?_
  intro p e s m args below meth c C hw
  obtain ⟨F, hF⟩ : ∃ z, z = (f_X12_layDays μ a1) := ⟨_, rfl⟩
  rw [← hF]
  obtain ⟨hsz, hw⟩ := hw
  subst hsz
  have hS : va_S (xA b 8 s.heap.size) s.heap s.heap [] := va_S.rf
  refine x_aload_n C dX12_layDays_0 rfl ?_
  refine x_aload_n C dX12_layDays_1 rfl ?_
  refine x_iload_n C dX12_layDays_2 rfl ?_
  refine x_goR (fun ls h => x_runV (As := [.int a1]) [.ref b] h C ml_X12_345 (c_X12_isCall l D cA s0 b μ a1 ) ⟨rfl, rfl, nb rfl, nb rfl⟩ rfl (M_obj hw) rfl hw (nb rfl) ⟨Nat.zero_le _, Nat.zero_le _⟩ dX12_layDays_3) ?_
  refine x_goM (fun ls h => x_runV (As := [.int (bI (f_X12_isCall μ a1))]) [] h C ml_X12_62 (c_X12_passes l D cA s0 b μ _ (f_X12_isCall μ a1) ) ⟨rfl, rfl, nb rfl, nb rfl⟩ rfl (M_obj hw) rfl ⟨rfl, hw⟩ (nb rfl) ⟨Nat.zero_le _, Nat.zero_le _⟩ dX12_layDays_6) hS (xA_le hS) (fun H locs hw hz hk hS => ?_)
  have hw : RM D cA b ((f_X12_passes μ (f_X12_isCall μ a1)).2) H := hw
  refine x_ifB_eq 20 C dX12_layDays_9 (by decide) (fun c1 => ?_) (fun c1 => ?_)
  · have hF := hF.trans (if_neg (nbt c1))
    refine x_iconst (0 : Int32) C dX12_layDays_20 rfl ?_
    exact x_iretM C rfl dX12_layDays_21 (e_i (congrArg Prod.fst hF)) (by rw [hF]; exact hw) hS
  · have hF := hF.trans (if_pos c1)
    obtain ⟨hn2, hl3⟩ := vpn (isCall_in hok (p1 c1)) (by decide)
    refine x_aload_n C dX12_layDays_12 rfl ?_
    refine x_iload_n C dX12_layDays_13 rfl ?_
    refine x_goR (fun ls h => x_runV (As := [.int a1]) [] h C ml_X12_311 (c_X12_laySet l D cA s0 b ((f_X12_passes μ (f_X12_isCall μ a1)).2) (ok_p1 hok) a1 (ixin hn2 (by omega) (by decide))) ⟨rfl, rfl, nb rfl, nb rfl⟩ rfl (M_obj hw) rfl hw (nb rfl) ⟨Nat.zero_le _, Nat.zero_le _⟩ dX12_layDays_14) ?_
    refine x_goto 21 C dX12_layDays_17 (by decide) ?_
    exact x_iretM C rfl dX12_layDays_21 (e_i (congrArg Prod.fst hF)) (by rw [hF]; exact hw) hS
def f_X12_pending (μ : Mm) (a1 : Int32) : Int32 × Mm := (if (f_X12_passes μ (f_X12_isCall μ a1)).1 then (f_X12_ofCall ((f_X12_passes μ (f_X12_isCall μ a1)).2) a1 (5 : Int32), (f_X12_passes μ (f_X12_isCall μ a1)).2) else ((0 : Int32), (f_X12_passes μ (f_X12_isCall μ a1)).2))
set_option maxRecDepth 20000 in
set_option maxHeartbeats 4000000 in
theorem c_X12_pending (l : Launch) (D : va_G) (cA : Nat → ClassId) (s0 : State) (b : Nat) (μ : Mm) (sz : Nat) (hok : OkR (μ.1 1)) (a1 : Int32) : Met l yX12_pending (wsG yX12_pending cX12_pending 2 (some (FieldType.int))) { frames := 2, cells := 0, slots := 0, locals := 46 } (xP D cA s0 [.ref b, .int a1] (fun H => H.size = sz ∧ RM D cA b μ H)) (xQm (some (.int (f_X12_pending μ a1).1)) (fun H => RM D cA b (f_X12_pending μ a1).2 H) (xA b 8 sz)) 0 0 (xA b 8 sz) := by
  refine x_start (own := RX12) [(0, .ref b), (1, .int a1)] rfl rfl (by decide) (nb rfl) ?_
  intro p e s m args below meth c C hw
  obtain ⟨F, hF⟩ : ∃ z, z = (f_X12_pending μ a1) := ⟨_, rfl⟩
  rw [← hF]
  obtain ⟨hsz, hw⟩ := hw
  subst hsz
  have hS : va_S (xA b 8 s.heap.size) s.heap s.heap [] := va_S.rf
  refine x_aload_n C dX12_pending_0 rfl ?_
  refine x_aload_n C dX12_pending_1 rfl ?_
  refine x_iload_n C dX12_pending_2 rfl ?_
  refine x_goR (fun ls h => x_runV (As := [.int a1]) [.ref b] h C ml_X12_345 (c_X12_isCall l D cA s0 b μ a1 ) ⟨rfl, rfl, nb rfl, nb rfl⟩ rfl (M_obj hw) rfl hw (nb rfl) ⟨Nat.zero_le _, Nat.zero_le _⟩ dX12_pending_3) ?_
  refine x_goM (fun ls h => x_runV (As := [.int (bI (f_X12_isCall μ a1))]) [] h C ml_X12_62 (c_X12_passes l D cA s0 b μ _ (f_X12_isCall μ a1) ) ⟨rfl, rfl, nb rfl, nb rfl⟩ rfl (M_obj hw) rfl ⟨rfl, hw⟩ (nb rfl) ⟨Nat.zero_le _, Nat.zero_le _⟩ dX12_pending_6) hS (xA_le hS) (fun H locs hw hz hk hS => ?_)
  have hw : RM D cA b ((f_X12_passes μ (f_X12_isCall μ a1)).2) H := hw
  refine x_ifB_eq 21 C dX12_pending_9 (by decide) (fun c1 => ?_) (fun c1 => ?_)
  · have hF := hF.trans (if_neg (nbt c1))
    refine x_iconst (0 : Int32) C dX12_pending_21 rfl ?_
    exact x_iretM C rfl dX12_pending_22 (e_i (congrArg Prod.fst hF)) (by rw [hF]; exact hw) hS
  · have hF := hF.trans (if_pos c1)
    obtain ⟨hn2, hl3⟩ := vpn (isCall_in hok (p1 c1)) (by decide)
    refine x_aload_n C dX12_pending_12 rfl ?_
    refine x_iload_n C dX12_pending_13 rfl ?_
    refine x_iconst (5 : Int32) C dX12_pending_14 rfl ?_
    refine x_goR (fun ls h => x_runV (As := [.int a1, .int (5 : Int32)]) [] h C ml_X12_248 (c_X12_ofCall l D cA s0 b ((f_X12_passes μ (f_X12_isCall μ a1)).2) a1 (5 : Int32) (ixin hn2 (by omega) (by decide)) (ixin (ixl (x := (5 : Int32)) 5 rfl) (by omega) (by decide))) ⟨rfl, rfl, nb rfl, nb rfl⟩ rfl (M_obj hw) rfl hw (nb rfl) ⟨Nat.zero_le _, Nat.zero_le _⟩ dX12_pending_15) ?_
    refine x_goto 22 C dX12_pending_18 (by decide) ?_
    exact x_iretM C rfl dX12_pending_22 (e_i (congrArg Prod.fst hF)) (by rw [hF]; exact hw) hS
def f_X12_upheld (μ : Mm) (a1 : Int32) : Int32 × Mm := (if (f_X12_passes μ (f_X12_isCall μ a1)).1 then (f_X12_ofCall ((f_X12_passes μ (f_X12_isCall μ a1)).2) a1 (6 : Int32), (f_X12_passes μ (f_X12_isCall μ a1)).2) else ((0 : Int32), (f_X12_passes μ (f_X12_isCall μ a1)).2))
set_option maxRecDepth 20000 in
set_option maxHeartbeats 4000000 in
theorem c_X12_upheld (l : Launch) (D : va_G) (cA : Nat → ClassId) (s0 : State) (b : Nat) (μ : Mm) (sz : Nat) (hok : OkR (μ.1 1)) (a1 : Int32) : Met l yX12_upheld (wsG yX12_upheld cX12_upheld 2 (some (FieldType.int))) { frames := 2, cells := 0, slots := 0, locals := 46 } (xP D cA s0 [.ref b, .int a1] (fun H => H.size = sz ∧ RM D cA b μ H)) (xQm (some (.int (f_X12_upheld μ a1).1)) (fun H => RM D cA b (f_X12_upheld μ a1).2 H) (xA b 8 sz)) 0 0 (xA b 8 sz) := by
  refine x_start (own := RX12) [(0, .ref b), (1, .int a1)] rfl rfl (by decide) (nb rfl) ?_
  intro p e s m args below meth c C hw
  obtain ⟨F, hF⟩ : ∃ z, z = (f_X12_upheld μ a1) := ⟨_, rfl⟩
  rw [← hF]
  obtain ⟨hsz, hw⟩ := hw
  subst hsz
  have hS : va_S (xA b 8 s.heap.size) s.heap s.heap [] := va_S.rf
  refine x_aload_n C dX12_upheld_0 rfl ?_
  refine x_aload_n C dX12_upheld_1 rfl ?_
  refine x_iload_n C dX12_upheld_2 rfl ?_
  refine x_goR (fun ls h => x_runV (As := [.int a1]) [.ref b] h C ml_X12_345 (c_X12_isCall l D cA s0 b μ a1 ) ⟨rfl, rfl, nb rfl, nb rfl⟩ rfl (M_obj hw) rfl hw (nb rfl) ⟨Nat.zero_le _, Nat.zero_le _⟩ dX12_upheld_3) ?_
  refine x_goM (fun ls h => x_runV (As := [.int (bI (f_X12_isCall μ a1))]) [] h C ml_X12_62 (c_X12_passes l D cA s0 b μ _ (f_X12_isCall μ a1) ) ⟨rfl, rfl, nb rfl, nb rfl⟩ rfl (M_obj hw) rfl ⟨rfl, hw⟩ (nb rfl) ⟨Nat.zero_le _, Nat.zero_le _⟩ dX12_upheld_6) hS (xA_le hS) (fun H locs hw hz hk hS => ?_)
  have hw : RM D cA b ((f_X12_passes μ (f_X12_isCall μ a1)).2) H := hw
  refine x_ifB_eq 22 C dX12_upheld_9 (by decide) (fun c1 => ?_) (fun c1 => ?_)
  · have hF := hF.trans (if_neg (nbt c1))
    refine x_iconst (0 : Int32) C dX12_upheld_22 rfl ?_
    exact x_iretM C rfl dX12_upheld_23 (e_i (congrArg Prod.fst hF)) (by rw [hF]; exact hw) hS
  · have hF := hF.trans (if_pos c1)
    obtain ⟨hn2, hl3⟩ := vpn (isCall_in hok (p1 c1)) (by decide)
    refine x_aload_n C dX12_upheld_12 rfl ?_
    refine x_iload_n C dX12_upheld_13 rfl ?_
    refine x_bipush (6 : Int32) C dX12_upheld_14 rfl ?_
    refine x_goR (fun ls h => x_runV (As := [.int a1, .int (6 : Int32)]) [] h C ml_X12_248 (c_X12_ofCall l D cA s0 b ((f_X12_passes μ (f_X12_isCall μ a1)).2) a1 (6 : Int32) (ixin hn2 (by omega) (by decide)) (ixin (ixl (x := (6 : Int32)) 6 rfl) (by omega) (by decide))) ⟨rfl, rfl, nb rfl, nb rfl⟩ rfl (M_obj hw) rfl hw (nb rfl) ⟨Nat.zero_le _, Nat.zero_le _⟩ dX12_upheld_16) ?_
    refine x_goto 23 C dX12_upheld_19 (by decide) ?_
    exact x_iretM C rfl dX12_upheld_23 (e_i (congrArg Prod.fst hF)) (by rw [hF]; exact hw) hS
def f_X12_billedDays (μ : Mm) (a1 : Int32) : Int32 × Mm := (if (f_X12_passes μ (f_X12_isCall μ a1)).1 then (f_X12_billedDaySet ((f_X12_passes μ (f_X12_isCall μ a1)).2) a1, (f_X12_passes μ (f_X12_isCall μ a1)).2) else ((0 : Int32), (f_X12_passes μ (f_X12_isCall μ a1)).2))
set_option maxRecDepth 20000 in
set_option maxHeartbeats 4000000 in
theorem c_X12_billedDays (l : Launch) (D : va_G) (cA : Nat → ClassId) (s0 : State) (b : Nat) (μ : Mm) (sz : Nat) (hok : OkR (μ.1 1)) (a1 : Int32) : Met l yX12_billedDays (wsG yX12_billedDays cX12_billedDays 2 (some (FieldType.int))) { frames := 2, cells := 0, slots := 0, locals := 46 } (xP D cA s0 [.ref b, .int a1] (fun H => H.size = sz ∧ RM D cA b μ H)) (xQm (some (.int (f_X12_billedDays μ a1).1)) (fun H => RM D cA b (f_X12_billedDays μ a1).2 H) (xA b 8 sz)) 0 0 (xA b 8 sz) := by
  refine x_start (own := RX12) [(0, .ref b), (1, .int a1)] rfl rfl (by decide) (nb rfl) ?_
  intro p e s m args below meth c C hw
  obtain ⟨F, hF⟩ : ∃ z, z = (f_X12_billedDays μ a1) := ⟨_, rfl⟩
  rw [← hF]
  obtain ⟨hsz, hw⟩ := hw
  subst hsz
  have hS : va_S (xA b 8 s.heap.size) s.heap s.heap [] := va_S.rf
  refine x_aload_n C dX12_billedDays_0 rfl ?_
  refine x_aload_n C dX12_billedDays_1 rfl ?_
  refine x_iload_n C dX12_billedDays_2 rfl ?_
  refine x_goR (fun ls h => x_runV (As := [.int a1]) [.ref b] h C ml_X12_345 (c_X12_isCall l D cA s0 b μ a1 ) ⟨rfl, rfl, nb rfl, nb rfl⟩ rfl (M_obj hw) rfl hw (nb rfl) ⟨Nat.zero_le _, Nat.zero_le _⟩ dX12_billedDays_3) ?_
  refine x_goM (fun ls h => x_runV (As := [.int (bI (f_X12_isCall μ a1))]) [] h C ml_X12_62 (c_X12_passes l D cA s0 b μ _ (f_X12_isCall μ a1) ) ⟨rfl, rfl, nb rfl, nb rfl⟩ rfl (M_obj hw) rfl ⟨rfl, hw⟩ (nb rfl) ⟨Nat.zero_le _, Nat.zero_le _⟩ dX12_billedDays_6) hS (xA_le hS) (fun H locs hw hz hk hS => ?_)
  have hw : RM D cA b ((f_X12_passes μ (f_X12_isCall μ a1)).2) H := hw
  refine x_ifB_eq 20 C dX12_billedDays_9 (by decide) (fun c1 => ?_) (fun c1 => ?_)
  · have hF := hF.trans (if_neg (nbt c1))
    refine x_iconst (0 : Int32) C dX12_billedDays_20 rfl ?_
    exact x_iretM C rfl dX12_billedDays_21 (e_i (congrArg Prod.fst hF)) (by rw [hF]; exact hw) hS
  · have hF := hF.trans (if_pos c1)
    obtain ⟨hn2, hl3⟩ := vpn (isCall_in hok (p1 c1)) (by decide)
    refine x_aload_n C dX12_billedDays_12 rfl ?_
    refine x_iload_n C dX12_billedDays_13 rfl ?_
    refine x_goR (fun ls h => x_runV (As := [.int a1]) [] h C ml_X12_314 (c_X12_billedDaySet l D cA s0 b ((f_X12_passes μ (f_X12_isCall μ a1)).2) (ok_p1 hok) a1 ) ⟨rfl, rfl, nb rfl, nb rfl⟩ rfl (M_obj hw) rfl hw (nb rfl) ⟨Nat.zero_le _, Nat.zero_le _⟩ dX12_billedDays_14) ?_
    refine x_goto 21 C dX12_billedDays_17 (by decide) ?_
    exact x_iretM C rfl dX12_billedDays_21 (e_i (congrArg Prod.fst hF)) (by rw [hF]; exact hw) hS
def f_X12_billable (μ : Mm) (a1 : Int32) : Int32 × Mm := (if (f_X12_passes μ (f_X12_isCall μ a1)).1 then (f_X12_billableSet ((f_X12_passes μ (f_X12_isCall μ a1)).2) a1, (f_X12_passes μ (f_X12_isCall μ a1)).2) else ((0 : Int32), (f_X12_passes μ (f_X12_isCall μ a1)).2))
set_option maxRecDepth 20000 in
set_option maxHeartbeats 4000000 in
theorem c_X12_billable (l : Launch) (D : va_G) (cA : Nat → ClassId) (s0 : State) (b : Nat) (μ : Mm) (sz : Nat) (hok : OkR (μ.1 1)) (a1 : Int32) : Met l yX12_billable (wsG yX12_billable cX12_billable 2 (some (FieldType.int))) { frames := 4, cells := 0, slots := 0, locals := 85 } (xP D cA s0 [.ref b, .int a1] (fun H => H.size = sz ∧ RM D cA b μ H)) (xQm (some (.int (f_X12_billable μ a1).1)) (fun H => RM D cA b (f_X12_billable μ a1).2 H) (xA b 8 sz)) 0 0 (xA b 8 sz) := by
  refine x_start (own := RX12) [(0, .ref b), (1, .int a1)] rfl rfl (by decide) (nb rfl) ?_
  intro p e s m args below meth c C hw
  obtain ⟨F, hF⟩ : ∃ z, z = (f_X12_billable μ a1) := ⟨_, rfl⟩
  rw [← hF]
  obtain ⟨hsz, hw⟩ := hw
  subst hsz
  have hS : va_S (xA b 8 s.heap.size) s.heap s.heap [] := va_S.rf
  refine x_aload_n C dX12_billable_0 rfl ?_
  refine x_aload_n C dX12_billable_1 rfl ?_
  refine x_iload_n C dX12_billable_2 rfl ?_
  refine x_goR (fun ls h => x_runV (As := [.int a1]) [.ref b] h C ml_X12_345 (c_X12_isCall l D cA s0 b μ a1 ) ⟨rfl, rfl, nb rfl, nb rfl⟩ rfl (M_obj hw) rfl hw (nb rfl) ⟨Nat.zero_le _, Nat.zero_le _⟩ dX12_billable_3) ?_
  refine x_goM (fun ls h => x_runV (As := [.int (bI (f_X12_isCall μ a1))]) [] h C ml_X12_62 (c_X12_passes l D cA s0 b μ _ (f_X12_isCall μ a1) ) ⟨rfl, rfl, nb rfl, nb rfl⟩ rfl (M_obj hw) rfl ⟨rfl, hw⟩ (nb rfl) ⟨Nat.zero_le _, Nat.zero_le _⟩ dX12_billable_6) hS (xA_le hS) (fun H locs hw hz hk hS => ?_)
  have hw : RM D cA b ((f_X12_passes μ (f_X12_isCall μ a1)).2) H := hw
  refine x_ifB_eq 20 C dX12_billable_9 (by decide) (fun c1 => ?_) (fun c1 => ?_)
  · have hF := hF.trans (if_neg (nbt c1))
    refine x_iconst (0 : Int32) C dX12_billable_20 rfl ?_
    exact x_iretM C rfl dX12_billable_21 (e_i (congrArg Prod.fst hF)) (by rw [hF]; exact hw) hS
  · have hF := hF.trans (if_pos c1)
    obtain ⟨hn2, hl3⟩ := vpn (isCall_in hok (p1 c1)) (by decide)
    refine x_aload_n C dX12_billable_12 rfl ?_
    refine x_iload_n C dX12_billable_13 rfl ?_
    refine x_goR (fun ls h => x_runV (As := [.int a1]) [] h C ml_X12_353 (c_X12_billableSet l D cA s0 b ((f_X12_passes μ (f_X12_isCall μ a1)).2) (ok_p1 hok) a1 (ixin hn2 (by omega) (by decide))) ⟨rfl, rfl, nb rfl, nb rfl⟩ rfl (M_obj hw) rfl hw (nb rfl) ⟨Nat.zero_le _, Nat.zero_le _⟩ dX12_billable_14) ?_
    refine x_goto 21 C dX12_billable_17 (by decide) ?_
    exact x_iretM C rfl dX12_billable_21 (e_i (congrArg Prod.fst hF)) (by rw [hF]; exact hw) hS
def f_X12_callTotal (μ : Mm) (a1 : Int32) : Int32 × Mm := (if (f_X12_passes μ (f_X12_isCall μ a1)).1 then (f_X12_totalOf ((f_X12_passes μ (f_X12_isCall μ a1)).2) a1, (f_X12_passes μ (f_X12_isCall μ a1)).2) else ((0 : Int32), (f_X12_passes μ (f_X12_isCall μ a1)).2))
set_option maxRecDepth 20000 in
set_option maxHeartbeats 4000000 in
theorem c_X12_callTotal (l : Launch) (D : va_G) (cA : Nat → ClassId) (s0 : State) (b : Nat) (μ : Mm) (sz : Nat) (hok : OkR (μ.1 1)) (a1 : Int32) : Met l yX12_callTotal (wsG yX12_callTotal cX12_callTotal 2 (some (FieldType.int))) { frames := 7, cells := 0, slots := 0, locals := 160 } (xP D cA s0 [.ref b, .int a1] (fun H => H.size = sz ∧ RM D cA b μ H)) (xQm (some (.int (f_X12_callTotal μ a1).1)) (fun H => RM D cA b (f_X12_callTotal μ a1).2 H) (xA b 8 sz)) 0 0 (xA b 8 sz) := by
  refine x_start (own := RX12) [(0, .ref b), (1, .int a1)] rfl rfl (by decide) (nb rfl) ?_
  intro p e s m args below meth c C hw
  obtain ⟨F, hF⟩ : ∃ z, z = (f_X12_callTotal μ a1) := ⟨_, rfl⟩
  rw [← hF]
  obtain ⟨hsz, hw⟩ := hw
  subst hsz
  have hS : va_S (xA b 8 s.heap.size) s.heap s.heap [] := va_S.rf
  refine x_aload_n C dX12_callTotal_0 rfl ?_
  refine x_aload_n C dX12_callTotal_1 rfl ?_
  refine x_iload_n C dX12_callTotal_2 rfl ?_
  refine x_goR (fun ls h => x_runV (As := [.int a1]) [.ref b] h C ml_X12_345 (c_X12_isCall l D cA s0 b μ a1 ) ⟨rfl, rfl, nb rfl, nb rfl⟩ rfl (M_obj hw) rfl hw (nb rfl) ⟨Nat.zero_le _, Nat.zero_le _⟩ dX12_callTotal_3) ?_
  refine x_goM (fun ls h => x_runV (As := [.int (bI (f_X12_isCall μ a1))]) [] h C ml_X12_62 (c_X12_passes l D cA s0 b μ _ (f_X12_isCall μ a1) ) ⟨rfl, rfl, nb rfl, nb rfl⟩ rfl (M_obj hw) rfl ⟨rfl, hw⟩ (nb rfl) ⟨Nat.zero_le _, Nat.zero_le _⟩ dX12_callTotal_6) hS (xA_le hS) (fun H locs hw hz hk hS => ?_)
  have hw : RM D cA b ((f_X12_passes μ (f_X12_isCall μ a1)).2) H := hw
  refine x_ifB_eq 20 C dX12_callTotal_9 (by decide) (fun c1 => ?_) (fun c1 => ?_)
  · have hF := hF.trans (if_neg (nbt c1))
    refine x_iconst (0 : Int32) C dX12_callTotal_20 rfl ?_
    exact x_iretM C rfl dX12_callTotal_21 (e_i (congrArg Prod.fst hF)) (by rw [hF]; exact hw) hS
  · have hF := hF.trans (if_pos c1)
    obtain ⟨hn2, hl3⟩ := vpn (isCall_in hok (p1 c1)) (by decide)
    refine x_aload_n C dX12_callTotal_12 rfl ?_
    refine x_iload_n C dX12_callTotal_13 rfl ?_
    refine x_goR (fun ls h => x_runV (As := [.int a1]) [] h C ml_X12_359 (c_X12_totalOf l D cA s0 b ((f_X12_passes μ (f_X12_isCall μ a1)).2) (ok_p1 hok) a1 (ixin hn2 (by omega) (by decide))) ⟨rfl, rfl, nb rfl, nb rfl⟩ rfl (M_obj hw) rfl hw (nb rfl) ⟨Nat.zero_le _, Nat.zero_le _⟩ dX12_callTotal_14) ?_
    refine x_goto 21 C dX12_callTotal_17 (by decide) ?_
    exact x_iretM C rfl dX12_callTotal_21 (e_i (congrArg Prod.fst hF)) (by rw [hF]; exact hw) hS
def f_X12_amount (μ : Mm) (a1 : Int32) (a2 : Int32) : Int32 × Mm := (if (f_X12_passes2 μ (f_X12_isCall μ a1) (f_X12_isLine a2)).1 then (f_X12_amountOf ((f_X12_passes2 μ (f_X12_isCall μ a1) (f_X12_isLine a2)).2) a1 a2, (f_X12_passes2 μ (f_X12_isCall μ a1) (f_X12_isLine a2)).2) else ((0 : Int32), (f_X12_passes2 μ (f_X12_isCall μ a1) (f_X12_isLine a2)).2))
set_option maxRecDepth 20000 in
set_option maxHeartbeats 4000000 in
theorem c_X12_amount (l : Launch) (D : va_G) (cA : Nat → ClassId) (s0 : State) (b : Nat) (μ : Mm) (sz : Nat) (hok : OkR (μ.1 1)) (a1 : Int32) (a2 : Int32) : Met l yX12_amount (wsG yX12_amount cX12_amount 3 (some (FieldType.int))) { frames := 6, cells := 0, slots := 0, locals := 139 } (xP D cA s0 [.ref b, .int a1, .int a2] (fun H => H.size = sz ∧ RM D cA b μ H)) (xQm (some (.int (f_X12_amount μ a1 a2).1)) (fun H => RM D cA b (f_X12_amount μ a1 a2).2 H) (xA b 8 sz)) 0 0 (xA b 8 sz) := by
  refine x_start (own := RX12) [(0, .ref b), (1, .int a1), (2, .int a2)] rfl rfl (by decide) (nb rfl) ?_
  intro p e s m args below meth c C hw
  obtain ⟨F, hF⟩ : ∃ z, z = (f_X12_amount μ a1 a2) := ⟨_, rfl⟩
  rw [← hF]
  obtain ⟨hsz, hw⟩ := hw
  subst hsz
  have hS : va_S (xA b 8 s.heap.size) s.heap s.heap [] := va_S.rf
  refine x_aload_n C dX12_amount_0 rfl ?_
  refine x_aload_n C dX12_amount_1 rfl ?_
  refine x_iload_n C dX12_amount_2 rfl ?_
  refine x_goR (fun ls h => x_runV (As := [.int a1]) [.ref b] h C ml_X12_345 (c_X12_isCall l D cA s0 b μ a1 ) ⟨rfl, rfl, nb rfl, nb rfl⟩ rfl (M_obj hw) rfl hw (nb rfl) ⟨Nat.zero_le _, Nat.zero_le _⟩ dX12_amount_3) ?_
  refine x_iload_n C dX12_amount_6 rfl ?_
  refine x_goR (fun ls h => x_runS (As := [.int a2]) [.int (bI (f_X12_isCall μ a1)), .ref b] h C ml_X12_356 (c_X12_isLine l D cA s0 a2 ) ⟨rfl, rfl, nb rfl, nb rfl⟩ rfl trivial (nb rfl) ⟨Nat.zero_le _, Nat.zero_le _⟩ dX12_amount_7) ?_
  refine x_goM (fun ls h => x_runV (As := [.int (bI (f_X12_isCall μ a1)), .int (bI (f_X12_isLine a2))]) [] h C ml_X12_263 (c_X12_passes2 l D cA s0 b μ _ (f_X12_isCall μ a1) (f_X12_isLine a2) ) ⟨rfl, rfl, nb rfl, nb rfl⟩ rfl (M_obj hw) rfl ⟨rfl, hw⟩ (nb rfl) ⟨Nat.zero_le _, Nat.zero_le _⟩ dX12_amount_10) hS (xA_le hS) (fun H locs hw hz hk hS => ?_)
  have hw : RM D cA b ((f_X12_passes2 μ (f_X12_isCall μ a1) (f_X12_isLine a2)).2) H := hw
  refine x_ifB_eq 25 C dX12_amount_13 (by decide) (fun c1 => ?_) (fun c1 => ?_)
  · have hF := hF.trans (if_neg (nbt c1))
    refine x_iconst (0 : Int32) C dX12_amount_25 rfl ?_
    exact x_iretM C rfl dX12_amount_26 (e_i (congrArg Prod.fst hF)) (by rw [hF]; exact hw) hS
  · have hF := hF.trans (if_pos c1)
    obtain ⟨hn2, hl3⟩ := vpn (isCall_in hok (p2a c1)) (by decide)
    refine x_aload_n C dX12_amount_16 rfl ?_
    refine x_iload_n C dX12_amount_17 rfl ?_
    refine x_iload_n C dX12_amount_18 rfl ?_
    refine x_goR (fun ls h => x_runV (As := [.int a1, .int a2]) [] h C ml_X12_336 (c_X12_amountOf l D cA s0 b ((f_X12_passes2 μ (f_X12_isCall μ a1) (f_X12_isLine a2)).2) (ok_p2 hok) a1 a2 (ixin hn2 (by omega) (by decide))) ⟨rfl, rfl, nb rfl, nb rfl⟩ rfl (M_obj hw) rfl hw (nb rfl) ⟨Nat.zero_le _, Nat.zero_le _⟩ dX12_amount_19) ?_
    refine x_goto 26 C dX12_amount_22 (by decide) ?_
    exact x_iretM C rfl dX12_amount_26 (e_i (congrArg Prod.fst hF)) (by rw [hF]; exact hw) hS
def f_X12_net (μ : Mm) (a1 : Int32) : Int32 × Mm := (if (f_X12_passes μ (f_X12_isInvoice μ a1)).1 then (f_X12_netOf ((f_X12_passes μ (f_X12_isInvoice μ a1)).2) a1, (f_X12_passes μ (f_X12_isInvoice μ a1)).2) else ((0 : Int32), (f_X12_passes μ (f_X12_isInvoice μ a1)).2))
set_option maxRecDepth 20000 in
set_option maxHeartbeats 4000000 in
theorem c_X12_net (l : Launch) (D : va_G) (cA : Nat → ClassId) (s0 : State) (b : Nat) (μ : Mm) (sz : Nat) (hok : OkR (μ.1 1)) (a1 : Int32) : Met l yX12_net (wsG yX12_net cX12_net 2 (some (FieldType.int))) { frames := 3, cells := 0, slots := 0, locals := 67 } (xP D cA s0 [.ref b, .int a1] (fun H => H.size = sz ∧ RM D cA b μ H)) (xQm (some (.int (f_X12_net μ a1).1)) (fun H => RM D cA b (f_X12_net μ a1).2 H) (xA b 8 sz)) 0 0 (xA b 8 sz) := by
  refine x_start (own := RX12) [(0, .ref b), (1, .int a1)] rfl rfl (by decide) (nb rfl) ?_
  intro p e s m args below meth c C hw
  obtain ⟨F, hF⟩ : ∃ z, z = (f_X12_net μ a1) := ⟨_, rfl⟩
  rw [← hF]
  obtain ⟨hsz, hw⟩ := hw
  subst hsz
  have hS : va_S (xA b 8 s.heap.size) s.heap s.heap [] := va_S.rf
  refine x_aload_n C dX12_net_0 rfl ?_
  refine x_aload_n C dX12_net_1 rfl ?_
  refine x_iload_n C dX12_net_2 rfl ?_
  refine x_goR (fun ls h => x_runV (As := [.int a1]) [.ref b] h C ml_X12_380 (c_X12_isInvoice l D cA s0 b μ a1 ) ⟨rfl, rfl, nb rfl, nb rfl⟩ rfl (M_obj hw) rfl hw (nb rfl) ⟨Nat.zero_le _, Nat.zero_le _⟩ dX12_net_3) ?_
  refine x_goM (fun ls h => x_runV (As := [.int (bI (f_X12_isInvoice μ a1))]) [] h C ml_X12_62 (c_X12_passes l D cA s0 b μ _ (f_X12_isInvoice μ a1) ) ⟨rfl, rfl, nb rfl, nb rfl⟩ rfl (M_obj hw) rfl ⟨rfl, hw⟩ (nb rfl) ⟨Nat.zero_le _, Nat.zero_le _⟩ dX12_net_6) hS (xA_le hS) (fun H locs hw hz hk hS => ?_)
  have hw : RM D cA b ((f_X12_passes μ (f_X12_isInvoice μ a1)).2) H := hw
  refine x_ifB_eq 20 C dX12_net_9 (by decide) (fun c1 => ?_) (fun c1 => ?_)
  · have hF := hF.trans (if_neg (nbt c1))
    refine x_iconst (0 : Int32) C dX12_net_20 rfl ?_
    exact x_iretM C rfl dX12_net_21 (e_i (congrArg Prod.fst hF)) (by rw [hF]; exact hw) hS
  · have hF := hF.trans (if_pos c1)
    obtain ⟨hn2, hl3⟩ := vpn (isInvoice_in hok (p1 c1)) (by decide)
    refine x_aload_n C dX12_net_12 rfl ?_
    refine x_iload_n C dX12_net_13 rfl ?_
    refine x_goR (fun ls h => x_runV (As := [.int a1]) [] h C ml_X12_371 (c_X12_netOf l D cA s0 b ((f_X12_passes μ (f_X12_isInvoice μ a1)).2) (ok_p1 hok) a1 (ixin hn2 (by omega) (by decide))) ⟨rfl, rfl, nb rfl, nb rfl⟩ rfl (M_obj hw) rfl hw (nb rfl) ⟨Nat.zero_le _, Nat.zero_le _⟩ dX12_net_14) ?_
    refine x_goto 21 C dX12_net_17 (by decide) ?_
    exact x_iretM C rfl dX12_net_21 (e_i (congrArg Prod.fst hF)) (by rw [hF]; exact hw) hS
def f_X12_open (μ : Mm) (a1 : Int32) : Int32 × Mm := (if (f_X12_passes μ (f_X12_isInvoice μ a1)).1 then (f_X12_openOf ((f_X12_passes μ (f_X12_isInvoice μ a1)).2) a1, (f_X12_passes μ (f_X12_isInvoice μ a1)).2) else ((0 : Int32), (f_X12_passes μ (f_X12_isInvoice μ a1)).2))
set_option maxRecDepth 20000 in
set_option maxHeartbeats 4000000 in
theorem c_X12_open (l : Launch) (D : va_G) (cA : Nat → ClassId) (s0 : State) (b : Nat) (μ : Mm) (sz : Nat) (hok : OkR (μ.1 1)) (a1 : Int32) : Met l yX12_open (wsG yX12_open cX12_open 2 (some (FieldType.int))) { frames := 4, cells := 0, slots := 0, locals := 92 } (xP D cA s0 [.ref b, .int a1] (fun H => H.size = sz ∧ RM D cA b μ H)) (xQm (some (.int (f_X12_open μ a1).1)) (fun H => RM D cA b (f_X12_open μ a1).2 H) (xA b 8 sz)) 0 0 (xA b 8 sz) := by
  refine x_start (own := RX12) [(0, .ref b), (1, .int a1)] rfl rfl (by decide) (nb rfl) ?_
  intro p e s m args below meth c C hw
  obtain ⟨F, hF⟩ : ∃ z, z = (f_X12_open μ a1) := ⟨_, rfl⟩
  rw [← hF]
  obtain ⟨hsz, hw⟩ := hw
  subst hsz
  have hS : va_S (xA b 8 s.heap.size) s.heap s.heap [] := va_S.rf
  refine x_aload_n C dX12_open_0 rfl ?_
  refine x_aload_n C dX12_open_1 rfl ?_
  refine x_iload_n C dX12_open_2 rfl ?_
  refine x_goR (fun ls h => x_runV (As := [.int a1]) [.ref b] h C ml_X12_380 (c_X12_isInvoice l D cA s0 b μ a1 ) ⟨rfl, rfl, nb rfl, nb rfl⟩ rfl (M_obj hw) rfl hw (nb rfl) ⟨Nat.zero_le _, Nat.zero_le _⟩ dX12_open_3) ?_
  refine x_goM (fun ls h => x_runV (As := [.int (bI (f_X12_isInvoice μ a1))]) [] h C ml_X12_62 (c_X12_passes l D cA s0 b μ _ (f_X12_isInvoice μ a1) ) ⟨rfl, rfl, nb rfl, nb rfl⟩ rfl (M_obj hw) rfl ⟨rfl, hw⟩ (nb rfl) ⟨Nat.zero_le _, Nat.zero_le _⟩ dX12_open_6) hS (xA_le hS) (fun H locs hw hz hk hS => ?_)
  have hw : RM D cA b ((f_X12_passes μ (f_X12_isInvoice μ a1)).2) H := hw
  refine x_ifB_eq 20 C dX12_open_9 (by decide) (fun c1 => ?_) (fun c1 => ?_)
  · have hF := hF.trans (if_neg (nbt c1))
    refine x_iconst (0 : Int32) C dX12_open_20 rfl ?_
    exact x_iretM C rfl dX12_open_21 (e_i (congrArg Prod.fst hF)) (by rw [hF]; exact hw) hS
  · have hF := hF.trans (if_pos c1)
    obtain ⟨hn2, hl3⟩ := vpn (isInvoice_in hok (p1 c1)) (by decide)
    refine x_aload_n C dX12_open_12 rfl ?_
    refine x_iload_n C dX12_open_13 rfl ?_
    refine x_goR (fun ls h => x_runV (As := [.int a1]) [] h C ml_X12_383 (c_X12_openOf l D cA s0 b ((f_X12_passes μ (f_X12_isInvoice μ a1)).2) (ok_p1 hok) a1 (ixin hn2 (by omega) (by decide))) ⟨rfl, rfl, nb rfl, nb rfl⟩ rfl (M_obj hw) rfl hw (nb rfl) ⟨Nat.zero_le _, Nat.zero_le _⟩ dX12_open_14) ?_
    refine x_goto 21 C dX12_open_17 (by decide) ?_
    exact x_iretM C rfl dX12_open_21 (e_i (congrArg Prod.fst hF)) (by rw [hF]; exact hw) hS
def f_X12_isStale (μ : Mm) (a1 : Int32) : Bool × Mm := (if (f_X12_passes μ (f_X12_isInvoice μ a1)).1 then (if f_X12_isOld ((f_X12_passes μ (f_X12_isInvoice μ a1)).2) a1 then (true, (f_X12_passes μ (f_X12_isInvoice μ a1)).2) else (false, (f_X12_passes μ (f_X12_isInvoice μ a1)).2)) else (false, (f_X12_passes μ (f_X12_isInvoice μ a1)).2))
set_option maxRecDepth 20000 in
set_option maxHeartbeats 4000000 in
theorem c_X12_isStale (l : Launch) (D : va_G) (cA : Nat → ClassId) (s0 : State) (b : Nat) (μ : Mm) (sz : Nat) (hok : OkR (μ.1 1)) (a1 : Int32) : Met l yX12_isStale (wsG yX12_isStale cX12_isStale 2 (some (FieldType.boolean))) { frames := 7, cells := 0, slots := 0, locals := 164 } (xP D cA s0 [.ref b, .int a1] (fun H => H.size = sz ∧ RM D cA b μ H)) (xQm (some (.int (bI (f_X12_isStale μ a1).1))) (fun H => RM D cA b (f_X12_isStale μ a1).2 H) (xA b 8 sz)) 0 0 (xA b 8 sz) := by
  refine x_start (own := RX12) [(0, .ref b), (1, .int a1)] rfl rfl (by decide) (nb rfl) ?_
  intro p e s m args below meth c C hw
  obtain ⟨F, hF⟩ : ∃ z, z = (f_X12_isStale μ a1) := ⟨_, rfl⟩
  rw [← hF]
  obtain ⟨hsz, hw⟩ := hw
  subst hsz
  have hS : va_S (xA b 8 s.heap.size) s.heap s.heap [] := va_S.rf
  refine x_aload_n C dX12_isStale_0 rfl ?_
  refine x_aload_n C dX12_isStale_1 rfl ?_
  refine x_iload_n C dX12_isStale_2 rfl ?_
  refine x_goR (fun ls h => x_runV (As := [.int a1]) [.ref b] h C ml_X12_380 (c_X12_isInvoice l D cA s0 b μ a1 ) ⟨rfl, rfl, nb rfl, nb rfl⟩ rfl (M_obj hw) rfl hw (nb rfl) ⟨Nat.zero_le _, Nat.zero_le _⟩ dX12_isStale_3) ?_
  refine x_goM (fun ls h => x_runV (As := [.int (bI (f_X12_isInvoice μ a1))]) [] h C ml_X12_62 (c_X12_passes l D cA s0 b μ _ (f_X12_isInvoice μ a1) ) ⟨rfl, rfl, nb rfl, nb rfl⟩ rfl (M_obj hw) rfl ⟨rfl, hw⟩ (nb rfl) ⟨Nat.zero_le _, Nat.zero_le _⟩ dX12_isStale_6) hS (xA_le hS) (fun H locs hw hz hk hS => ?_)
  have hw : RM D cA b ((f_X12_passes μ (f_X12_isInvoice μ a1)).2) H := hw
  refine x_ifB_eq 24 C dX12_isStale_9 (by decide) (fun c1 => ?_) (fun c1 => ?_)
  · have hF := hF.trans (if_neg (nbt c1))
    refine x_iconst (0 : Int32) C dX12_isStale_24 rfl ?_
    exact x_zretM C rfl dX12_isStale_25 rfl (e_b0 (congrArg Prod.fst hF)) (by rw [hF]; exact hw) hS
  · have hF := hF.trans (if_pos c1)
    obtain ⟨hn2, hl3⟩ := vpn (isInvoice_in hok (p1 c1)) (by decide)
    refine x_aload_n C dX12_isStale_12 rfl ?_
    refine x_iload_n C dX12_isStale_13 rfl ?_
    refine x_goR (fun ls h => x_runV (As := [.int a1]) [] h C ml_X12_386 (c_X12_isOld l D cA s0 b ((f_X12_passes μ (f_X12_isInvoice μ a1)).2) (ok_p1 hok) a1 (ixin hn2 (by omega) (by decide))) ⟨rfl, rfl, nb rfl, nb rfl⟩ rfl (M_obj hw) rfl hw (nb rfl) ⟨Nat.zero_le _, Nat.zero_le _⟩ dX12_isStale_14) ?_
    refine x_ifB_eq 24 C dX12_isStale_17 (by decide) (fun c4 => ?_) (fun c4 => ?_)
    · have hF := hF.trans (if_neg (nbt c4))
      refine x_iconst (0 : Int32) C dX12_isStale_24 rfl ?_
      exact x_zretM C rfl dX12_isStale_25 rfl (e_b0 (congrArg Prod.fst hF)) (by rw [hF]; exact hw) hS
    · have hF := hF.trans (if_pos c4)
      refine x_iconst (1 : Int32) C dX12_isStale_20 rfl ?_
      refine x_goto 25 C dX12_isStale_21 (by decide) ?_
      exact x_zretM C rfl dX12_isStale_25 rfl (e_b1 (congrArg Prod.fst hF)) (by rw [hF]; exact hw) hS
def f_X12_contested (μ : Mm) (a1 : Int32) : Int32 × Mm := (if (f_X12_passes μ (f_X12_isInvoice μ a1)).1 then (if f_X12_has (f_X12_livingLines ((f_X12_passes μ (f_X12_isInvoice μ a1)).2) a1) (3 : Int32) then (f_X12_bits ((f_X12_ofInvoice ((f_X12_passes μ (f_X12_isInvoice μ a1)).2) a1 (5 : Int32)) &&& (f_X12_contestedSet ((f_X12_passes μ (f_X12_isInvoice μ a1)).2) (f_X12_ofInvoice ((f_X12_passes μ (f_X12_isInvoice μ a1)).2) a1 (0 : Int32)))), (f_X12_passes μ (f_X12_isInvoice μ a1)).2) else ((0 : Int32), (f_X12_passes μ (f_X12_isInvoice μ a1)).2)) else ((0 : Int32), (f_X12_passes μ (f_X12_isInvoice μ a1)).2))
set_option maxRecDepth 20000 in
set_option maxHeartbeats 4000000 in
theorem c_X12_contested (l : Launch) (D : va_G) (cA : Nat → ClassId) (s0 : State) (b : Nat) (μ : Mm) (sz : Nat) (hok : OkR (μ.1 1)) (a1 : Int32) : Met l yX12_contested (wsG yX12_contested cX12_contested 2 (some (FieldType.int))) { frames := 2, cells := 0, slots := 0, locals := 46 } (xP D cA s0 [.ref b, .int a1] (fun H => H.size = sz ∧ RM D cA b μ H)) (xQm (some (.int (f_X12_contested μ a1).1)) (fun H => RM D cA b (f_X12_contested μ a1).2 H) (xA b 8 sz)) 0 0 (xA b 8 sz) := by
  refine x_start (own := RX12) [(0, .ref b), (1, .int a1)] rfl rfl (by decide) (nb rfl) ?_
  intro p e s m args below meth c C hw
  obtain ⟨F, hF⟩ : ∃ z, z = (f_X12_contested μ a1) := ⟨_, rfl⟩
  rw [← hF]
  obtain ⟨hsz, hw⟩ := hw
  subst hsz
  have hS : va_S (xA b 8 s.heap.size) s.heap s.heap [] := va_S.rf
  refine x_aload_n C dX12_contested_0 rfl ?_
  refine x_aload_n C dX12_contested_1 rfl ?_
  refine x_iload_n C dX12_contested_2 rfl ?_
  refine x_goR (fun ls h => x_runV (As := [.int a1]) [.ref b] h C ml_X12_380 (c_X12_isInvoice l D cA s0 b μ a1 ) ⟨rfl, rfl, nb rfl, nb rfl⟩ rfl (M_obj hw) rfl hw (nb rfl) ⟨Nat.zero_le _, Nat.zero_le _⟩ dX12_contested_3) ?_
  refine x_goM (fun ls h => x_runV (As := [.int (bI (f_X12_isInvoice μ a1))]) [] h C ml_X12_62 (c_X12_passes l D cA s0 b μ _ (f_X12_isInvoice μ a1) ) ⟨rfl, rfl, nb rfl, nb rfl⟩ rfl (M_obj hw) rfl ⟨rfl, hw⟩ (nb rfl) ⟨Nat.zero_le _, Nat.zero_le _⟩ dX12_contested_6) hS (xA_le hS) (fun H locs hw hz hk hS => ?_)
  have hw : RM D cA b ((f_X12_passes μ (f_X12_isInvoice μ a1)).2) H := hw
  refine x_ifB_ne 14 C dX12_contested_9 (by decide) (fun c1 => ?_) (fun c1 => ?_)
  · have hF := hF.trans (if_pos c1)
    obtain ⟨hn2, hl3⟩ := vpn (isInvoice_in hok (p1 c1)) (by decide)
    refine x_aload_n C dX12_contested_14 rfl ?_
    refine x_iload_n C dX12_contested_15 rfl ?_
    refine x_goR (fun ls h => x_runV (As := [.int a1]) [] h C ml_X12_362 (c_X12_livingLines l D cA s0 b ((f_X12_passes μ (f_X12_isInvoice μ a1)).2) a1 (ixin hn2 (by omega) (by decide))) ⟨rfl, rfl, nb rfl, nb rfl⟩ rfl (M_obj hw) rfl hw (nb rfl) ⟨Nat.zero_le _, Nat.zero_le _⟩ dX12_contested_16) ?_
    refine x_iconst (3 : Int32) C dX12_contested_19 rfl ?_
    refine x_goR (fun ls h => x_runS (As := [.int (f_X12_livingLines ((f_X12_passes μ (f_X12_isInvoice μ a1)).2) a1), .int (3 : Int32)]) [] h C ml_X12_308 (c_X12_has l D cA s0 (f_X12_livingLines ((f_X12_passes μ (f_X12_isInvoice μ a1)).2) a1) (3 : Int32) ) ⟨rfl, rfl, nb rfl, nb rfl⟩ rfl trivial (nb rfl) ⟨Nat.zero_le _, Nat.zero_le _⟩ dX12_contested_20) ?_
    refine x_ifB_eq 49 C dX12_contested_23 (by decide) (fun c4 => ?_) (fun c4 => ?_)
    · have hF := hF.trans (if_neg (nbt c4))
      refine x_iconst (0 : Int32) C dX12_contested_49 rfl ?_
      exact x_iretM C rfl dX12_contested_50 (e_i (congrArg Prod.fst hF)) (by rw [hF]; exact hw) hS
    · have hF := hF.trans (if_pos c4)
      refine x_aload_n C dX12_contested_26 rfl ?_
      refine x_iload_n C dX12_contested_27 rfl ?_
      refine x_iconst (5 : Int32) C dX12_contested_28 rfl ?_
      refine x_goR (fun ls h => x_runV (As := [.int a1, .int (5 : Int32)]) [] h C ml_X12_305 (c_X12_ofInvoice l D cA s0 b ((f_X12_passes μ (f_X12_isInvoice μ a1)).2) a1 (5 : Int32) (ixin hn2 (by omega) (by decide)) (ixin (ixl (x := (5 : Int32)) 5 rfl) (by omega) (by decide))) ⟨rfl, rfl, nb rfl, nb rfl⟩ rfl (M_obj hw) rfl hw (nb rfl) ⟨Nat.zero_le _, Nat.zero_le _⟩ dX12_contested_29) ?_
      refine x_aload_n C dX12_contested_32 rfl ?_
      refine x_aload_n C dX12_contested_33 rfl ?_
      refine x_iload_n C dX12_contested_34 rfl ?_
      refine x_iconst (0 : Int32) C dX12_contested_35 rfl ?_
      refine x_goR (fun ls h => x_runV (As := [.int a1, .int (0 : Int32)]) [.ref b, .int (f_X12_ofInvoice ((f_X12_passes μ (f_X12_isInvoice μ a1)).2) a1 (5 : Int32))] h C ml_X12_305 (c_X12_ofInvoice l D cA s0 b ((f_X12_passes μ (f_X12_isInvoice μ a1)).2) a1 (0 : Int32) (ixin hn2 (by omega) (by decide)) (ixin (ixl (x := (0 : Int32)) 0 rfl) (by omega) (by decide))) ⟨rfl, rfl, nb rfl, nb rfl⟩ rfl (M_obj hw) rfl hw (nb rfl) ⟨Nat.zero_le _, Nat.zero_le _⟩ dX12_contested_36) ?_
      obtain ⟨hn5, hl6⟩ := vpn (f_ofInvoice_call (ok_p1 hok) (ixin hn2 (by omega) (by decide))) (by decide)
      refine x_goR (fun ls h => x_runV (As := [.int (f_X12_ofInvoice ((f_X12_passes μ (f_X12_isInvoice μ a1)).2) a1 (0 : Int32))]) [.int (f_X12_ofInvoice ((f_X12_passes μ (f_X12_isInvoice μ a1)).2) a1 (5 : Int32))] h C ml_X12_317 (c_X12_contestedSet l D cA s0 b ((f_X12_passes μ (f_X12_isInvoice μ a1)).2) (f_X12_ofInvoice ((f_X12_passes μ (f_X12_isInvoice μ a1)).2) a1 (0 : Int32)) (ixin hn5 (by omega) (by decide))) ⟨rfl, rfl, nb rfl, nb rfl⟩ rfl (M_obj hw) rfl hw (nb rfl) ⟨Nat.zero_le _, Nat.zero_le _⟩ dX12_contested_39) ?_
      refine x_iand C dX12_contested_42 ?_
      refine x_goR (fun ls h => x_runS (As := [.int ((f_X12_ofInvoice ((f_X12_passes μ (f_X12_isInvoice μ a1)).2) a1 (5 : Int32)) &&& (f_X12_contestedSet ((f_X12_passes μ (f_X12_isInvoice μ a1)).2) (f_X12_ofInvoice ((f_X12_passes μ (f_X12_isInvoice μ a1)).2) a1 (0 : Int32))))]) [] h C ml_X12_251 (c_X12_bits l D cA s0 ((f_X12_ofInvoice ((f_X12_passes μ (f_X12_isInvoice μ a1)).2) a1 (5 : Int32)) &&& (f_X12_contestedSet ((f_X12_passes μ (f_X12_isInvoice μ a1)).2) (f_X12_ofInvoice ((f_X12_passes μ (f_X12_isInvoice μ a1)).2) a1 (0 : Int32)))) ) ⟨rfl, rfl, nb rfl, nb rfl⟩ rfl trivial (nb rfl) ⟨Nat.zero_le _, Nat.zero_le _⟩ dX12_contested_43) ?_
      refine x_goto 50 C dX12_contested_46 (by decide) ?_
      exact x_iretM C rfl dX12_contested_50 (e_i (congrArg Prod.fst hF)) (by rw [hF]; exact hw) hS
  · have hF := hF.trans (if_neg (nbt c1))
    refine x_iconst (0 : Int32) C dX12_contested_12 rfl ?_
    exact x_iretM C rfl dX12_contested_13 (e_i (congrArg Prod.fst hF)) (by rw [hF]; exact hw) hS
def f_X12_rebuilt (μ : Mm) (a1 : Int32) (a2 : Int32) : Int32 × Mm := (if (f_X12_passes2 μ (f_X12_isInvoice μ a1) (f_X12_isLine a2)).1 then (f_X12_rebuiltOf ((f_X12_passes2 μ (f_X12_isInvoice μ a1) (f_X12_isLine a2)).2) a1 a2, (f_X12_passes2 μ (f_X12_isInvoice μ a1) (f_X12_isLine a2)).2) else ((0 : Int32), (f_X12_passes2 μ (f_X12_isInvoice μ a1) (f_X12_isLine a2)).2))
set_option maxRecDepth 20000 in
set_option maxHeartbeats 4000000 in
theorem c_X12_rebuilt (l : Launch) (D : va_G) (cA : Nat → ClassId) (s0 : State) (b : Nat) (μ : Mm) (sz : Nat) (hok : OkR (μ.1 1)) (a1 : Int32) (a2 : Int32) : Met l yX12_rebuilt (wsG yX12_rebuilt cX12_rebuilt 3 (some (FieldType.int))) { frames := 6, cells := 0, slots := 0, locals := 141 } (xP D cA s0 [.ref b, .int a1, .int a2] (fun H => H.size = sz ∧ RM D cA b μ H)) (xQm (some (.int (f_X12_rebuilt μ a1 a2).1)) (fun H => RM D cA b (f_X12_rebuilt μ a1 a2).2 H) (xA b 8 sz)) 0 0 (xA b 8 sz) := by
  refine x_start (own := RX12) [(0, .ref b), (1, .int a1), (2, .int a2)] rfl rfl (by decide) (nb rfl) ?_
  intro p e s m args below meth c C hw
  obtain ⟨F, hF⟩ : ∃ z, z = (f_X12_rebuilt μ a1 a2) := ⟨_, rfl⟩
  rw [← hF]
  obtain ⟨hsz, hw⟩ := hw
  subst hsz
  have hS : va_S (xA b 8 s.heap.size) s.heap s.heap [] := va_S.rf
  refine x_aload_n C dX12_rebuilt_0 rfl ?_
  refine x_aload_n C dX12_rebuilt_1 rfl ?_
  refine x_iload_n C dX12_rebuilt_2 rfl ?_
  refine x_goR (fun ls h => x_runV (As := [.int a1]) [.ref b] h C ml_X12_380 (c_X12_isInvoice l D cA s0 b μ a1 ) ⟨rfl, rfl, nb rfl, nb rfl⟩ rfl (M_obj hw) rfl hw (nb rfl) ⟨Nat.zero_le _, Nat.zero_le _⟩ dX12_rebuilt_3) ?_
  refine x_iload_n C dX12_rebuilt_6 rfl ?_
  refine x_goR (fun ls h => x_runS (As := [.int a2]) [.int (bI (f_X12_isInvoice μ a1)), .ref b] h C ml_X12_356 (c_X12_isLine l D cA s0 a2 ) ⟨rfl, rfl, nb rfl, nb rfl⟩ rfl trivial (nb rfl) ⟨Nat.zero_le _, Nat.zero_le _⟩ dX12_rebuilt_7) ?_
  refine x_goM (fun ls h => x_runV (As := [.int (bI (f_X12_isInvoice μ a1)), .int (bI (f_X12_isLine a2))]) [] h C ml_X12_263 (c_X12_passes2 l D cA s0 b μ _ (f_X12_isInvoice μ a1) (f_X12_isLine a2) ) ⟨rfl, rfl, nb rfl, nb rfl⟩ rfl (M_obj hw) rfl ⟨rfl, hw⟩ (nb rfl) ⟨Nat.zero_le _, Nat.zero_le _⟩ dX12_rebuilt_10) hS (xA_le hS) (fun H locs hw hz hk hS => ?_)
  have hw : RM D cA b ((f_X12_passes2 μ (f_X12_isInvoice μ a1) (f_X12_isLine a2)).2) H := hw
  refine x_ifB_eq 25 C dX12_rebuilt_13 (by decide) (fun c1 => ?_) (fun c1 => ?_)
  · have hF := hF.trans (if_neg (nbt c1))
    refine x_iconst (0 : Int32) C dX12_rebuilt_25 rfl ?_
    exact x_iretM C rfl dX12_rebuilt_26 (e_i (congrArg Prod.fst hF)) (by rw [hF]; exact hw) hS
  · have hF := hF.trans (if_pos c1)
    obtain ⟨hn2, hl3⟩ := vpn (isInvoice_in hok (p2a c1)) (by decide)
    refine x_aload_n C dX12_rebuilt_16 rfl ?_
    refine x_iload_n C dX12_rebuilt_17 rfl ?_
    refine x_iload_n C dX12_rebuilt_18 rfl ?_
    refine x_goR (fun ls h => x_runV (As := [.int a1, .int a2]) [] h C ml_X12_377 (c_X12_rebuiltOf l D cA s0 b ((f_X12_passes2 μ (f_X12_isInvoice μ a1) (f_X12_isLine a2)).2) (ok_p2 hok) a1 a2 (ixin hn2 (by omega) (by decide))) ⟨rfl, rfl, nb rfl, nb rfl⟩ rfl (M_obj hw) rfl hw (nb rfl) ⟨Nat.zero_le _, Nat.zero_le _⟩ dX12_rebuilt_19) ?_
    refine x_goto 26 C dX12_rebuilt_22 (by decide) ?_
    exact x_iretM C rfl dX12_rebuilt_26 (e_i (congrArg Prod.fst hF)) (by rw [hF]; exact hw) hS
def f_X12_line (μ : Mm) (a1 : Int32) (a2 : Int32) : Int32 × Mm := (if (f_X12_passes2 μ (f_X12_isInvoice μ a1) (f_X12_isLine a2)).1 then (f_X12_lineIn ((f_X12_passes2 μ (f_X12_isInvoice μ a1) (f_X12_isLine a2)).2) a1 a2, (f_X12_passes2 μ (f_X12_isInvoice μ a1) (f_X12_isLine a2)).2) else ((0 : Int32), (f_X12_passes2 μ (f_X12_isInvoice μ a1) (f_X12_isLine a2)).2))
set_option maxRecDepth 20000 in
set_option maxHeartbeats 4000000 in
theorem c_X12_line (l : Launch) (D : va_G) (cA : Nat → ClassId) (s0 : State) (b : Nat) (μ : Mm) (sz : Nat) (hok : OkR (μ.1 1)) (a1 : Int32) (a2 : Int32) : Met l yX12_line (wsG yX12_line cX12_line 3 (some (FieldType.int))) { frames := 2, cells := 0, slots := 0, locals := 46 } (xP D cA s0 [.ref b, .int a1, .int a2] (fun H => H.size = sz ∧ RM D cA b μ H)) (xQm (some (.int (f_X12_line μ a1 a2).1)) (fun H => RM D cA b (f_X12_line μ a1 a2).2 H) (xA b 8 sz)) 0 0 (xA b 8 sz) := by
  refine x_start (own := RX12) [(0, .ref b), (1, .int a1), (2, .int a2)] rfl rfl (by decide) (nb rfl) ?_
  intro p e s m args below meth c C hw
  obtain ⟨F, hF⟩ : ∃ z, z = (f_X12_line μ a1 a2) := ⟨_, rfl⟩
  rw [← hF]
  obtain ⟨hsz, hw⟩ := hw
  subst hsz
  have hS : va_S (xA b 8 s.heap.size) s.heap s.heap [] := va_S.rf
  refine x_aload_n C dX12_line_0 rfl ?_
  refine x_aload_n C dX12_line_1 rfl ?_
  refine x_iload_n C dX12_line_2 rfl ?_
  refine x_goR (fun ls h => x_runV (As := [.int a1]) [.ref b] h C ml_X12_380 (c_X12_isInvoice l D cA s0 b μ a1 ) ⟨rfl, rfl, nb rfl, nb rfl⟩ rfl (M_obj hw) rfl hw (nb rfl) ⟨Nat.zero_le _, Nat.zero_le _⟩ dX12_line_3) ?_
  refine x_iload_n C dX12_line_6 rfl ?_
  refine x_goR (fun ls h => x_runS (As := [.int a2]) [.int (bI (f_X12_isInvoice μ a1)), .ref b] h C ml_X12_356 (c_X12_isLine l D cA s0 a2 ) ⟨rfl, rfl, nb rfl, nb rfl⟩ rfl trivial (nb rfl) ⟨Nat.zero_le _, Nat.zero_le _⟩ dX12_line_7) ?_
  refine x_goM (fun ls h => x_runV (As := [.int (bI (f_X12_isInvoice μ a1)), .int (bI (f_X12_isLine a2))]) [] h C ml_X12_263 (c_X12_passes2 l D cA s0 b μ _ (f_X12_isInvoice μ a1) (f_X12_isLine a2) ) ⟨rfl, rfl, nb rfl, nb rfl⟩ rfl (M_obj hw) rfl ⟨rfl, hw⟩ (nb rfl) ⟨Nat.zero_le _, Nat.zero_le _⟩ dX12_line_10) hS (xA_le hS) (fun H locs hw hz hk hS => ?_)
  have hw : RM D cA b ((f_X12_passes2 μ (f_X12_isInvoice μ a1) (f_X12_isLine a2)).2) H := hw
  refine x_ifB_eq 25 C dX12_line_13 (by decide) (fun c1 => ?_) (fun c1 => ?_)
  · have hF := hF.trans (if_neg (nbt c1))
    refine x_iconst (0 : Int32) C dX12_line_25 rfl ?_
    exact x_iretM C rfl dX12_line_26 (e_i (congrArg Prod.fst hF)) (by rw [hF]; exact hw) hS
  · have hF := hF.trans (if_pos c1)
    obtain ⟨hn2, hl3⟩ := vpn (isInvoice_in hok (p2a c1)) (by decide)
    obtain ⟨hn4, hl5⟩ := vpn (in_vpL (n := 4) (p2b c1) (by decide +kernel)) (by decide)
    refine x_aload_n C dX12_line_16 rfl ?_
    refine x_iload_n C dX12_line_17 rfl ?_
    refine x_iload_n C dX12_line_18 rfl ?_
    refine x_goR (fun ls h => x_runV (As := [.int a1, .int a2]) [] h C ml_X12_365 (c_X12_lineIn l D cA s0 b ((f_X12_passes2 μ (f_X12_isInvoice μ a1) (f_X12_isLine a2)).2) a1 a2 (ixin hn2 (by omega) (by decide)) (ixin hn4 (by omega) (by decide))) ⟨rfl, rfl, nb rfl, nb rfl⟩ rfl (M_obj hw) rfl hw (nb rfl) ⟨Nat.zero_le _, Nat.zero_le _⟩ dX12_line_19) ?_
    refine x_goto 26 C dX12_line_22 (by decide) ?_
    exact x_iretM C rfl dX12_line_26 (e_i (congrArg Prod.fst hF)) (by rw [hF]; exact hw) hS
def f_X12_invoice (μ : Mm) (a1 : Int32) (a2 : Int32) : Int32 × Mm := (if (f_X12_passes2 μ (f_X12_isInvoice μ a1) (f_X12_in a2.toInt64 (0 : Int64) (5 : Int64))).1 then (f_X12_ofInvoice ((f_X12_passes2 μ (f_X12_isInvoice μ a1) (f_X12_in a2.toInt64 (0 : Int64) (5 : Int64))).2) a1 a2, (f_X12_passes2 μ (f_X12_isInvoice μ a1) (f_X12_in a2.toInt64 (0 : Int64) (5 : Int64))).2) else ((0 : Int32), (f_X12_passes2 μ (f_X12_isInvoice μ a1) (f_X12_in a2.toInt64 (0 : Int64) (5 : Int64))).2))
set_option maxRecDepth 20000 in
set_option maxHeartbeats 4000000 in
theorem c_X12_invoice (l : Launch) (D : va_G) (cA : Nat → ClassId) (s0 : State) (b : Nat) (μ : Mm) (sz : Nat) (hok : OkR (μ.1 1)) (a1 : Int32) (a2 : Int32) : Met l yX12_invoice (wsG yX12_invoice cX12_invoice 3 (some (FieldType.int))) { frames := 2, cells := 0, slots := 0, locals := 46 } (xP D cA s0 [.ref b, .int a1, .int a2] (fun H => H.size = sz ∧ RM D cA b μ H)) (xQm (some (.int (f_X12_invoice μ a1 a2).1)) (fun H => RM D cA b (f_X12_invoice μ a1 a2).2 H) (xA b 8 sz)) 0 0 (xA b 8 sz) := by
  refine x_start (own := RX12) [(0, .ref b), (1, .int a1), (2, .int a2)] rfl rfl (by decide) (nb rfl) ?_
  intro p e s m args below meth c C hw
  obtain ⟨F, hF⟩ : ∃ z, z = (f_X12_invoice μ a1 a2) := ⟨_, rfl⟩
  rw [← hF]
  obtain ⟨hsz, hw⟩ := hw
  subst hsz
  have hS : va_S (xA b 8 s.heap.size) s.heap s.heap [] := va_S.rf
  refine x_aload_n C dX12_invoice_0 rfl ?_
  refine x_aload_n C dX12_invoice_1 rfl ?_
  refine x_iload_n C dX12_invoice_2 rfl ?_
  refine x_goR (fun ls h => x_runV (As := [.int a1]) [.ref b] h C ml_X12_380 (c_X12_isInvoice l D cA s0 b μ a1 ) ⟨rfl, rfl, nb rfl, nb rfl⟩ rfl (M_obj hw) rfl hw (nb rfl) ⟨Nat.zero_le _, Nat.zero_le _⟩ dX12_invoice_3) ?_
  refine x_iload_n C dX12_invoice_6 rfl ?_
  refine x_i2l C dX12_invoice_7 ?_
  refine x_lconst (0 : Int64) C dX12_invoice_8 rfl ?_
  refine x_ldc2 (5 : Int64) C cl_X12_254 dX12_invoice_9 ?_
  refine x_goR (fun ls h => x_runS (As := [.long a2.toInt64, .long (0 : Int64), .long (5 : Int64)]) [.int (bI (f_X12_isInvoice μ a1)), .ref b] h C ml_X12_47 (c_X12_in l D cA s0 a2.toInt64 (0 : Int64) (5 : Int64) ) ⟨rfl, rfl, nb rfl, nb rfl⟩ rfl trivial (nb rfl) ⟨Nat.zero_le _, Nat.zero_le _⟩ dX12_invoice_12) ?_
  refine x_goM (fun ls h => x_runV (As := [.int (bI (f_X12_isInvoice μ a1)), .int (bI (f_X12_in a2.toInt64 (0 : Int64) (5 : Int64)))]) [] h C ml_X12_263 (c_X12_passes2 l D cA s0 b μ _ (f_X12_isInvoice μ a1) (f_X12_in a2.toInt64 (0 : Int64) (5 : Int64)) ) ⟨rfl, rfl, nb rfl, nb rfl⟩ rfl (M_obj hw) rfl ⟨rfl, hw⟩ (nb rfl) ⟨Nat.zero_le _, Nat.zero_le _⟩ dX12_invoice_15) hS (xA_le hS) (fun H locs hw hz hk hS => ?_)
  have hw : RM D cA b ((f_X12_passes2 μ (f_X12_isInvoice μ a1) (f_X12_in a2.toInt64 (0 : Int64) (5 : Int64))).2) H := hw
  refine x_ifB_eq 30 C dX12_invoice_18 (by decide) (fun c1 => ?_) (fun c1 => ?_)
  · have hF := hF.trans (if_neg (nbt c1))
    refine x_iconst (0 : Int32) C dX12_invoice_30 rfl ?_
    exact x_iretM C rfl dX12_invoice_31 (e_i (congrArg Prod.fst hF)) (by rw [hF]; exact hw) hS
  · have hF := hF.trans (if_pos c1)
    obtain ⟨hn2, hl3⟩ := vpn (isInvoice_in hok (p2a c1)) (by decide)
    obtain ⟨hn4, hl5⟩ := vpn (in_vpL (n := 6) (p2b c1) (by decide +kernel)) (by decide)
    refine x_aload_n C dX12_invoice_21 rfl ?_
    refine x_iload_n C dX12_invoice_22 rfl ?_
    refine x_iload_n C dX12_invoice_23 rfl ?_
    refine x_goR (fun ls h => x_runV (As := [.int a1, .int a2]) [] h C ml_X12_305 (c_X12_ofInvoice l D cA s0 b ((f_X12_passes2 μ (f_X12_isInvoice μ a1) (f_X12_in a2.toInt64 (0 : Int64) (5 : Int64))).2) a1 a2 (ixin hn2 (by omega) (by decide)) (ixin hn4 (by omega) (by decide))) ⟨rfl, rfl, nb rfl, nb rfl⟩ rfl (M_obj hw) rfl hw (nb rfl) ⟨Nat.zero_le _, Nat.zero_le _⟩ dX12_invoice_24) ?_
    refine x_goto 31 C dX12_invoice_27 (by decide) ?_
    exact x_iretM C rfl dX12_invoice_31 (e_i (congrArg Prod.fst hF)) (by rw [hF]; exact hw) hS
def f_X12_band (μ : Mm) (a1 : Int32) (a2 : Int32) : Int32 × Mm := (if (f_X12_passes2 μ (f_X12_isBand μ a1) (f_X12_in a2.toInt64 (0 : Int64) (1 : Int64))).1 then (if a2 = 0 then (((f_X12_passes2 μ (f_X12_isBand μ a1) (f_X12_in a2.toInt64 (0 : Int64) (1 : Int64))).2).1 1 (12 + cl a1), (f_X12_passes2 μ (f_X12_isBand μ a1) (f_X12_in a2.toInt64 (0 : Int64) (1 : Int64))).2) else (f_X12_ofVersion ((f_X12_passes2 μ (f_X12_isBand μ a1) (f_X12_in a2.toInt64 (0 : Int64) (1 : Int64))).2) (f_X12_version ((f_X12_passes2 μ (f_X12_isBand μ a1) (f_X12_in a2.toInt64 (0 : Int64) (1 : Int64))).2)) ((0 : Int32) + a1), (f_X12_passes2 μ (f_X12_isBand μ a1) (f_X12_in a2.toInt64 (0 : Int64) (1 : Int64))).2)) else ((0 : Int32), (f_X12_passes2 μ (f_X12_isBand μ a1) (f_X12_in a2.toInt64 (0 : Int64) (1 : Int64))).2))
set_option maxRecDepth 20000 in
set_option maxHeartbeats 4000000 in
theorem c_X12_band (l : Launch) (D : va_G) (cA : Nat → ClassId) (s0 : State) (b : Nat) (μ : Mm) (sz : Nat) (hok : OkR (μ.1 1)) (a1 : Int32) (a2 : Int32) : Met l yX12_band (wsG yX12_band cX12_band 3 (some (FieldType.int))) { frames := 2, cells := 0, slots := 0, locals := 46 } (xP D cA s0 [.ref b, .int a1, .int a2] (fun H => H.size = sz ∧ RM D cA b μ H)) (xQm (some (.int (f_X12_band μ a1 a2).1)) (fun H => RM D cA b (f_X12_band μ a1 a2).2 H) (xA b 8 sz)) 0 0 (xA b 8 sz) := by
  refine x_start (own := RX12) [(0, .ref b), (1, .int a1), (2, .int a2)] rfl rfl (by decide) (nb rfl) ?_
  intro p e s m args below meth c C hw
  obtain ⟨F, hF⟩ : ∃ z, z = (f_X12_band μ a1 a2) := ⟨_, rfl⟩
  rw [← hF]
  obtain ⟨hsz, hw⟩ := hw
  subst hsz
  have hS : va_S (xA b 8 s.heap.size) s.heap s.heap [] := va_S.rf
  refine x_aload_n C dX12_band_0 rfl ?_
  refine x_aload_n C dX12_band_1 rfl ?_
  refine x_iload_n C dX12_band_2 rfl ?_
  refine x_goR (fun ls h => x_runV (As := [.int a1]) [.ref b] h C ml_X12_259 (c_X12_isBand l D cA s0 b μ a1 ) ⟨rfl, rfl, nb rfl, nb rfl⟩ rfl (M_obj hw) rfl hw (nb rfl) ⟨Nat.zero_le _, Nat.zero_le _⟩ dX12_band_3) ?_
  refine x_iload_n C dX12_band_6 rfl ?_
  refine x_i2l C dX12_band_7 ?_
  refine x_lconst (0 : Int64) C dX12_band_8 rfl ?_
  refine x_lconst (1 : Int64) C dX12_band_9 rfl ?_
  refine x_goR (fun ls h => x_runS (As := [.long a2.toInt64, .long (0 : Int64), .long (1 : Int64)]) [.int (bI (f_X12_isBand μ a1)), .ref b] h C ml_X12_47 (c_X12_in l D cA s0 a2.toInt64 (0 : Int64) (1 : Int64) ) ⟨rfl, rfl, nb rfl, nb rfl⟩ rfl trivial (nb rfl) ⟨Nat.zero_le _, Nat.zero_le _⟩ dX12_band_10) ?_
  refine x_goM (fun ls h => x_runV (As := [.int (bI (f_X12_isBand μ a1)), .int (bI (f_X12_in a2.toInt64 (0 : Int64) (1 : Int64)))]) [] h C ml_X12_263 (c_X12_passes2 l D cA s0 b μ _ (f_X12_isBand μ a1) (f_X12_in a2.toInt64 (0 : Int64) (1 : Int64)) ) ⟨rfl, rfl, nb rfl, nb rfl⟩ rfl (M_obj hw) rfl ⟨rfl, hw⟩ (nb rfl) ⟨Nat.zero_le _, Nat.zero_le _⟩ dX12_band_13) hS (xA_le hS) (fun H locs hw hz hk hS => ?_)
  have hw : RM D cA b ((f_X12_passes2 μ (f_X12_isBand μ a1) (f_X12_in a2.toInt64 (0 : Int64) (1 : Int64))).2) H := hw
  refine x_ifB_ne 21 C dX12_band_16 (by decide) (fun c1 => ?_) (fun c1 => ?_)
  · have hF := hF.trans (if_pos c1)
    obtain ⟨hn2, hl3⟩ := vpn (isBand_in hok (p2a c1)) (by decide)
    refine x_iload_n C dX12_band_21 rfl ?_
    refine x_if_ne 37 C dX12_band_22 (by decide) (fun c4 => ?_) (fun c4 => ?_)
    · have hF := hF.trans (if_neg c4)
      refine x_aload_n C dX12_band_37 rfl ?_
      refine x_aload_n C dX12_band_38 rfl ?_
      refine x_goR (fun ls h => x_runV (As := []) [.ref b] h C ml_X12_256 (c_X12_version l D cA s0 b ((f_X12_passes2 μ (f_X12_isBand μ a1) (f_X12_in a2.toInt64 (0 : Int64) (1 : Int64))).2) ) ⟨rfl, rfl, nb rfl, nb rfl⟩ rfl (M_obj hw) rfl hw (nb rfl) ⟨Nat.zero_le _, Nat.zero_le _⟩ dX12_band_39) ?_
      obtain ⟨hn5, hl6⟩ := vpn (f_version_in (ok_p2 hok)) (by decide)
      refine x_iconst (0 : Int32) C dX12_band_42 rfl ?_
      refine x_iload_n C dX12_band_43 rfl ?_
      refine x_iadd C dX12_band_44 ?_
      refine x_goR (fun ls h => x_runV (As := [.int (f_X12_version ((f_X12_passes2 μ (f_X12_isBand μ a1) (f_X12_in a2.toInt64 (0 : Int64) (1 : Int64))).2)), .int ((0 : Int32) + a1)]) [] h C ml_X12_240 (c_X12_ofVersion l D cA s0 b ((f_X12_passes2 μ (f_X12_isBand μ a1) (f_X12_in a2.toInt64 (0 : Int64) (1 : Int64))).2) (f_X12_version ((f_X12_passes2 μ (f_X12_isBand μ a1) (f_X12_in a2.toInt64 (0 : Int64) (1 : Int64))).2)) ((0 : Int32) + a1) (ixin hn5 (by omega) (by decide)) (ixin (ixa (ixl (x := (0 : Int32)) 0 rfl) hn2) (by omega) (by decide))) ⟨rfl, rfl, nb rfl, nb rfl⟩ rfl (M_obj hw) rfl hw (nb rfl) ⟨Nat.zero_le _, Nat.zero_le _⟩ dX12_band_45) ?_
      exact x_iretM C rfl dX12_band_48 (e_i (congrArg Prod.fst hF)) (by rw [hF]; exact hw) hS
    · have hF := hF.trans (if_pos c4)
      refine x_aload_n C dX12_band_25 rfl ?_
      refine x_get (.ref (b + 1)) C fl_X12_17 (M_obj hw) rfl dX12_band_26 ?_
      refine x_bipush (12 : Int32) C dX12_band_29 rfl ?_
      refine x_iload_n C dX12_band_31 rfl ?_
      refine x_iadd C dX12_band_32 ?_
      refine x_ialdN C (M_a1 hw) (ixa (ixl (x := (12 : Int32)) 12 rfl) hn2) (by omega) (by decide) dX12_band_33 ?_
      refine x_goto 48 C dX12_band_34 (by decide) ?_
      exact x_iretM C rfl dX12_band_48 (e_i (congrArg Prod.fst hF)) (by rw [hF]; exact hw) hS
  · have hF := hF.trans (if_neg (nbt c1))
    refine x_iconst (0 : Int32) C dX12_band_19 rfl ?_
    exact x_iretM C rfl dX12_band_20 (e_i (congrArg Prod.fst hF)) (by rw [hF]; exact hw) hS
def f_X12_rebate (μ : Mm) (a1 : Int32) (a2 : Int32) : Int32 × Mm := (if (f_X12_passes2 μ (f_X12_isRebate μ a1) (f_X12_in a2.toInt64 (0 : Int64) (1 : Int64))).1 then (if a2 = 0 then (((f_X12_passes2 μ (f_X12_isRebate μ a1) (f_X12_in a2.toInt64 (0 : Int64) (1 : Int64))).2).1 1 (18 + cl a1), (f_X12_passes2 μ (f_X12_isRebate μ a1) (f_X12_in a2.toInt64 (0 : Int64) (1 : Int64))).2) else (f_X12_ofVersion ((f_X12_passes2 μ (f_X12_isRebate μ a1) (f_X12_in a2.toInt64 (0 : Int64) (1 : Int64))).2) (f_X12_version ((f_X12_passes2 μ (f_X12_isRebate μ a1) (f_X12_in a2.toInt64 (0 : Int64) (1 : Int64))).2)) ((6 : Int32) + a1), (f_X12_passes2 μ (f_X12_isRebate μ a1) (f_X12_in a2.toInt64 (0 : Int64) (1 : Int64))).2)) else ((0 : Int32), (f_X12_passes2 μ (f_X12_isRebate μ a1) (f_X12_in a2.toInt64 (0 : Int64) (1 : Int64))).2))
set_option maxRecDepth 20000 in
set_option maxHeartbeats 4000000 in
theorem c_X12_rebate (l : Launch) (D : va_G) (cA : Nat → ClassId) (s0 : State) (b : Nat) (μ : Mm) (sz : Nat) (hok : OkR (μ.1 1)) (a1 : Int32) (a2 : Int32) : Met l yX12_rebate (wsG yX12_rebate cX12_rebate 3 (some (FieldType.int))) { frames := 2, cells := 0, slots := 0, locals := 46 } (xP D cA s0 [.ref b, .int a1, .int a2] (fun H => H.size = sz ∧ RM D cA b μ H)) (xQm (some (.int (f_X12_rebate μ a1 a2).1)) (fun H => RM D cA b (f_X12_rebate μ a1 a2).2 H) (xA b 8 sz)) 0 0 (xA b 8 sz) := by
  refine x_start (own := RX12) [(0, .ref b), (1, .int a1), (2, .int a2)] rfl rfl (by decide) (nb rfl) ?_
  intro p e s m args below meth c C hw
  obtain ⟨F, hF⟩ : ∃ z, z = (f_X12_rebate μ a1 a2) := ⟨_, rfl⟩
  rw [← hF]
  obtain ⟨hsz, hw⟩ := hw
  subst hsz
  have hS : va_S (xA b 8 s.heap.size) s.heap s.heap [] := va_S.rf
  refine x_aload_n C dX12_rebate_0 rfl ?_
  refine x_aload_n C dX12_rebate_1 rfl ?_
  refine x_iload_n C dX12_rebate_2 rfl ?_
  refine x_goR (fun ls h => x_runV (As := [.int a1]) [.ref b] h C ml_X12_267 (c_X12_isRebate l D cA s0 b μ a1 ) ⟨rfl, rfl, nb rfl, nb rfl⟩ rfl (M_obj hw) rfl hw (nb rfl) ⟨Nat.zero_le _, Nat.zero_le _⟩ dX12_rebate_3) ?_
  refine x_iload_n C dX12_rebate_6 rfl ?_
  refine x_i2l C dX12_rebate_7 ?_
  refine x_lconst (0 : Int64) C dX12_rebate_8 rfl ?_
  refine x_lconst (1 : Int64) C dX12_rebate_9 rfl ?_
  refine x_goR (fun ls h => x_runS (As := [.long a2.toInt64, .long (0 : Int64), .long (1 : Int64)]) [.int (bI (f_X12_isRebate μ a1)), .ref b] h C ml_X12_47 (c_X12_in l D cA s0 a2.toInt64 (0 : Int64) (1 : Int64) ) ⟨rfl, rfl, nb rfl, nb rfl⟩ rfl trivial (nb rfl) ⟨Nat.zero_le _, Nat.zero_le _⟩ dX12_rebate_10) ?_
  refine x_goM (fun ls h => x_runV (As := [.int (bI (f_X12_isRebate μ a1)), .int (bI (f_X12_in a2.toInt64 (0 : Int64) (1 : Int64)))]) [] h C ml_X12_263 (c_X12_passes2 l D cA s0 b μ _ (f_X12_isRebate μ a1) (f_X12_in a2.toInt64 (0 : Int64) (1 : Int64)) ) ⟨rfl, rfl, nb rfl, nb rfl⟩ rfl (M_obj hw) rfl ⟨rfl, hw⟩ (nb rfl) ⟨Nat.zero_le _, Nat.zero_le _⟩ dX12_rebate_13) hS (xA_le hS) (fun H locs hw hz hk hS => ?_)
  have hw : RM D cA b ((f_X12_passes2 μ (f_X12_isRebate μ a1) (f_X12_in a2.toInt64 (0 : Int64) (1 : Int64))).2) H := hw
  refine x_ifB_ne 21 C dX12_rebate_16 (by decide) (fun c1 => ?_) (fun c1 => ?_)
  · have hF := hF.trans (if_pos c1)
    obtain ⟨hn2, hl3⟩ := vpn (isRebate_in hok (p2a c1)) (by decide)
    refine x_iload_n C dX12_rebate_21 rfl ?_
    refine x_if_ne 37 C dX12_rebate_22 (by decide) (fun c4 => ?_) (fun c4 => ?_)
    · have hF := hF.trans (if_neg c4)
      refine x_aload_n C dX12_rebate_37 rfl ?_
      refine x_aload_n C dX12_rebate_38 rfl ?_
      refine x_goR (fun ls h => x_runV (As := []) [.ref b] h C ml_X12_256 (c_X12_version l D cA s0 b ((f_X12_passes2 μ (f_X12_isRebate μ a1) (f_X12_in a2.toInt64 (0 : Int64) (1 : Int64))).2) ) ⟨rfl, rfl, nb rfl, nb rfl⟩ rfl (M_obj hw) rfl hw (nb rfl) ⟨Nat.zero_le _, Nat.zero_le _⟩ dX12_rebate_39) ?_
      obtain ⟨hn5, hl6⟩ := vpn (f_version_in (ok_p2 hok)) (by decide)
      refine x_bipush (6 : Int32) C dX12_rebate_42 rfl ?_
      refine x_iload_n C dX12_rebate_44 rfl ?_
      refine x_iadd C dX12_rebate_45 ?_
      refine x_goR (fun ls h => x_runV (As := [.int (f_X12_version ((f_X12_passes2 μ (f_X12_isRebate μ a1) (f_X12_in a2.toInt64 (0 : Int64) (1 : Int64))).2)), .int ((6 : Int32) + a1)]) [] h C ml_X12_240 (c_X12_ofVersion l D cA s0 b ((f_X12_passes2 μ (f_X12_isRebate μ a1) (f_X12_in a2.toInt64 (0 : Int64) (1 : Int64))).2) (f_X12_version ((f_X12_passes2 μ (f_X12_isRebate μ a1) (f_X12_in a2.toInt64 (0 : Int64) (1 : Int64))).2)) ((6 : Int32) + a1) (ixin hn5 (by omega) (by decide)) (ixin (ixa (ixl (x := (6 : Int32)) 6 rfl) hn2) (by omega) (by decide))) ⟨rfl, rfl, nb rfl, nb rfl⟩ rfl (M_obj hw) rfl hw (nb rfl) ⟨Nat.zero_le _, Nat.zero_le _⟩ dX12_rebate_46) ?_
      exact x_iretM C rfl dX12_rebate_49 (e_i (congrArg Prod.fst hF)) (by rw [hF]; exact hw) hS
    · have hF := hF.trans (if_pos c4)
      refine x_aload_n C dX12_rebate_25 rfl ?_
      refine x_get (.ref (b + 1)) C fl_X12_17 (M_obj hw) rfl dX12_rebate_26 ?_
      refine x_bipush (18 : Int32) C dX12_rebate_29 rfl ?_
      refine x_iload_n C dX12_rebate_31 rfl ?_
      refine x_iadd C dX12_rebate_32 ?_
      refine x_ialdN C (M_a1 hw) (ixa (ixl (x := (18 : Int32)) 18 rfl) hn2) (by omega) (by decide) dX12_rebate_33 ?_
      refine x_goto 49 C dX12_rebate_34 (by decide) ?_
      exact x_iretM C rfl dX12_rebate_49 (e_i (congrArg Prod.fst hF)) (by rw [hF]; exact hw) hS
  · have hF := hF.trans (if_neg (nbt c1))
    refine x_iconst (0 : Int32) C dX12_rebate_19 rfl ?_
    exact x_iretM C rfl dX12_rebate_20 (e_i (congrArg Prod.fst hF)) (by rw [hF]; exact hw) hS
def f_X12_call (μ : Mm) (a1 : Int32) (a2 : Int32) : Int32 × Mm := (if (f_X12_passes2 μ (f_X12_isCall μ a1) (f_X12_in a2.toInt64 (0 : Int64) (7 : Int64))).1 then (if a2 = 5 then (f_X12_rankOf ((f_X12_passes2 μ (f_X12_isCall μ a1) (f_X12_in a2.toInt64 (0 : Int64) (7 : Int64))).2) a1, (f_X12_passes2 μ (f_X12_isCall μ a1) (f_X12_in a2.toInt64 (0 : Int64) (7 : Int64))).2) else (if a2 = 6 then (f_X12_percentOf ((f_X12_passes2 μ (f_X12_isCall μ a1) (f_X12_in a2.toInt64 (0 : Int64) (7 : Int64))).2) (f_X12_rankOf ((f_X12_passes2 μ (f_X12_isCall μ a1) (f_X12_in a2.toInt64 (0 : Int64) (7 : Int64))).2) a1) (f_X12_version ((f_X12_passes2 μ (f_X12_isCall μ a1) (f_X12_in a2.toInt64 (0 : Int64) (7 : Int64))).2)), (f_X12_passes2 μ (f_X12_isCall μ a1) (f_X12_in a2.toInt64 (0 : Int64) (7 : Int64))).2) else (if a2 = 7 then (f_X12_billedSet ((f_X12_passes2 μ (f_X12_isCall μ a1) (f_X12_in a2.toInt64 (0 : Int64) (7 : Int64))).2) a1, (f_X12_passes2 μ (f_X12_isCall μ a1) (f_X12_in a2.toInt64 (0 : Int64) (7 : Int64))).2) else (f_X12_ofCall ((f_X12_passes2 μ (f_X12_isCall μ a1) (f_X12_in a2.toInt64 (0 : Int64) (7 : Int64))).2) a1 a2, (f_X12_passes2 μ (f_X12_isCall μ a1) (f_X12_in a2.toInt64 (0 : Int64) (7 : Int64))).2)))) else ((0 : Int32), (f_X12_passes2 μ (f_X12_isCall μ a1) (f_X12_in a2.toInt64 (0 : Int64) (7 : Int64))).2))
set_option maxRecDepth 20000 in
set_option maxHeartbeats 4000000 in
theorem c_X12_call (l : Launch) (D : va_G) (cA : Nat → ClassId) (s0 : State) (b : Nat) (μ : Mm) (sz : Nat) (hok : OkR (μ.1 1)) (a1 : Int32) (a2 : Int32) : Met l yX12_call (wsG yX12_call cX12_call 3 (some (FieldType.int))) { frames := 4, cells := 0, slots := 0, locals := 90 } (xP D cA s0 [.ref b, .int a1, .int a2] (fun H => H.size = sz ∧ RM D cA b μ H)) (xQm (some (.int (f_X12_call μ a1 a2).1)) (fun H => RM D cA b (f_X12_call μ a1 a2).2 H) (xA b 8 sz)) 0 0 (xA b 8 sz) := by
  refine x_start (own := RX12) [(0, .ref b), (1, .int a1), (2, .int a2)] rfl rfl (by decide) (nb rfl) ?_
  intro p e s m args below meth c C hw
  obtain ⟨F, hF⟩ : ∃ z, z = (f_X12_call μ a1 a2) := ⟨_, rfl⟩
  rw [← hF]
  obtain ⟨hsz, hw⟩ := hw
  subst hsz
  have hS : va_S (xA b 8 s.heap.size) s.heap s.heap [] := va_S.rf
  refine x_aload_n C dX12_call_0 rfl ?_
  refine x_aload_n C dX12_call_1 rfl ?_
  refine x_iload_n C dX12_call_2 rfl ?_
  refine x_goR (fun ls h => x_runV (As := [.int a1]) [.ref b] h C ml_X12_345 (c_X12_isCall l D cA s0 b μ a1 ) ⟨rfl, rfl, nb rfl, nb rfl⟩ rfl (M_obj hw) rfl hw (nb rfl) ⟨Nat.zero_le _, Nat.zero_le _⟩ dX12_call_3) ?_
  refine x_iload_n C dX12_call_6 rfl ?_
  refine x_i2l C dX12_call_7 ?_
  refine x_lconst (0 : Int64) C dX12_call_8 rfl ?_
  refine x_ldc2 (7 : Int64) C cl_X12_348 dX12_call_9 ?_
  refine x_goR (fun ls h => x_runS (As := [.long a2.toInt64, .long (0 : Int64), .long (7 : Int64)]) [.int (bI (f_X12_isCall μ a1)), .ref b] h C ml_X12_47 (c_X12_in l D cA s0 a2.toInt64 (0 : Int64) (7 : Int64) ) ⟨rfl, rfl, nb rfl, nb rfl⟩ rfl trivial (nb rfl) ⟨Nat.zero_le _, Nat.zero_le _⟩ dX12_call_12) ?_
  refine x_goM (fun ls h => x_runV (As := [.int (bI (f_X12_isCall μ a1)), .int (bI (f_X12_in a2.toInt64 (0 : Int64) (7 : Int64)))]) [] h C ml_X12_263 (c_X12_passes2 l D cA s0 b μ _ (f_X12_isCall μ a1) (f_X12_in a2.toInt64 (0 : Int64) (7 : Int64)) ) ⟨rfl, rfl, nb rfl, nb rfl⟩ rfl (M_obj hw) rfl ⟨rfl, hw⟩ (nb rfl) ⟨Nat.zero_le _, Nat.zero_le _⟩ dX12_call_15) hS (xA_le hS) (fun H locs hw hz hk hS => ?_)
  have hw : RM D cA b ((f_X12_passes2 μ (f_X12_isCall μ a1) (f_X12_in a2.toInt64 (0 : Int64) (7 : Int64))).2) H := hw
  refine x_ifB_ne 23 C dX12_call_18 (by decide) (fun c1 => ?_) (fun c1 => ?_)
  · have hF := hF.trans (if_pos c1)
    obtain ⟨hn2, hl3⟩ := vpn (isCall_in hok (p2a c1)) (by decide)
    obtain ⟨hn4, hl5⟩ := vpn (in_vpL (n := 8) (p2b c1) (by decide +kernel)) (by decide)
    refine x_iload_n C dX12_call_23 rfl ?_
    by_cases c6 : a2 = 5
    · have hF := hF.trans (if_pos c6)
      refine x_tabIn 5 52 C dX12_call_24 (by rw [c6]; rfl) (by decide) (by decide) rfl (by decide) ?_
      refine x_aload_n C dX12_call_52 rfl ?_
      refine x_iload_n C dX12_call_53 rfl ?_
      refine x_goR (fun ls h => x_runV (As := [.int a1]) [] h C ml_X12_323 (c_X12_rankOf l D cA s0 b ((f_X12_passes2 μ (f_X12_isCall μ a1) (f_X12_in a2.toInt64 (0 : Int64) (7 : Int64))).2) (ok_p2 hok) a1 (ixin hn2 (by omega) (by decide))) ⟨rfl, rfl, nb rfl, nb rfl⟩ rfl (M_obj hw) rfl hw (nb rfl) ⟨Nat.zero_le _, Nat.zero_le _⟩ dX12_call_54) ?_
      exact x_iretM C rfl dX12_call_57 (e_i (congrArg Prod.fst hF)) (by rw [hF]; exact hw) hS
    · have hF := hF.trans (if_neg c6)
      by_cases c7 : a2 = 6
      · have hF := hF.trans (if_pos c7)
        refine x_tabIn 6 58 C dX12_call_24 (by rw [c7]; rfl) (by decide) (by decide) rfl (by decide) ?_
        refine x_aload_n C dX12_call_58 rfl ?_
        refine x_aload_n C dX12_call_59 rfl ?_
        refine x_iload_n C dX12_call_60 rfl ?_
        refine x_goR (fun ls h => x_runV (As := [.int a1]) [.ref b] h C ml_X12_323 (c_X12_rankOf l D cA s0 b ((f_X12_passes2 μ (f_X12_isCall μ a1) (f_X12_in a2.toInt64 (0 : Int64) (7 : Int64))).2) (ok_p2 hok) a1 (ixin hn2 (by omega) (by decide))) ⟨rfl, rfl, nb rfl, nb rfl⟩ rfl (M_obj hw) rfl hw (nb rfl) ⟨Nat.zero_le _, Nat.zero_le _⟩ dX12_call_61) ?_
        refine x_aload_n C dX12_call_64 rfl ?_
        refine x_goR (fun ls h => x_runV (As := []) [.int (f_X12_rankOf ((f_X12_passes2 μ (f_X12_isCall μ a1) (f_X12_in a2.toInt64 (0 : Int64) (7 : Int64))).2) a1), .ref b] h C ml_X12_256 (c_X12_version l D cA s0 b ((f_X12_passes2 μ (f_X12_isCall μ a1) (f_X12_in a2.toInt64 (0 : Int64) (7 : Int64))).2) ) ⟨rfl, rfl, nb rfl, nb rfl⟩ rfl (M_obj hw) rfl hw (nb rfl) ⟨Nat.zero_le _, Nat.zero_le _⟩ dX12_call_65) ?_
        obtain ⟨hn8, hl9⟩ := vpn (f_version_in (ok_p2 hok)) (by decide)
        refine x_goR (fun ls h => x_runV (As := [.int (f_X12_rankOf ((f_X12_passes2 μ (f_X12_isCall μ a1) (f_X12_in a2.toInt64 (0 : Int64) (7 : Int64))).2) a1), .int (f_X12_version ((f_X12_passes2 μ (f_X12_isCall μ a1) (f_X12_in a2.toInt64 (0 : Int64) (7 : Int64))).2))]) [] h C ml_X12_320 (c_X12_percentOf l D cA s0 b ((f_X12_passes2 μ (f_X12_isCall μ a1) (f_X12_in a2.toInt64 (0 : Int64) (7 : Int64))).2) (ok_p2 hok) (f_X12_rankOf ((f_X12_passes2 μ (f_X12_isCall μ a1) (f_X12_in a2.toInt64 (0 : Int64) (7 : Int64))).2) a1) (f_X12_version ((f_X12_passes2 μ (f_X12_isCall μ a1) (f_X12_in a2.toInt64 (0 : Int64) (7 : Int64))).2)) (ixin hn8 (by omega) (by decide))) ⟨rfl, rfl, nb rfl, nb rfl⟩ rfl (M_obj hw) rfl hw (nb rfl) ⟨Nat.zero_le _, Nat.zero_le _⟩ dX12_call_68) ?_
        exact x_iretM C rfl dX12_call_71 (e_i (congrArg Prod.fst hF)) (by rw [hF]; exact hw) hS
      · have hF := hF.trans (if_neg c7)
        by_cases c10 : a2 = 7
        · have hF := hF.trans (if_pos c10)
          refine x_tabIn 7 72 C dX12_call_24 (by rw [c10]; rfl) (by decide) (by decide) rfl (by decide) ?_
          refine x_aload_n C dX12_call_72 rfl ?_
          refine x_iload_n C dX12_call_73 rfl ?_
          refine x_goR (fun ls h => x_runV (As := [.int a1]) [] h C ml_X12_350 (c_X12_billedSet l D cA s0 b ((f_X12_passes2 μ (f_X12_isCall μ a1) (f_X12_in a2.toInt64 (0 : Int64) (7 : Int64))).2) (ok_p2 hok) a1 ) ⟨rfl, rfl, nb rfl, nb rfl⟩ rfl (M_obj hw) rfl hw (nb rfl) ⟨Nat.zero_le _, Nat.zero_le _⟩ dX12_call_74) ?_
          exact x_iretM C rfl dX12_call_77 (e_i (congrArg Prod.fst hF)) (by rw [hF]; exact hw) hS
        · have hF := hF.trans (if_neg c10)
          have t11 : a2.toInt ≠ 5 := fun z => c6 ((fa_eqI _ _).mpr z)
          have t12 : a2.toInt ≠ 6 := fun z => c7 ((fa_eqI _ _).mpr z)
          have t13 : a2.toInt ≠ 7 := fun z => c10 ((fa_eqI _ _).mpr z)
          have t14 := natTI hn4 (by omega)
          refine x_tabOut 78 C dX12_call_24 (by omega) (by decide) ?_
          refine x_aload_n C dX12_call_78 rfl ?_
          refine x_iload_n C dX12_call_79 rfl ?_
          refine x_iload_n C dX12_call_80 rfl ?_
          refine x_goR (fun ls h => x_runV (As := [.int a1, .int a2]) [] h C ml_X12_248 (c_X12_ofCall l D cA s0 b ((f_X12_passes2 μ (f_X12_isCall μ a1) (f_X12_in a2.toInt64 (0 : Int64) (7 : Int64))).2) a1 a2 (ixin hn2 (by omega) (by decide)) (ixin hn4 (by omega) (by decide))) ⟨rfl, rfl, nb rfl, nb rfl⟩ rfl (M_obj hw) rfl hw (nb rfl) ⟨Nat.zero_le _, Nat.zero_le _⟩ dX12_call_81) ?_
          exact x_iretM C rfl dX12_call_84 (e_i (congrArg Prod.fst hF)) (by rw [hF]; exact hw) hS
  · have hF := hF.trans (if_neg (nbt c1))
    refine x_iconst (0 : Int32) C dX12_call_21 rfl ?_
    exact x_iretM C rfl dX12_call_22 (e_i (congrArg Prod.fst hF)) (by rw [hF]; exact hw) hS
def f_X12_count_L35 (μ : Mm) (a1 : Int32) : Nat → Int32 → Int32 → Int32 × Mm
  | 0, _, _ => (0, μ)
  | n + 1, x2, x3 => (if (((f_X12_passes μ (f_X12_in a1.toInt64 (0 : Int64) (8 : Int64))).2).1 1 1) ≤ x3 then (x2, (f_X12_passes μ (f_X12_in a1.toInt64 (0 : Int64) (8 : Int64))).2) else (f_X12_count_L35 μ a1 n (x2 + (f_X12_bits (f_X12_ofCall ((f_X12_passes μ (f_X12_in a1.toInt64 (0 : Int64) (8 : Int64))).2) x3 (5 : Int32)))) (x3 + (1 : Int32))))
def f_X12_count (μ : Mm) (a1 : Int32) : Int32 × Mm := (if (f_X12_passes μ (f_X12_in a1.toInt64 (0 : Int64) (8 : Int64))).1 then (if (8 : Int32) ≤ a1 then (f_X12_count_L35 μ a1 42 (0 : Int32) (0 : Int32)) else (((f_X12_passes μ (f_X12_in a1.toInt64 (0 : Int64) (8 : Int64))).2).1 1 (cl a1), (f_X12_passes μ (f_X12_in a1.toInt64 (0 : Int64) (8 : Int64))).2)) else ((0 : Int32), (f_X12_passes μ (f_X12_in a1.toInt64 (0 : Int64) (8 : Int64))).2))
set_option maxRecDepth 20000 in
set_option maxHeartbeats 4000000 in
theorem c_X12_count (l : Launch) (D : va_G) (cA : Nat → ClassId) (s0 : State) (b : Nat) (μ : Mm) (sz : Nat) (hok : OkR (μ.1 1)) (a1 : Int32) : Met l yX12_count (wsG yX12_count cX12_count 4 (some (FieldType.int))) { frames := 2, cells := 0, slots := 0, locals := 44 } (xP D cA s0 [.ref b, .int a1] (fun H => H.size = sz ∧ RM D cA b μ H)) (xQm (some (.int (f_X12_count μ a1).1)) (fun H => RM D cA b (f_X12_count μ a1).2 H) (xA b 8 sz)) 0 0 (xA b 8 sz) := by
  refine x_start (own := RX12) [(0, .ref b), (1, .int a1)] rfl rfl (by decide) (nb rfl) ?_
  intro p e s m args below meth c C hw
  obtain ⟨F, hF⟩ : ∃ z, z = (f_X12_count μ a1) := ⟨_, rfl⟩
  rw [← hF]
  obtain ⟨hsz, hw⟩ := hw
  subst hsz
  have hS : va_S (xA b 8 s.heap.size) s.heap s.heap [] := va_S.rf
  have hL35 : ∀ (n : Nat) (x2 : Int32) (x3 : Int32) (hnx3 : x3 = nI (cl x3)) (hbx3 : cl x3 ≤ 41) (hmx3 : 41 < cl x3 + n) (H : Heap) (locs : List Loc) (hw : RM D cA b ((f_X12_passes μ (f_X12_in a1.toInt64 (0 : Int64) (8 : Int64))).2) H) (hS : va_S (xA b 8 s.heap.size) s.heap H locs), F = f_X12_count_L35 μ a1 n x2 x3 → xW p l e { frames := 2, cells := 0, slots := 0, locals := 44 } s m args below meth c 4 (MQ below (xQm (some (.int F.1)) (fun H => RM D cA b F.2 H) (xA b 8 s.heap.size)) args s 0 0 (xA b 8 s.heap.size)) H locs 0 0 35 [(0, .ref b), (2, .int x2), (3, .int x3)] [] := by
    intro n
    induction n with
    | zero =>
      intro x2 x3 hnx3 hbx3 hmx3 H locs hw hS hF
      exact False.elim (by omega)
    | succ n ih =>
      intro x2 x3 hnx3 hbx3 hmx3 H locs hw hS hF
      have ih35 := ih
      refine x_iload_n C dX12_count_35 rfl ?_
      refine x_aload_n C dX12_count_36 rfl ?_
      refine x_get (.ref (b + 1)) C fl_X12_17 (M_obj hw) rfl dX12_count_37 ?_
      refine x_iconst (1 : Int32) C dX12_count_40 rfl ?_
      refine x_ialdN C (M_a1 hw) (ixl (x := (1 : Int32)) 1 rfl) (by omega) (by decide) dX12_count_41 ?_
      obtain ⟨hn6, hl7⟩ := vpn (OkR_1 (ok_p1 hok)) (by decide)
      refine x_icmp_ge 63 C dX12_count_42 (by decide) (fun c8 => ?_) (fun c8 => ?_)
      · have hF := hF.trans (if_pos c8)
        have q9 := (nleI hn6 hnx3 (by omega) (by omega)).mp c8
        refine x_iload_n C dX12_count_63 rfl ?_
        exact x_iretM C rfl dX12_count_64 (e_i (congrArg Prod.fst hF)) (by rw [hF]; exact hw) hS
      · have hF := hF.trans (if_neg c8)
        have q9 := mt (nleI hn6 hnx3 (by omega) (by omega)).mpr c8
        refine x_iload_n C dX12_count_45 rfl ?_
        refine x_aload_n C dX12_count_46 rfl ?_
        refine x_iload_n C dX12_count_47 rfl ?_
        refine x_iconst (5 : Int32) C dX12_count_48 rfl ?_
        refine x_goR (fun ls h => x_runV (As := [.int x3, .int (5 : Int32)]) [.int x2] h C ml_X12_248 (c_X12_ofCall l D cA s0 b ((f_X12_passes μ (f_X12_in a1.toInt64 (0 : Int64) (8 : Int64))).2) x3 (5 : Int32) (ixin hnx3 (by omega) (by decide)) (ixin (ixl (x := (5 : Int32)) 5 rfl) (by omega) (by decide))) ⟨rfl, rfl, nb rfl, nb rfl⟩ rfl (M_obj hw) rfl hw (nb rfl) ⟨Nat.zero_le _, Nat.zero_le _⟩ dX12_count_49) ?_
        refine x_goR (fun ls h => x_runS (As := [.int (f_X12_ofCall ((f_X12_passes μ (f_X12_in a1.toInt64 (0 : Int64) (8 : Int64))).2) x3 (5 : Int32))]) [.int x2] h C ml_X12_251 (c_X12_bits l D cA s0 (f_X12_ofCall ((f_X12_passes μ (f_X12_in a1.toInt64 (0 : Int64) (8 : Int64))).2) x3 (5 : Int32)) ) ⟨rfl, rfl, nb rfl, nb rfl⟩ rfl trivial (nb rfl) ⟨Nat.zero_le _, Nat.zero_le _⟩ dX12_count_52) ?_
        refine x_iadd C dX12_count_55 ?_
        refine x_istore_n [(2, .int (x2 + (f_X12_bits (f_X12_ofCall ((f_X12_passes μ (f_X12_in a1.toInt64 (0 : Int64) (8 : Int64))).2) x3 (5 : Int32))))), (0, .ref b), (3, .int x3)] C dX12_count_56 rfl (by decide) rfl ?_
        refine x_iinc (x3 + (1 : Int32)) [(3, .int (x3 + (1 : Int32))), (2, .int (x2 + (f_X12_bits (f_X12_ofCall ((f_X12_passes μ (f_X12_in a1.toInt64 (0 : Int64) (8 : Int64))).2) x3 (5 : Int32))))), (0, .ref b)] C dX12_count_57 rfl rfl (by decide) rfl ?_
        refine x_goto 35 C dX12_count_60 (by decide) ?_
        refine x_sub [(0, .ref b), (2, .int (x2 + (f_X12_bits (f_X12_ofCall ((f_X12_passes μ (f_X12_in a1.toInt64 (0 : Int64) (8 : Int64))).2) x3 (5 : Int32))))), (3, .int (x3 + (1 : Int32)))] [2, 1, 0] rfl ?_
        exact ih35 (x2 + (f_X12_bits (f_X12_ofCall ((f_X12_passes μ (f_X12_in a1.toInt64 (0 : Int64) (8 : Int64))).2) x3 (5 : Int32)))) (x3 + (1 : Int32)) (natS (ixa hnx3 (ixl (x := (1 : Int32)) 1 rfl)) (by omega)).1 (by rw [(natS (ixa hnx3 (ixl (x := (1 : Int32)) 1 rfl)) (by omega)).2]; omega) (by rw [(natS (ixa hnx3 (ixl (x := (1 : Int32)) 1 rfl)) (by omega)).2]; omega) _ _ hw hS hF
  refine x_aload_n C dX12_count_0 rfl ?_
  refine x_iload_n C dX12_count_1 rfl ?_
  refine x_i2l C dX12_count_2 ?_
  refine x_lconst (0 : Int64) C dX12_count_3 rfl ?_
  refine x_ldc2 (8 : Int64) C cl_X12_246 dX12_count_4 ?_
  refine x_goR (fun ls h => x_runS (As := [.long a1.toInt64, .long (0 : Int64), .long (8 : Int64)]) [.ref b] h C ml_X12_47 (c_X12_in l D cA s0 a1.toInt64 (0 : Int64) (8 : Int64) ) ⟨rfl, rfl, nb rfl, nb rfl⟩ rfl trivial (nb rfl) ⟨Nat.zero_le _, Nat.zero_le _⟩ dX12_count_7) ?_
  refine x_goM (fun ls h => x_runV (As := [.int (bI (f_X12_in a1.toInt64 (0 : Int64) (8 : Int64)))]) [] h C ml_X12_62 (c_X12_passes l D cA s0 b μ _ (f_X12_in a1.toInt64 (0 : Int64) (8 : Int64)) ) ⟨rfl, rfl, nb rfl, nb rfl⟩ rfl (M_obj hw) rfl ⟨rfl, hw⟩ (nb rfl) ⟨Nat.zero_le _, Nat.zero_le _⟩ dX12_count_10) hS (xA_le hS) (fun H locs hw hz hk hS => ?_)
  have hw : RM D cA b ((f_X12_passes μ (f_X12_in a1.toInt64 (0 : Int64) (8 : Int64))).2) H := hw
  refine x_ifB_ne 18 C dX12_count_13 (by decide) (fun c1 => ?_) (fun c1 => ?_)
  · have hF := hF.trans (if_pos c1)
    obtain ⟨hn2, hl3⟩ := vpn (in_vpL (n := 9) (p1 c1) (by decide +kernel)) (by decide)
    refine x_iload_n C dX12_count_18 rfl ?_
    refine x_bipush (8 : Int32) C dX12_count_19 rfl ?_
    refine x_icmp_ge 31 C dX12_count_21 (by decide) (fun c4 => ?_) (fun c4 => ?_)
    · have hF := hF.trans (if_pos c4)
      have q5 := (nleI (ixl (x := (8 : Int32)) 8 rfl) hn2 (by omega) (by omega)).mp c4
      refine x_iconst (0 : Int32) C dX12_count_31 rfl ?_
      refine x_istore_n [(2, .int (0 : Int32)), (0, .ref b), (1, .int a1)] C dX12_count_32 rfl (by decide) rfl ?_
      refine x_iconst (0 : Int32) C dX12_count_33 rfl ?_
      refine x_istore_n [(3, .int (0 : Int32)), (2, .int (0 : Int32)), (0, .ref b), (1, .int a1)] C dX12_count_34 rfl (by decide) rfl ?_
      refine x_sub [(0, .ref b), (2, .int (0 : Int32)), (3, .int (0 : Int32))] [2, 1, 0] rfl ?_
      exact hL35 42 (0 : Int32) (0 : Int32) (natS (ixl (x := (0 : Int32)) 0 rfl) (by omega)).1 (by rw [(natS (ixl (x := (0 : Int32)) 0 rfl) (by omega)).2]; omega) (by rw [(natS (ixl (x := (0 : Int32)) 0 rfl) (by omega)).2]; omega) _ _ hw hS hF
    · have hF := hF.trans (if_neg c4)
      have q5 := mt (nleI (ixl (x := (8 : Int32)) 8 rfl) hn2 (by omega) (by omega)).mpr c4
      refine x_aload_n C dX12_count_24 rfl ?_
      refine x_get (.ref (b + 1)) C fl_X12_17 (M_obj hw) rfl dX12_count_25 ?_
      refine x_iload_n C dX12_count_28 rfl ?_
      refine x_ialdN C (M_a1 hw) hn2 (by omega) (by decide) dX12_count_29 ?_
      exact x_iretM C rfl dX12_count_30 (e_i (congrArg Prod.fst hF)) (by rw [hF]; exact hw) hS
  · have hF := hF.trans (if_neg (nbt c1))
    refine x_iconst (0 : Int32) C dX12_count_16 rfl ?_
    exact x_iretM C rfl dX12_count_17 (e_i (congrArg Prod.fst hF)) (by rw [hF]; exact hw) hS
def f_X12_tariff (μ : Mm) (a1 : Int32) : Int32 × Mm := (if (f_X12_passes μ (f_X12_in a1.toInt64 (0 : Int64) (5 : Int64))).1 then (if (4 : Int32) ≤ a1 then (f_X12_ofVersion ((f_X12_passes μ (f_X12_in a1.toInt64 (0 : Int64) (5 : Int64))).2) (f_X12_version ((f_X12_passes μ (f_X12_in a1.toInt64 (0 : Int64) (5 : Int64))).2)) (((10 : Int32) + a1) - (4 : Int32)), (f_X12_passes μ (f_X12_in a1.toInt64 (0 : Int64) (5 : Int64))).2) else (((f_X12_passes μ (f_X12_in a1.toInt64 (0 : Int64) (5 : Int64))).2).1 1 (8 + cl a1), (f_X12_passes μ (f_X12_in a1.toInt64 (0 : Int64) (5 : Int64))).2)) else ((0 : Int32), (f_X12_passes μ (f_X12_in a1.toInt64 (0 : Int64) (5 : Int64))).2))
set_option maxRecDepth 20000 in
set_option maxHeartbeats 4000000 in
theorem c_X12_tariff (l : Launch) (D : va_G) (cA : Nat → ClassId) (s0 : State) (b : Nat) (μ : Mm) (sz : Nat) (hok : OkR (μ.1 1)) (a1 : Int32) : Met l yX12_tariff (wsG yX12_tariff cX12_tariff 2 (some (FieldType.int))) { frames := 2, cells := 0, slots := 0, locals := 44 } (xP D cA s0 [.ref b, .int a1] (fun H => H.size = sz ∧ RM D cA b μ H)) (xQm (some (.int (f_X12_tariff μ a1).1)) (fun H => RM D cA b (f_X12_tariff μ a1).2 H) (xA b 8 sz)) 0 0 (xA b 8 sz) := by
  refine x_start (own := RX12) [(0, .ref b), (1, .int a1)] rfl rfl (by decide) (nb rfl) ?_
  intro p e s m args below meth c C hw
  obtain ⟨F, hF⟩ : ∃ z, z = (f_X12_tariff μ a1) := ⟨_, rfl⟩
  rw [← hF]
  obtain ⟨hsz, hw⟩ := hw
  subst hsz
  have hS : va_S (xA b 8 s.heap.size) s.heap s.heap [] := va_S.rf
  refine x_aload_n C dX12_tariff_0 rfl ?_
  refine x_iload_n C dX12_tariff_1 rfl ?_
  refine x_i2l C dX12_tariff_2 ?_
  refine x_lconst (0 : Int64) C dX12_tariff_3 rfl ?_
  refine x_ldc2 (5 : Int64) C cl_X12_254 dX12_tariff_4 ?_
  refine x_goR (fun ls h => x_runS (As := [.long a1.toInt64, .long (0 : Int64), .long (5 : Int64)]) [.ref b] h C ml_X12_47 (c_X12_in l D cA s0 a1.toInt64 (0 : Int64) (5 : Int64) ) ⟨rfl, rfl, nb rfl, nb rfl⟩ rfl trivial (nb rfl) ⟨Nat.zero_le _, Nat.zero_le _⟩ dX12_tariff_7) ?_
  refine x_goM (fun ls h => x_runV (As := [.int (bI (f_X12_in a1.toInt64 (0 : Int64) (5 : Int64)))]) [] h C ml_X12_62 (c_X12_passes l D cA s0 b μ _ (f_X12_in a1.toInt64 (0 : Int64) (5 : Int64)) ) ⟨rfl, rfl, nb rfl, nb rfl⟩ rfl (M_obj hw) rfl ⟨rfl, hw⟩ (nb rfl) ⟨Nat.zero_le _, Nat.zero_le _⟩ dX12_tariff_10) hS (xA_le hS) (fun H locs hw hz hk hS => ?_)
  have hw : RM D cA b ((f_X12_passes μ (f_X12_in a1.toInt64 (0 : Int64) (5 : Int64))).2) H := hw
  refine x_ifB_ne 18 C dX12_tariff_13 (by decide) (fun c1 => ?_) (fun c1 => ?_)
  · have hF := hF.trans (if_pos c1)
    obtain ⟨hn2, hl3⟩ := vpn (in_vpL (n := 6) (p1 c1) (by decide +kernel)) (by decide)
    refine x_iload_n C dX12_tariff_18 rfl ?_
    refine x_iconst (4 : Int32) C dX12_tariff_19 rfl ?_
    refine x_icmp_ge 35 C dX12_tariff_20 (by decide) (fun c4 => ?_) (fun c4 => ?_)
    · have hF := hF.trans (if_pos c4)
      have q5 := (nleI (ixl (x := (4 : Int32)) 4 rfl) hn2 (by omega) (by omega)).mp c4
      refine x_aload_n C dX12_tariff_35 rfl ?_
      refine x_aload_n C dX12_tariff_36 rfl ?_
      refine x_goR (fun ls h => x_runV (As := []) [.ref b] h C ml_X12_256 (c_X12_version l D cA s0 b ((f_X12_passes μ (f_X12_in a1.toInt64 (0 : Int64) (5 : Int64))).2) ) ⟨rfl, rfl, nb rfl, nb rfl⟩ rfl (M_obj hw) rfl hw (nb rfl) ⟨Nat.zero_le _, Nat.zero_le _⟩ dX12_tariff_37) ?_
      obtain ⟨hn6, hl7⟩ := vpn (f_version_in (ok_p1 hok)) (by decide)
      refine x_bipush (10 : Int32) C dX12_tariff_40 rfl ?_
      refine x_iload_n C dX12_tariff_42 rfl ?_
      refine x_iadd C dX12_tariff_43 ?_
      refine x_iconst (4 : Int32) C dX12_tariff_44 rfl ?_
      refine x_isub C dX12_tariff_45 ?_
      refine x_goR (fun ls h => x_runV (As := [.int (f_X12_version ((f_X12_passes μ (f_X12_in a1.toInt64 (0 : Int64) (5 : Int64))).2)), .int (((10 : Int32) + a1) - (4 : Int32))]) [] h C ml_X12_240 (c_X12_ofVersion l D cA s0 b ((f_X12_passes μ (f_X12_in a1.toInt64 (0 : Int64) (5 : Int64))).2) (f_X12_version ((f_X12_passes μ (f_X12_in a1.toInt64 (0 : Int64) (5 : Int64))).2)) (((10 : Int32) + a1) - (4 : Int32)) (ixin hn6 (by omega) (by decide)) (ixin (ixs (ixa (ixl (x := (10 : Int32)) 10 rfl) hn2) (ixl (x := (4 : Int32)) 4 rfl) (by omega)) (by omega) (by decide))) ⟨rfl, rfl, nb rfl, nb rfl⟩ rfl (M_obj hw) rfl hw (nb rfl) ⟨Nat.zero_le _, Nat.zero_le _⟩ dX12_tariff_46) ?_
      exact x_iretM C rfl dX12_tariff_49 (e_i (congrArg Prod.fst hF)) (by rw [hF]; exact hw) hS
    · have hF := hF.trans (if_neg c4)
      have q5 := mt (nleI (ixl (x := (4 : Int32)) 4 rfl) hn2 (by omega) (by omega)).mpr c4
      refine x_aload_n C dX12_tariff_23 rfl ?_
      refine x_get (.ref (b + 1)) C fl_X12_17 (M_obj hw) rfl dX12_tariff_24 ?_
      refine x_bipush (8 : Int32) C dX12_tariff_27 rfl ?_
      refine x_iload_n C dX12_tariff_29 rfl ?_
      refine x_iadd C dX12_tariff_30 ?_
      refine x_ialdN C (M_a1 hw) (ixa (ixl (x := (8 : Int32)) 8 rfl) hn2) (by omega) (by decide) dX12_tariff_31 ?_
      refine x_goto 49 C dX12_tariff_32 (by decide) ?_
      exact x_iretM C rfl dX12_tariff_49 (e_i (congrArg Prod.fst hF)) (by rw [hF]; exact hw) hS
  · have hF := hF.trans (if_neg (nbt c1))
    refine x_iconst (0 : Int32) C dX12_tariff_16 rfl ?_
    exact x_iretM C rfl dX12_tariff_17 (e_i (congrArg Prod.fst hF)) (by rw [hF]; exact hw) hS
def f_X12_note (μ : Mm) (a1 : Int32) (a2 : Int32) : Int32 × Mm := (if (f_X12_passes2 μ (f_X12_in a1.toInt64 (0 : Int64) (((μ.1 1 3) - (1 : Int32)).toInt64)) (f_X12_in a2.toInt64 (0 : Int64) (3 : Int64))).1 then (((f_X12_passes2 μ (f_X12_in a1.toInt64 (0 : Int64) (((μ.1 1 3) - (1 : Int32)).toInt64)) (f_X12_in a2.toInt64 (0 : Int64) (3 : Int64))).2).1 1 (1217 + (4) * (cl a1) + cl a2), (f_X12_passes2 μ (f_X12_in a1.toInt64 (0 : Int64) (((μ.1 1 3) - (1 : Int32)).toInt64)) (f_X12_in a2.toInt64 (0 : Int64) (3 : Int64))).2) else ((0 : Int32), (f_X12_passes2 μ (f_X12_in a1.toInt64 (0 : Int64) (((μ.1 1 3) - (1 : Int32)).toInt64)) (f_X12_in a2.toInt64 (0 : Int64) (3 : Int64))).2))
set_option maxRecDepth 20000 in
set_option maxHeartbeats 4000000 in
theorem c_X12_note (l : Launch) (D : va_G) (cA : Nat → ClassId) (s0 : State) (b : Nat) (μ : Mm) (sz : Nat) (hok : OkR (μ.1 1)) (a1 : Int32) (a2 : Int32) : Met l yX12_note (wsG yX12_note cX12_note 3 (some (FieldType.int))) { frames := 2, cells := 0, slots := 0, locals := 45 } (xP D cA s0 [.ref b, .int a1, .int a2] (fun H => H.size = sz ∧ RM D cA b μ H)) (xQm (some (.int (f_X12_note μ a1 a2).1)) (fun H => RM D cA b (f_X12_note μ a1 a2).2 H) (xA b 8 sz)) 0 0 (xA b 8 sz) := by
  refine x_start (own := RX12) [(0, .ref b), (1, .int a1), (2, .int a2)] rfl rfl (by decide) (nb rfl) ?_
  intro p e s m args below meth c C hw
  obtain ⟨F, hF⟩ : ∃ z, z = (f_X12_note μ a1 a2) := ⟨_, rfl⟩
  rw [← hF]
  obtain ⟨hsz, hw⟩ := hw
  subst hsz
  have hS : va_S (xA b 8 s.heap.size) s.heap s.heap [] := va_S.rf
  refine x_aload_n C dX12_note_0 rfl ?_
  refine x_iload_n C dX12_note_1 rfl ?_
  refine x_i2l C dX12_note_2 ?_
  refine x_lconst (0 : Int64) C dX12_note_3 rfl ?_
  refine x_aload_n C dX12_note_4 rfl ?_
  refine x_get (.ref (b + 1)) C fl_X12_17 (M_obj hw) rfl dX12_note_5 ?_
  refine x_iconst (3 : Int32) C dX12_note_8 rfl ?_
  refine x_ialdN C (M_a1 hw) (ixl (x := (3 : Int32)) 3 rfl) (by omega) (by decide) dX12_note_9 ?_
  obtain ⟨hn1, hl2⟩ := vpn (OkR_3 hok) (by decide)
  refine x_iconst (1 : Int32) C dX12_note_10 rfl ?_
  refine x_isub C dX12_note_11 ?_
  refine x_i2l C dX12_note_12 ?_
  refine x_goR (fun ls h => x_runS (As := [.long a1.toInt64, .long (0 : Int64), .long (((μ.1 1 3) - (1 : Int32)).toInt64)]) [.ref b] h C ml_X12_47 (c_X12_in l D cA s0 a1.toInt64 (0 : Int64) (((μ.1 1 3) - (1 : Int32)).toInt64) ) ⟨rfl, rfl, nb rfl, nb rfl⟩ rfl trivial (nb rfl) ⟨Nat.zero_le _, Nat.zero_le _⟩ dX12_note_13) ?_
  refine x_iload_n C dX12_note_16 rfl ?_
  refine x_i2l C dX12_note_17 ?_
  refine x_lconst (0 : Int64) C dX12_note_18 rfl ?_
  refine x_ldc2 (3 : Int64) C cl_X12_57 dX12_note_19 ?_
  refine x_goR (fun ls h => x_runS (As := [.long a2.toInt64, .long (0 : Int64), .long (3 : Int64)]) [.int (bI (f_X12_in a1.toInt64 (0 : Int64) (((μ.1 1 3) - (1 : Int32)).toInt64))), .ref b] h C ml_X12_47 (c_X12_in l D cA s0 a2.toInt64 (0 : Int64) (3 : Int64) ) ⟨rfl, rfl, nb rfl, nb rfl⟩ rfl trivial (nb rfl) ⟨Nat.zero_le _, Nat.zero_le _⟩ dX12_note_22) ?_
  refine x_goM (fun ls h => x_runV (As := [.int (bI (f_X12_in a1.toInt64 (0 : Int64) (((μ.1 1 3) - (1 : Int32)).toInt64))), .int (bI (f_X12_in a2.toInt64 (0 : Int64) (3 : Int64)))]) [] h C ml_X12_263 (c_X12_passes2 l D cA s0 b μ _ (f_X12_in a1.toInt64 (0 : Int64) (((μ.1 1 3) - (1 : Int32)).toInt64)) (f_X12_in a2.toInt64 (0 : Int64) (3 : Int64)) ) ⟨rfl, rfl, nb rfl, nb rfl⟩ rfl (M_obj hw) rfl ⟨rfl, hw⟩ (nb rfl) ⟨Nat.zero_le _, Nat.zero_le _⟩ dX12_note_25) hS (xA_le hS) (fun H locs hw hz hk hS => ?_)
  have hw : RM D cA b ((f_X12_passes2 μ (f_X12_in a1.toInt64 (0 : Int64) (((μ.1 1 3) - (1 : Int32)).toInt64)) (f_X12_in a2.toInt64 (0 : Int64) (3 : Int64))).2) H := hw
  refine x_ifB_eq 48 C dX12_note_28 (by decide) (fun c3 => ?_) (fun c3 => ?_)
  · have hF := hF.trans (if_neg (nbt c3))
    refine x_iconst (0 : Int32) C dX12_note_48 rfl ?_
    exact x_iretM C rfl dX12_note_49 (e_i (congrArg Prod.fst hF)) (by rw [hF]; exact hw) hS
  · have hF := hF.trans (if_pos c3)
    obtain ⟨hn4, hl5⟩ := vpn ((in_cnt (p2a c3) (OkR_3 hok) (by decide)).1) (by decide)
    obtain ⟨hn6, hl7⟩ := vpn (in_vpL (n := 4) (p2b c3) (by decide +kernel)) (by decide)
    refine x_aload_n C dX12_note_31 rfl ?_
    refine x_get (.ref (b + 1)) C fl_X12_17 (M_obj hw) rfl dX12_note_32 ?_
    refine x_sipush (1217 : Int32) C dX12_note_35 rfl ?_
    refine x_iconst (4 : Int32) C dX12_note_38 rfl ?_
    refine x_iload_n C dX12_note_39 rfl ?_
    refine x_imul C dX12_note_40 ?_
    refine x_iadd C dX12_note_41 ?_
    refine x_iload_n C dX12_note_42 rfl ?_
    refine x_iadd C dX12_note_43 ?_
    refine x_ialdN C (M_a1 hw) (ixa (ixa (ixl (x := (1217 : Int32)) 1217 rfl) (ixm (ixl (x := (4 : Int32)) 4 rfl) hn4)) hn6) (by omega) (by decide) dX12_note_44 ?_
    refine x_goto 49 C dX12_note_45 (by decide) ?_
    exact x_iretM C rfl dX12_note_49 (e_i (congrArg Prod.fst hF)) (by rw [hF]; exact hw) hS
def f_X12_staleCount_L9 (μ : Mm) : Nat → Int32 → Int32 → Int32 × Mm
  | 0, _, _ => (0, μ)
  | n + 1, x1, x2 => (if ((uI μ 0 0 (0 : Int32)).1 1 2) ≤ x2 then (x1, uI μ 0 0 (0 : Int32)) else (if f_X12_isOld (uI μ 0 0 (0 : Int32)) x2 then (f_X12_staleCount_L9 μ n (x1 + (1 : Int32)) (x2 + (1 : Int32))) else (f_X12_staleCount_L9 μ n (x1 + (0 : Int32)) (x2 + (1 : Int32)))))
def f_X12_staleCount (μ : Mm) : Int32 × Mm := (f_X12_staleCount_L9 μ 61 (0 : Int32) (0 : Int32))
set_option maxRecDepth 20000 in
set_option maxHeartbeats 4000000 in
theorem c_X12_staleCount (l : Launch) (D : va_G) (cA : Nat → ClassId) (s0 : State) (b : Nat) (μ : Mm) (sz : Nat) (hok : OkR (μ.1 1)) : Met l yX12_staleCount (wsG yX12_staleCount cX12_staleCount 3 (some (FieldType.int))) { frames := 7, cells := 0, slots := 0, locals := 164 } (xP D cA s0 [.ref b] (fun H => H.size = sz ∧ RM D cA b μ H)) (xQm (some (.int (f_X12_staleCount μ).1)) (fun H => RM D cA b (f_X12_staleCount μ).2 H) (xA b 8 sz)) 0 0 (xA b 8 sz) := by
  refine x_start (own := RX12) [(0, .ref b)] rfl rfl (by decide) (nb rfl) ?_
  intro p e s m args below meth c C hw
  obtain ⟨F, hF⟩ : ∃ z, z = (f_X12_staleCount μ) := ⟨_, rfl⟩
  rw [← hF]
  obtain ⟨hsz, hw⟩ := hw
  subst hsz
  have hS : va_S (xA b 8 s.heap.size) s.heap s.heap [] := va_S.rf
  have hL9 : ∀ (n : Nat) (x1 : Int32) (x2 : Int32) (hnx2 : x2 = nI (cl x2)) (hbx2 : cl x2 ≤ 60) (hmx2 : 60 < cl x2 + n) (H : Heap) (locs : List Loc) (hw : RM D cA b (uI μ 0 0 (0 : Int32)) H) (hS : va_S (xA b 8 s.heap.size) s.heap H locs), F = f_X12_staleCount_L9 μ n x1 x2 → xW p l e { frames := 7, cells := 0, slots := 0, locals := 164 } s m args below meth c 3 (MQ below (xQm (some (.int F.1)) (fun H => RM D cA b F.2 H) (xA b 8 s.heap.size)) args s 0 0 (xA b 8 s.heap.size)) H locs 0 0 9 [(0, .ref b), (1, .int x1), (2, .int x2)] [] := by
    intro n
    induction n with
    | zero =>
      intro x1 x2 hnx2 hbx2 hmx2 H locs hw hS hF
      exact False.elim (by omega)
    | succ n ih =>
      intro x1 x2 hnx2 hbx2 hmx2 H locs hw hS hF
      have ih9 := ih
      refine x_iload_n C dX12_staleCount_9 rfl ?_
      refine x_aload_n C dX12_staleCount_10 rfl ?_
      refine x_get (.ref (b + 1)) C fl_X12_17 (M_obj hw) rfl dX12_staleCount_11 ?_
      refine x_iconst (2 : Int32) C dX12_staleCount_14 rfl ?_
      refine x_ialdN C (M_a1 hw) (ixl (x := (2 : Int32)) 2 rfl) (by omega) (by decide) dX12_staleCount_15 ?_
      obtain ⟨hn1, hl2⟩ := vpn (OkR_2 hok) (by decide)
      refine x_icmp_ge 41 C dX12_staleCount_16 (by decide) (fun c3 => ?_) (fun c3 => ?_)
      · have hF := hF.trans (if_pos c3)
        have q4 := (nleI hn1 hnx2 (by omega) (by omega)).mp c3
        refine x_iload_n C dX12_staleCount_41 rfl ?_
        exact x_iretM C rfl dX12_staleCount_42 (e_i (congrArg Prod.fst hF)) (by rw [hF]; exact hw) hS
      · have hF := hF.trans (if_neg c3)
        have q4 := mt (nleI hn1 hnx2 (by omega) (by omega)).mpr c3
        refine x_iload_n C dX12_staleCount_19 rfl ?_
        refine x_aload_n C dX12_staleCount_20 rfl ?_
        refine x_iload_n C dX12_staleCount_21 rfl ?_
        refine x_goR (fun ls h => x_runV (As := [.int x2]) [.int x1] h C ml_X12_386 (c_X12_isOld l D cA s0 b (uI μ 0 0 (0 : Int32)) hok x2 (ixin hnx2 (by omega) (by decide))) ⟨rfl, rfl, nb rfl, nb rfl⟩ rfl (M_obj hw) rfl hw (nb rfl) ⟨Nat.zero_le _, Nat.zero_le _⟩ dX12_staleCount_22) ?_
        refine x_ifB_eq 32 C dX12_staleCount_25 (by decide) (fun c5 => ?_) (fun c5 => ?_)
        · have hF := hF.trans (if_neg (nbt c5))
          refine x_iconst (0 : Int32) C dX12_staleCount_32 rfl ?_
          refine x_iadd C dX12_staleCount_33 ?_
          refine x_istore_n [(1, .int (x1 + (0 : Int32))), (0, .ref b), (2, .int x2)] C dX12_staleCount_34 rfl (by decide) rfl ?_
          refine x_iinc (x2 + (1 : Int32)) [(2, .int (x2 + (1 : Int32))), (1, .int (x1 + (0 : Int32))), (0, .ref b)] C dX12_staleCount_35 rfl rfl (by decide) rfl ?_
          refine x_goto 9 C dX12_staleCount_38 (by decide) ?_
          refine x_sub [(0, .ref b), (1, .int (x1 + (0 : Int32))), (2, .int (x2 + (1 : Int32)))] [2, 1, 0] rfl ?_
          exact ih9 (x1 + (0 : Int32)) (x2 + (1 : Int32)) (natS (ixa hnx2 (ixl (x := (1 : Int32)) 1 rfl)) (by omega)).1 (by rw [(natS (ixa hnx2 (ixl (x := (1 : Int32)) 1 rfl)) (by omega)).2]; omega) (by rw [(natS (ixa hnx2 (ixl (x := (1 : Int32)) 1 rfl)) (by omega)).2]; omega) _ _ hw hS hF
        · have hF := hF.trans (if_pos c5)
          refine x_iconst (1 : Int32) C dX12_staleCount_28 rfl ?_
          refine x_goto 33 C dX12_staleCount_29 (by decide) ?_
          refine x_iadd C dX12_staleCount_33 ?_
          refine x_istore_n [(1, .int (x1 + (1 : Int32))), (0, .ref b), (2, .int x2)] C dX12_staleCount_34 rfl (by decide) rfl ?_
          refine x_iinc (x2 + (1 : Int32)) [(2, .int (x2 + (1 : Int32))), (1, .int (x1 + (1 : Int32))), (0, .ref b)] C dX12_staleCount_35 rfl rfl (by decide) rfl ?_
          refine x_goto 9 C dX12_staleCount_38 (by decide) ?_
          refine x_sub [(0, .ref b), (1, .int (x1 + (1 : Int32))), (2, .int (x2 + (1 : Int32)))] [2, 1, 0] rfl ?_
          exact ih9 (x1 + (1 : Int32)) (x2 + (1 : Int32)) (natS (ixa hnx2 (ixl (x := (1 : Int32)) 1 rfl)) (by omega)).1 (by rw [(natS (ixa hnx2 (ixl (x := (1 : Int32)) 1 rfl)) (by omega)).2]; omega) (by rw [(natS (ixa hnx2 (ixl (x := (1 : Int32)) 1 rfl)) (by omega)).2]; omega) _ _ hw hS hF
  refine x_aload_n C dX12_staleCount_0 rfl ?_
  refine x_iconst (0 : Int32) C dX12_staleCount_1 rfl ?_
  refine x_putI (kk0 := 0) 0 C fl_X12_3 hw (by decide) rfl rfl rfl rfl (nb rfl) dX12_staleCount_2 hS (xA_in (by decide)) (fun H locs hw ho hz hS => ?_)
  refine x_iconst (0 : Int32) C dX12_staleCount_5 rfl ?_
  refine x_istore_n [(1, .int (0 : Int32)), (0, .ref b)] C dX12_staleCount_6 rfl (by decide) rfl ?_
  refine x_iconst (0 : Int32) C dX12_staleCount_7 rfl ?_
  refine x_istore_n [(2, .int (0 : Int32)), (1, .int (0 : Int32)), (0, .ref b)] C dX12_staleCount_8 rfl (by decide) rfl ?_
  refine x_sub [(0, .ref b), (1, .int (0 : Int32)), (2, .int (0 : Int32))] [2, 1, 0] rfl ?_
  exact hL9 61 (0 : Int32) (0 : Int32) (natS (ixl (x := (0 : Int32)) 0 rfl) (by omega)).1 (by rw [(natS (ixl (x := (0 : Int32)) 0 rfl) (by omega)).2]; omega) (by rw [(natS (ixl (x := (0 : Int32)) 0 rfl) (by omega)).2]; omega) _ _ hw hS hF
def f_X12_overdue_L22 (μ : Mm) (a1 : Int32) : Nat → Int32 → Int32 → Int32 × Mm
  | 0, _, _ => (0, μ)
  | n + 1, x2, x3 => (if (((f_X12_passes μ (f_X12_in a1.toInt64 (0 : Int64) (3599 : Int64))).2).1 1 2) ≤ x3 then (x2, (f_X12_passes μ (f_X12_in a1.toInt64 (0 : Int64) (3599 : Int64))).2) else (if ((((f_X12_passes μ (f_X12_in a1.toInt64 (0 : Int64) (3599 : Int64))).2).1 1 5) - (f_X12_ofInvoice ((f_X12_passes μ (f_X12_in a1.toInt64 (0 : Int64) (3599 : Int64))).2) x3 (1 : Int32))) < a1 then (f_X12_overdue_L22 μ a1 n (x2 + (0 : Int32)) (x3 + (1 : Int32))) else (if (f_X12_openOf ((f_X12_passes μ (f_X12_in a1.toInt64 (0 : Int64) (3599 : Int64))).2) x3) ≤ 0 then (f_X12_overdue_L22 μ a1 n (x2 + (0 : Int32)) (x3 + (1 : Int32))) else (f_X12_overdue_L22 μ a1 n (x2 + (1 : Int32)) (x3 + (1 : Int32))))))
def f_X12_overdue (μ : Mm) (a1 : Int32) : Int32 × Mm := (if (f_X12_passes μ (f_X12_in a1.toInt64 (0 : Int64) (3599 : Int64))).1 then (f_X12_overdue_L22 μ a1 61 (0 : Int32) (0 : Int32)) else ((0 : Int32), (f_X12_passes μ (f_X12_in a1.toInt64 (0 : Int64) (3599 : Int64))).2))
set_option maxRecDepth 20000 in
set_option maxHeartbeats 4000000 in
theorem c_X12_overdue (l : Launch) (D : va_G) (cA : Nat → ClassId) (s0 : State) (b : Nat) (μ : Mm) (sz : Nat) (hok : OkR (μ.1 1)) (a1 : Int32) : Met l yX12_overdue (wsG yX12_overdue cX12_overdue 4 (some (FieldType.int))) { frames := 4, cells := 0, slots := 0, locals := 92 } (xP D cA s0 [.ref b, .int a1] (fun H => H.size = sz ∧ RM D cA b μ H)) (xQm (some (.int (f_X12_overdue μ a1).1)) (fun H => RM D cA b (f_X12_overdue μ a1).2 H) (xA b 8 sz)) 0 0 (xA b 8 sz) := by
  refine x_start (own := RX12) [(0, .ref b), (1, .int a1)] rfl rfl (by decide) (nb rfl) ?_
  intro p e s m args below meth c C hw
  obtain ⟨F, hF⟩ : ∃ z, z = (f_X12_overdue μ a1) := ⟨_, rfl⟩
  rw [← hF]
  obtain ⟨hsz, hw⟩ := hw
  subst hsz
  have hS : va_S (xA b 8 s.heap.size) s.heap s.heap [] := va_S.rf
  have hL22 : ∀ (n : Nat) (x2 : Int32) (x3 : Int32) (hnx3 : x3 = nI (cl x3)) (hbx3 : cl x3 ≤ 60) (hmx3 : 60 < cl x3 + n) (H : Heap) (locs : List Loc) (hw : RM D cA b ((f_X12_passes μ (f_X12_in a1.toInt64 (0 : Int64) (3599 : Int64))).2) H) (hS : va_S (xA b 8 s.heap.size) s.heap H locs), F = f_X12_overdue_L22 μ a1 n x2 x3 → xW p l e { frames := 4, cells := 0, slots := 0, locals := 92 } s m args below meth c 4 (MQ below (xQm (some (.int F.1)) (fun H => RM D cA b F.2 H) (xA b 8 s.heap.size)) args s 0 0 (xA b 8 s.heap.size)) H locs 0 0 22 [(0, .ref b), (1, .int a1), (2, .int x2), (3, .int x3)] [] := by
    intro n
    induction n with
    | zero =>
      intro x2 x3 hnx3 hbx3 hmx3 H locs hw hS hF
      exact False.elim (by omega)
    | succ n ih =>
      intro x2 x3 hnx3 hbx3 hmx3 H locs hw hS hF
      have ih22 := ih
      refine x_iload_n C dX12_overdue_22 rfl ?_
      refine x_aload_n C dX12_overdue_23 rfl ?_
      refine x_get (.ref (b + 1)) C fl_X12_17 (M_obj hw) rfl dX12_overdue_24 ?_
      refine x_iconst (2 : Int32) C dX12_overdue_27 rfl ?_
      refine x_ialdN C (M_a1 hw) (ixl (x := (2 : Int32)) 2 rfl) (by omega) (by decide) dX12_overdue_28 ?_
      obtain ⟨hn2, hl3⟩ := vpn (OkR_2 (ok_p1 hok)) (by decide)
      refine x_icmp_ge 71 C dX12_overdue_29 (by decide) (fun c4 => ?_) (fun c4 => ?_)
      · have hF := hF.trans (if_pos c4)
        have q5 := (nleI hn2 hnx3 (by omega) (by omega)).mp c4
        refine x_iload_n C dX12_overdue_71 rfl ?_
        exact x_iretM C rfl dX12_overdue_72 (e_i (congrArg Prod.fst hF)) (by rw [hF]; exact hw) hS
      · have hF := hF.trans (if_neg c4)
        have q5 := mt (nleI hn2 hnx3 (by omega) (by omega)).mpr c4
        refine x_iload_n C dX12_overdue_32 rfl ?_
        refine x_aload_n C dX12_overdue_33 rfl ?_
        refine x_get (.ref (b + 1)) C fl_X12_17 (M_obj hw) rfl dX12_overdue_34 ?_
        refine x_iconst (5 : Int32) C dX12_overdue_37 rfl ?_
        refine x_ialdN C (M_a1 hw) (ixl (x := (5 : Int32)) 5 rfl) (by omega) (by decide) dX12_overdue_38 ?_
        refine x_aload_n C dX12_overdue_39 rfl ?_
        refine x_iload_n C dX12_overdue_40 rfl ?_
        refine x_iconst (1 : Int32) C dX12_overdue_41 rfl ?_
        refine x_goR (fun ls h => x_runV (As := [.int x3, .int (1 : Int32)]) [.int (((f_X12_passes μ (f_X12_in a1.toInt64 (0 : Int64) (3599 : Int64))).2).1 1 5), .int x2] h C ml_X12_305 (c_X12_ofInvoice l D cA s0 b ((f_X12_passes μ (f_X12_in a1.toInt64 (0 : Int64) (3599 : Int64))).2) x3 (1 : Int32) (ixin hnx3 (by omega) (by decide)) (ixin (ixl (x := (1 : Int32)) 1 rfl) (by omega) (by decide))) ⟨rfl, rfl, nb rfl, nb rfl⟩ rfl (M_obj hw) rfl hw (nb rfl) ⟨Nat.zero_le _, Nat.zero_le _⟩ dX12_overdue_42) ?_
        refine x_isub C dX12_overdue_45 ?_
        refine x_iload_n C dX12_overdue_46 rfl ?_
        refine x_icmp_lt 62 C dX12_overdue_47 (by decide) (fun c6 => ?_) (fun c6 => ?_)
        · have hF := hF.trans (if_pos c6)
          refine x_iconst (0 : Int32) C dX12_overdue_62 rfl ?_
          refine x_iadd C dX12_overdue_63 ?_
          refine x_istore_n [(2, .int (x2 + (0 : Int32))), (0, .ref b), (1, .int a1), (3, .int x3)] C dX12_overdue_64 rfl (by decide) rfl ?_
          refine x_iinc (x3 + (1 : Int32)) [(3, .int (x3 + (1 : Int32))), (2, .int (x2 + (0 : Int32))), (0, .ref b), (1, .int a1)] C dX12_overdue_65 rfl rfl (by decide) rfl ?_
          refine x_goto 22 C dX12_overdue_68 (by decide) ?_
          refine x_sub [(0, .ref b), (1, .int a1), (2, .int (x2 + (0 : Int32))), (3, .int (x3 + (1 : Int32)))] [2, 3, 1, 0] rfl ?_
          exact ih22 (x2 + (0 : Int32)) (x3 + (1 : Int32)) (natS (ixa hnx3 (ixl (x := (1 : Int32)) 1 rfl)) (by omega)).1 (by rw [(natS (ixa hnx3 (ixl (x := (1 : Int32)) 1 rfl)) (by omega)).2]; omega) (by rw [(natS (ixa hnx3 (ixl (x := (1 : Int32)) 1 rfl)) (by omega)).2]; omega) _ _ hw hS hF
        · have hF := hF.trans (if_neg c6)
          refine x_aload_n C dX12_overdue_50 rfl ?_
          refine x_iload_n C dX12_overdue_51 rfl ?_
          refine x_goR (fun ls h => x_runV (As := [.int x3]) [.int x2] h C ml_X12_383 (c_X12_openOf l D cA s0 b ((f_X12_passes μ (f_X12_in a1.toInt64 (0 : Int64) (3599 : Int64))).2) (ok_p1 hok) x3 (ixin hnx3 (by omega) (by decide))) ⟨rfl, rfl, nb rfl, nb rfl⟩ rfl (M_obj hw) rfl hw (nb rfl) ⟨Nat.zero_le _, Nat.zero_le _⟩ dX12_overdue_52) ?_
          refine x_if_le 62 C dX12_overdue_55 (by decide) (fun c7 => ?_) (fun c7 => ?_)
          · have hF := hF.trans (if_pos c7)
            refine x_iconst (0 : Int32) C dX12_overdue_62 rfl ?_
            refine x_iadd C dX12_overdue_63 ?_
            refine x_istore_n [(2, .int (x2 + (0 : Int32))), (0, .ref b), (1, .int a1), (3, .int x3)] C dX12_overdue_64 rfl (by decide) rfl ?_
            refine x_iinc (x3 + (1 : Int32)) [(3, .int (x3 + (1 : Int32))), (2, .int (x2 + (0 : Int32))), (0, .ref b), (1, .int a1)] C dX12_overdue_65 rfl rfl (by decide) rfl ?_
            refine x_goto 22 C dX12_overdue_68 (by decide) ?_
            refine x_sub [(0, .ref b), (1, .int a1), (2, .int (x2 + (0 : Int32))), (3, .int (x3 + (1 : Int32)))] [2, 3, 1, 0] rfl ?_
            exact ih22 (x2 + (0 : Int32)) (x3 + (1 : Int32)) (natS (ixa hnx3 (ixl (x := (1 : Int32)) 1 rfl)) (by omega)).1 (by rw [(natS (ixa hnx3 (ixl (x := (1 : Int32)) 1 rfl)) (by omega)).2]; omega) (by rw [(natS (ixa hnx3 (ixl (x := (1 : Int32)) 1 rfl)) (by omega)).2]; omega) _ _ hw hS hF
          · have hF := hF.trans (if_neg c7)
            refine x_iconst (1 : Int32) C dX12_overdue_58 rfl ?_
            refine x_goto 63 C dX12_overdue_59 (by decide) ?_
            refine x_iadd C dX12_overdue_63 ?_
            refine x_istore_n [(2, .int (x2 + (1 : Int32))), (0, .ref b), (1, .int a1), (3, .int x3)] C dX12_overdue_64 rfl (by decide) rfl ?_
            refine x_iinc (x3 + (1 : Int32)) [(3, .int (x3 + (1 : Int32))), (2, .int (x2 + (1 : Int32))), (0, .ref b), (1, .int a1)] C dX12_overdue_65 rfl rfl (by decide) rfl ?_
            refine x_goto 22 C dX12_overdue_68 (by decide) ?_
            refine x_sub [(0, .ref b), (1, .int a1), (2, .int (x2 + (1 : Int32))), (3, .int (x3 + (1 : Int32)))] [2, 3, 1, 0] rfl ?_
            exact ih22 (x2 + (1 : Int32)) (x3 + (1 : Int32)) (natS (ixa hnx3 (ixl (x := (1 : Int32)) 1 rfl)) (by omega)).1 (by rw [(natS (ixa hnx3 (ixl (x := (1 : Int32)) 1 rfl)) (by omega)).2]; omega) (by rw [(natS (ixa hnx3 (ixl (x := (1 : Int32)) 1 rfl)) (by omega)).2]; omega) _ _ hw hS hF
  refine x_aload_n C dX12_overdue_0 rfl ?_
  refine x_iload_n C dX12_overdue_1 rfl ?_
  refine x_i2l C dX12_overdue_2 ?_
  refine x_lconst (0 : Int64) C dX12_overdue_3 rfl ?_
  refine x_ldc2 (3599 : Int64) C cl_X12_393 dX12_overdue_4 ?_
  refine x_goR (fun ls h => x_runS (As := [.long a1.toInt64, .long (0 : Int64), .long (3599 : Int64)]) [.ref b] h C ml_X12_47 (c_X12_in l D cA s0 a1.toInt64 (0 : Int64) (3599 : Int64) ) ⟨rfl, rfl, nb rfl, nb rfl⟩ rfl trivial (nb rfl) ⟨Nat.zero_le _, Nat.zero_le _⟩ dX12_overdue_7) ?_
  refine x_goM (fun ls h => x_runV (As := [.int (bI (f_X12_in a1.toInt64 (0 : Int64) (3599 : Int64)))]) [] h C ml_X12_62 (c_X12_passes l D cA s0 b μ _ (f_X12_in a1.toInt64 (0 : Int64) (3599 : Int64)) ) ⟨rfl, rfl, nb rfl, nb rfl⟩ rfl (M_obj hw) rfl ⟨rfl, hw⟩ (nb rfl) ⟨Nat.zero_le _, Nat.zero_le _⟩ dX12_overdue_10) hS (xA_le hS) (fun H locs hw hz hk hS => ?_)
  have hw : RM D cA b ((f_X12_passes μ (f_X12_in a1.toInt64 (0 : Int64) (3599 : Int64))).2) H := hw
  refine x_ifB_ne 18 C dX12_overdue_13 (by decide) (fun c1 => ?_) (fun c1 => ?_)
  · have hF := hF.trans (if_pos c1)
    refine x_iconst (0 : Int32) C dX12_overdue_18 rfl ?_
    refine x_istore_n [(2, .int (0 : Int32)), (0, .ref b), (1, .int a1)] C dX12_overdue_19 rfl (by decide) rfl ?_
    refine x_iconst (0 : Int32) C dX12_overdue_20 rfl ?_
    refine x_istore_n [(3, .int (0 : Int32)), (2, .int (0 : Int32)), (0, .ref b), (1, .int a1)] C dX12_overdue_21 rfl (by decide) rfl ?_
    refine x_sub [(0, .ref b), (1, .int a1), (2, .int (0 : Int32)), (3, .int (0 : Int32))] [2, 3, 1, 0] rfl ?_
    exact hL22 61 (0 : Int32) (0 : Int32) (natS (ixl (x := (0 : Int32)) 0 rfl) (by omega)).1 (by rw [(natS (ixl (x := (0 : Int32)) 0 rfl) (by omega)).2]; omega) (by rw [(natS (ixl (x := (0 : Int32)) 0 rfl) (by omega)).2]; omega) _ _ hw hS hF
  · have hF := hF.trans (if_neg (nbt c1))
    refine x_iconst (0 : Int32) C dX12_overdue_16 rfl ?_
    exact x_iretM C rfl dX12_overdue_17 (e_i (congrArg Prod.fst hF)) (by rw [hF]; exact hw) hS
def f_X12_revenue_L33 (μ : Mm) (a1 : Int32) (a2 : Int32) : Nat → Int64 → Int32 → Int64 × Mm
  | 0, _, _ => (0, μ)
  | n + 1, x3, x5 => (if (((f_X12_passes μ true).2).1 1 2) ≤ x5 then (x3, (f_X12_passes μ true).2) else (if (f_X12_yearOf ((f_X12_passes μ true).2) (f_X12_ofInvoice ((f_X12_passes μ true).2) x5 (0 : Int32))) = a1 then (if f_X12_has (f_X12_livingLines ((f_X12_passes μ true).2) x5) a2 then (f_X12_revenue_L33 μ a1 a2 n (x3 + ((f_X12_lineIn ((f_X12_passes μ true).2) x5 a2).toInt64)) (x5 + (1 : Int32))) else (f_X12_revenue_L33 μ a1 a2 n (x3 + (0 : Int64)) (x5 + (1 : Int32)))) else (f_X12_revenue_L33 μ a1 a2 n (x3 + (0 : Int64)) (x5 + (1 : Int32)))))
def f_X12_revenue (μ : Mm) (a1 : Int32) (a2 : Int32) : Int64 × Mm := (if f_X12_isYear a1 then (if f_X12_isLine a2 then (f_X12_revenue_L33 μ a1 a2 61 (0 : Int64) (0 : Int32)) else ((0 : Int64), (f_X12_passes μ false).2)) else ((0 : Int64), (f_X12_passes μ false).2))
set_option maxRecDepth 20000 in
set_option maxHeartbeats 4000000 in
theorem c_X12_revenue (l : Launch) (D : va_G) (cA : Nat → ClassId) (s0 : State) (b : Nat) (μ : Mm) (sz : Nat) (hok : OkR (μ.1 1)) (a1 : Int32) (a2 : Int32) : Met l yX12_revenue (wsG yX12_revenue cX12_revenue 6 (some (FieldType.long))) { frames := 2, cells := 0, slots := 0, locals := 45 } (xP D cA s0 [.ref b, .int a1, .int a2] (fun H => H.size = sz ∧ RM D cA b μ H)) (xQm (some (.long (f_X12_revenue μ a1 a2).1)) (fun H => RM D cA b (f_X12_revenue μ a1 a2).2 H) (xA b 8 sz)) 0 0 (xA b 8 sz) := by
  refine x_start (own := RX12) [(0, .ref b), (1, .int a1), (2, .int a2)] rfl rfl (by decide) (nb rfl) ?_
  intro p e s m args below meth c C hw
  obtain ⟨F, hF⟩ : ∃ z, z = (f_X12_revenue μ a1 a2) := ⟨_, rfl⟩
  rw [← hF]
  obtain ⟨hsz, hw⟩ := hw
  subst hsz
  have hS : va_S (xA b 8 s.heap.size) s.heap s.heap [] := va_S.rf
  have hL33 : ∀ (n : Nat) (x3 : Int64) (x5 : Int32) (hf2_33 : vp_in a2 4) (hnx5 : x5 = nI (cl x5)) (hbx5 : cl x5 ≤ 60) (hmx5 : 60 < cl x5 + n) (H : Heap) (locs : List Loc) (hw : RM D cA b ((f_X12_passes μ true).2) H) (hS : va_S (xA b 8 s.heap.size) s.heap H locs), F = f_X12_revenue_L33 μ a1 a2 n x3 x5 → xW p l e { frames := 2, cells := 0, slots := 0, locals := 45 } s m args below meth c 6 (MQ below (xQm (some (.long F.1)) (fun H => RM D cA b F.2 H) (xA b 8 s.heap.size)) args s 0 0 (xA b 8 s.heap.size)) H locs 0 0 33 [(0, .ref b), (1, .int a1), (2, .int a2), (3, .long x3), (5, .int x5)] [] := by
    intro n
    induction n with
    | zero =>
      intro x3 x5 hf2_33 hnx5 hbx5 hmx5 H locs hw hS hF
      exact False.elim (by omega)
    | succ n ih =>
      intro x3 x5 hf2_33 hnx5 hbx5 hmx5 H locs hw hS hF
      have ih33 := ih
      obtain ⟨hnf2_33, hlf2_33⟩ := vpn hf2_33 (by decide)
      refine x_iload C dX12_revenue_33 rfl ?_
      refine x_aload_n C dX12_revenue_35 rfl ?_
      refine x_get (.ref (b + 1)) C fl_X12_17 (M_obj hw) rfl dX12_revenue_36 ?_
      refine x_iconst (2 : Int32) C dX12_revenue_39 rfl ?_
      refine x_ialdN C (M_a1 hw) (ixl (x := (2 : Int32)) 2 rfl) (by omega) (by decide) dX12_revenue_40 ?_
      obtain ⟨hn5, hl6⟩ := vpn (OkR_2 (ok_p1 hok)) (by decide)
      refine x_icmp_ge 93 C dX12_revenue_41 (by decide) (fun c7 => ?_) (fun c7 => ?_)
      · have hF := hF.trans (if_pos c7)
        have q8 := (nleI hn5 hnx5 (by omega) (by omega)).mp c7
        refine x_lload_n C dX12_revenue_93 rfl ?_
        exact x_lretM C rfl dX12_revenue_94 (e_l (congrArg Prod.fst hF)) (by rw [hF]; exact hw) hS
      · have hF := hF.trans (if_neg c7)
        have q8 := mt (nleI hn5 hnx5 (by omega) (by omega)).mpr c7
        refine x_lload_n C dX12_revenue_44 rfl ?_
        refine x_aload_n C dX12_revenue_45 rfl ?_
        refine x_aload_n C dX12_revenue_46 rfl ?_
        refine x_iload C dX12_revenue_47 rfl ?_
        refine x_iconst (0 : Int32) C dX12_revenue_49 rfl ?_
        refine x_goR (fun ls h => x_runV (As := [.int x5, .int (0 : Int32)]) [.ref b, .long x3] h C ml_X12_305 (c_X12_ofInvoice l D cA s0 b ((f_X12_passes μ true).2) x5 (0 : Int32) (ixin hnx5 (by omega) (by decide)) (ixin (ixl (x := (0 : Int32)) 0 rfl) (by omega) (by decide))) ⟨rfl, rfl, nb rfl, nb rfl⟩ rfl (M_obj hw) rfl hw (nb rfl) ⟨Nat.zero_le _, Nat.zero_le _⟩ dX12_revenue_50) ?_
        obtain ⟨hn9, hl10⟩ := vpn (f_ofInvoice_call (ok_p1 hok) (ixin hnx5 (by omega) (by decide))) (by decide)
        refine x_goR (fun ls h => x_runV (As := [.int (f_X12_ofInvoice ((f_X12_passes μ true).2) x5 (0 : Int32))]) [.long x3] h C ml_X12_292 (c_X12_yearOf l D cA s0 b ((f_X12_passes μ true).2) (f_X12_ofInvoice ((f_X12_passes μ true).2) x5 (0 : Int32)) (ixin hn9 (by omega) (by decide))) ⟨rfl, rfl, nb rfl, nb rfl⟩ rfl (M_obj hw) rfl hw (nb rfl) ⟨Nat.zero_le _, Nat.zero_le _⟩ dX12_revenue_53) ?_
        refine x_iload_n C dX12_revenue_56 rfl ?_
        refine x_icmp_ne 84 C dX12_revenue_57 (by decide) (fun c11 => ?_) (fun c11 => ?_)
        · have hF := hF.trans (if_neg c11)
          refine x_lconst (0 : Int64) C dX12_revenue_84 rfl ?_
          refine x_ladd C dX12_revenue_85 ?_
          refine x_lstore_n [(3, .long (x3 + (0 : Int64))), (0, .ref b), (1, .int a1), (2, .int a2), (5, .int x5)] C dX12_revenue_86 rfl (by decide) rfl ?_
          refine x_iinc (x5 + (1 : Int32)) [(5, .int (x5 + (1 : Int32))), (3, .long (x3 + (0 : Int64))), (0, .ref b), (1, .int a1), (2, .int a2)] C dX12_revenue_87 rfl rfl (by decide) rfl ?_
          refine x_goto 33 C dX12_revenue_90 (by decide) ?_
          refine x_sub [(0, .ref b), (1, .int a1), (2, .int a2), (3, .long (x3 + (0 : Int64))), (5, .int (x5 + (1 : Int32)))] [2, 3, 4, 1, 0] rfl ?_
          exact ih33 (x3 + (0 : Int64)) (x5 + (1 : Int32)) (ixin hnf2_33 (by omega) (by decide)) (natS (ixa hnx5 (ixl (x := (1 : Int32)) 1 rfl)) (by omega)).1 (by rw [(natS (ixa hnx5 (ixl (x := (1 : Int32)) 1 rfl)) (by omega)).2]; omega) (by rw [(natS (ixa hnx5 (ixl (x := (1 : Int32)) 1 rfl)) (by omega)).2]; omega) _ _ hw hS hF
        · have hF := hF.trans (if_pos c11)
          refine x_aload_n C dX12_revenue_60 rfl ?_
          refine x_iload C dX12_revenue_61 rfl ?_
          refine x_goR (fun ls h => x_runV (As := [.int x5]) [.long x3] h C ml_X12_362 (c_X12_livingLines l D cA s0 b ((f_X12_passes μ true).2) x5 (ixin hnx5 (by omega) (by decide))) ⟨rfl, rfl, nb rfl, nb rfl⟩ rfl (M_obj hw) rfl hw (nb rfl) ⟨Nat.zero_le _, Nat.zero_le _⟩ dX12_revenue_63) ?_
          refine x_iload_n C dX12_revenue_66 rfl ?_
          refine x_goR (fun ls h => x_runS (As := [.int (f_X12_livingLines ((f_X12_passes μ true).2) x5), .int a2]) [.long x3] h C ml_X12_308 (c_X12_has l D cA s0 (f_X12_livingLines ((f_X12_passes μ true).2) x5) a2 ) ⟨rfl, rfl, nb rfl, nb rfl⟩ rfl trivial (nb rfl) ⟨Nat.zero_le _, Nat.zero_le _⟩ dX12_revenue_67) ?_
          refine x_ifB_eq 84 C dX12_revenue_70 (by decide) (fun c12 => ?_) (fun c12 => ?_)
          · have hF := hF.trans (if_neg (nbt c12))
            refine x_lconst (0 : Int64) C dX12_revenue_84 rfl ?_
            refine x_ladd C dX12_revenue_85 ?_
            refine x_lstore_n [(3, .long (x3 + (0 : Int64))), (0, .ref b), (1, .int a1), (2, .int a2), (5, .int x5)] C dX12_revenue_86 rfl (by decide) rfl ?_
            refine x_iinc (x5 + (1 : Int32)) [(5, .int (x5 + (1 : Int32))), (3, .long (x3 + (0 : Int64))), (0, .ref b), (1, .int a1), (2, .int a2)] C dX12_revenue_87 rfl rfl (by decide) rfl ?_
            refine x_goto 33 C dX12_revenue_90 (by decide) ?_
            refine x_sub [(0, .ref b), (1, .int a1), (2, .int a2), (3, .long (x3 + (0 : Int64))), (5, .int (x5 + (1 : Int32)))] [2, 3, 4, 1, 0] rfl ?_
            exact ih33 (x3 + (0 : Int64)) (x5 + (1 : Int32)) (ixin hnf2_33 (by omega) (by decide)) (natS (ixa hnx5 (ixl (x := (1 : Int32)) 1 rfl)) (by omega)).1 (by rw [(natS (ixa hnx5 (ixl (x := (1 : Int32)) 1 rfl)) (by omega)).2]; omega) (by rw [(natS (ixa hnx5 (ixl (x := (1 : Int32)) 1 rfl)) (by omega)).2]; omega) _ _ hw hS hF
          · have hF := hF.trans (if_pos c12)
            refine x_aload_n C dX12_revenue_73 rfl ?_
            refine x_iload C dX12_revenue_74 rfl ?_
            refine x_iload_n C dX12_revenue_76 rfl ?_
            refine x_goR (fun ls h => x_runV (As := [.int x5, .int a2]) [.long x3] h C ml_X12_365 (c_X12_lineIn l D cA s0 b ((f_X12_passes μ true).2) x5 a2 (ixin hnx5 (by omega) (by decide)) (ixin hnf2_33 (by omega) (by decide))) ⟨rfl, rfl, nb rfl, nb rfl⟩ rfl (M_obj hw) rfl hw (nb rfl) ⟨Nat.zero_le _, Nat.zero_le _⟩ dX12_revenue_77) ?_
            refine x_i2l C dX12_revenue_80 ?_
            refine x_goto 85 C dX12_revenue_81 (by decide) ?_
            refine x_ladd C dX12_revenue_85 ?_
            refine x_lstore_n [(3, .long (x3 + ((f_X12_lineIn ((f_X12_passes μ true).2) x5 a2).toInt64))), (0, .ref b), (1, .int a1), (2, .int a2), (5, .int x5)] C dX12_revenue_86 rfl (by decide) rfl ?_
            refine x_iinc (x5 + (1 : Int32)) [(5, .int (x5 + (1 : Int32))), (3, .long (x3 + ((f_X12_lineIn ((f_X12_passes μ true).2) x5 a2).toInt64))), (0, .ref b), (1, .int a1), (2, .int a2)] C dX12_revenue_87 rfl rfl (by decide) rfl ?_
            refine x_goto 33 C dX12_revenue_90 (by decide) ?_
            refine x_sub [(0, .ref b), (1, .int a1), (2, .int a2), (3, .long (x3 + ((f_X12_lineIn ((f_X12_passes μ true).2) x5 a2).toInt64))), (5, .int (x5 + (1 : Int32)))] [2, 3, 4, 1, 0] rfl ?_
            exact ih33 (x3 + ((f_X12_lineIn ((f_X12_passes μ true).2) x5 a2).toInt64)) (x5 + (1 : Int32)) (ixin hnf2_33 (by omega) (by decide)) (natS (ixa hnx5 (ixl (x := (1 : Int32)) 1 rfl)) (by omega)).1 (by rw [(natS (ixa hnx5 (ixl (x := (1 : Int32)) 1 rfl)) (by omega)).2]; omega) (by rw [(natS (ixa hnx5 (ixl (x := (1 : Int32)) 1 rfl)) (by omega)).2]; omega) _ _ hw hS hF
  refine x_aload_n C dX12_revenue_0 rfl ?_
  refine x_iload_n C dX12_revenue_1 rfl ?_
  refine x_goR (fun ls h => x_runS (As := [.int a1]) [.ref b] h C ml_X12_339 (c_X12_isYear l D cA s0 a1 ) ⟨rfl, rfl, nb rfl, nb rfl⟩ rfl trivial (nb rfl) ⟨Nat.zero_le _, Nat.zero_le _⟩ dX12_revenue_2) ?_
  refine x_ifB_eq 19 C dX12_revenue_5 (by decide) (fun c1 => ?_) (fun c1 => ?_)
  · have hF := hF.trans (if_neg (nbt c1))
    refine x_iconst (0 : Int32) C dX12_revenue_19 rfl ?_
    refine x_goM (fun ls h => x_runV (As := [.int (bI false)]) [] h C ml_X12_62 (c_X12_passes l D cA s0 b μ _ false ) ⟨rfl, rfl, nb rfl, nb rfl⟩ rfl (M_obj hw) rfl ⟨rfl, hw⟩ (nb rfl) ⟨Nat.zero_le _, Nat.zero_le _⟩ dX12_revenue_20) hS (xA_le hS) (fun H locs hw hz hk hS => ?_)
    have hw : RM D cA b ((f_X12_passes μ false).2) H := hw
    refine x_topi (0 : Int32) (by rw [pz1a]; rfl) ?_
    refine x_if_ne 28 C dX12_revenue_23 (by decide) (fun z => absurd z (by decide)) (fun _ => ?_)
    refine x_lconst (0 : Int64) C dX12_revenue_26 rfl ?_
    exact x_lretM C rfl dX12_revenue_27 (e_l (congrArg Prod.fst hF)) (by rw [hF]; exact hw) hS
  · have hF := hF.trans (if_pos c1)
    refine x_iload_n C dX12_revenue_8 rfl ?_
    refine x_goR (fun ls h => x_runS (As := [.int a2]) [.ref b] h C ml_X12_356 (c_X12_isLine l D cA s0 a2 ) ⟨rfl, rfl, nb rfl, nb rfl⟩ rfl trivial (nb rfl) ⟨Nat.zero_le _, Nat.zero_le _⟩ dX12_revenue_9) ?_
    refine x_ifB_eq 19 C dX12_revenue_12 (by decide) (fun c2 => ?_) (fun c2 => ?_)
    · have hF := hF.trans (if_neg (nbt c2))
      refine x_iconst (0 : Int32) C dX12_revenue_19 rfl ?_
      refine x_goM (fun ls h => x_runV (As := [.int (bI false)]) [] h C ml_X12_62 (c_X12_passes l D cA s0 b μ _ false ) ⟨rfl, rfl, nb rfl, nb rfl⟩ rfl (M_obj hw) rfl ⟨rfl, hw⟩ (nb rfl) ⟨Nat.zero_le _, Nat.zero_le _⟩ dX12_revenue_20) hS (xA_le hS) (fun H locs hw hz hk hS => ?_)
      have hw : RM D cA b ((f_X12_passes μ false).2) H := hw
      refine x_topi (0 : Int32) (by rw [pz1a]; rfl) ?_
      refine x_if_ne 28 C dX12_revenue_23 (by decide) (fun z => absurd z (by decide)) (fun _ => ?_)
      refine x_lconst (0 : Int64) C dX12_revenue_26 rfl ?_
      exact x_lretM C rfl dX12_revenue_27 (e_l (congrArg Prod.fst hF)) (by rw [hF]; exact hw) hS
    · have hF := hF.trans (if_pos c2)
      obtain ⟨hn3, hl4⟩ := vpn (in_vpL (n := 4) c2 (by decide +kernel)) (by decide)
      refine x_iconst (1 : Int32) C dX12_revenue_15 rfl ?_
      refine x_goto 20 C dX12_revenue_16 (by decide) ?_
      refine x_goM (fun ls h => x_runV (As := [.int (bI true)]) [] h C ml_X12_62 (c_X12_passes l D cA s0 b μ _ true ) ⟨rfl, rfl, nb rfl, nb rfl⟩ rfl (M_obj hw) rfl ⟨rfl, hw⟩ (nb rfl) ⟨Nat.zero_le _, Nat.zero_le _⟩ dX12_revenue_20) hS (xA_le hS) (fun H locs hw hz hk hS => ?_)
      have hw : RM D cA b ((f_X12_passes μ true).2) H := hw
      refine x_topi (1 : Int32) rfl ?_
      refine x_if_ne 28 C dX12_revenue_23 (by decide) (fun _ => ?_) (fun z => absurd z (by decide))
      refine x_lconst (0 : Int64) C dX12_revenue_28 rfl ?_
      refine x_lstore_n [(3, .long (0 : Int64)), (0, .ref b), (1, .int a1), (2, .int a2)] C dX12_revenue_29 rfl (by decide) rfl ?_
      refine x_iconst (0 : Int32) C dX12_revenue_30 rfl ?_
      refine x_istore [(5, .int (0 : Int32)), (3, .long (0 : Int64)), (0, .ref b), (1, .int a1), (2, .int a2)] C dX12_revenue_31 (by decide) rfl ?_
      refine x_sub [(0, .ref b), (1, .int a1), (2, .int a2), (3, .long (0 : Int64)), (5, .int (0 : Int32))] [2, 3, 4, 1, 0] rfl ?_
      exact hL33 61 (0 : Int64) (0 : Int32) (ixin hn3 (by omega) (by decide)) (natS (ixl (x := (0 : Int32)) 0 rfl) (by omega)).1 (by rw [(natS (ixl (x := (0 : Int32)) 0 rfl) (by omega)).2]; omega) (by rw [(natS (ixl (x := (0 : Int32)) 0 rfl) (by omega)).2]; omega) _ _ hw hS hF
def f_X12_busiestYear_L18 (μ : Mm) (a1 : Int32) : Nat → Int32 → Int32 → Int32 × Mm
  | 0, _, _ => (0, μ)
  | n + 1, x2, x3 => (if (10 : Int32) ≤ x3 then (x2, (f_X12_passes μ (f_X12_isShip μ a1)).2) else (if (f_X12_callsIn ((f_X12_passes μ (f_X12_isShip μ a1)).2) a1 x3) ≤ (f_X12_callsIn ((f_X12_passes μ (f_X12_isShip μ a1)).2) a1 x2) then (f_X12_busiestYear_L18 μ a1 n x2 (x3 + (1 : Int32))) else (f_X12_busiestYear_L18 μ a1 n x3 (x3 + (1 : Int32)))))
def f_X12_busiestYear (μ : Mm) (a1 : Int32) : Int32 × Mm := (if (f_X12_passes μ (f_X12_isShip μ a1)).1 then (f_X12_busiestYear_L18 μ a1 11 (0 : Int32) (1 : Int32)) else ((0 : Int32), (f_X12_passes μ (f_X12_isShip μ a1)).2))
set_option maxRecDepth 20000 in
set_option maxHeartbeats 4000000 in
theorem c_X12_busiestYear (l : Launch) (D : va_G) (cA : Nat → ClassId) (s0 : State) (b : Nat) (μ : Mm) (sz : Nat) (hok : OkR (μ.1 1)) (a1 : Int32) : Met l yX12_busiestYear (wsG yX12_busiestYear cX12_busiestYear 4 (some (FieldType.int))) { frames := 3, cells := 0, slots := 0, locals := 68 } (xP D cA s0 [.ref b, .int a1] (fun H => H.size = sz ∧ RM D cA b μ H)) (xQm (some (.int (f_X12_busiestYear μ a1).1)) (fun H => RM D cA b (f_X12_busiestYear μ a1).2 H) (xA b 8 sz)) 0 0 (xA b 8 sz) := by
  refine x_start (own := RX12) [(0, .ref b), (1, .int a1)] rfl rfl (by decide) (nb rfl) ?_
  intro p e s m args below meth c C hw
  obtain ⟨F, hF⟩ : ∃ z, z = (f_X12_busiestYear μ a1) := ⟨_, rfl⟩
  rw [← hF]
  obtain ⟨hsz, hw⟩ := hw
  subst hsz
  have hS : va_S (xA b 8 s.heap.size) s.heap s.heap [] := va_S.rf
  have hL18 : ∀ (n : Nat) (x2 : Int32) (x3 : Int32) (hf1_18 : vp_in a1 8) (hnx3 : x3 = nI (cl x3)) (hbx3 : cl x3 ≤ 10) (hmx3 : 10 < cl x3 + n) (H : Heap) (locs : List Loc) (hw : RM D cA b ((f_X12_passes μ (f_X12_isShip μ a1)).2) H) (hS : va_S (xA b 8 s.heap.size) s.heap H locs), F = f_X12_busiestYear_L18 μ a1 n x2 x3 → xW p l e { frames := 3, cells := 0, slots := 0, locals := 68 } s m args below meth c 4 (MQ below (xQm (some (.int F.1)) (fun H => RM D cA b F.2 H) (xA b 8 s.heap.size)) args s 0 0 (xA b 8 s.heap.size)) H locs 0 0 18 [(0, .ref b), (1, .int a1), (2, .int x2), (3, .int x3)] [] := by
    intro n
    induction n with
    | zero =>
      intro x2 x3 hf1_18 hnx3 hbx3 hmx3 H locs hw hS hF
      exact False.elim (by omega)
    | succ n ih =>
      intro x2 x3 hf1_18 hnx3 hbx3 hmx3 H locs hw hS hF
      have ih18 := ih
      obtain ⟨hnf1_18, hlf1_18⟩ := vpn hf1_18 (by decide)
      refine x_iload_n C dX12_busiestYear_18 rfl ?_
      refine x_bipush (10 : Int32) C dX12_busiestYear_19 rfl ?_
      refine x_icmp_ge 51 C dX12_busiestYear_21 (by decide) (fun c4 => ?_) (fun c4 => ?_)
      · have hF := hF.trans (if_pos c4)
        have q5 := (nleI (ixl (x := (10 : Int32)) 10 rfl) hnx3 (by omega) (by omega)).mp c4
        refine x_iload_n C dX12_busiestYear_51 rfl ?_
        exact x_iretM C rfl dX12_busiestYear_52 (e_i (congrArg Prod.fst hF)) (by rw [hF]; exact hw) hS
      · have hF := hF.trans (if_neg c4)
        have q5 := mt (nleI (ixl (x := (10 : Int32)) 10 rfl) hnx3 (by omega) (by omega)).mpr c4
        refine x_aload_n C dX12_busiestYear_24 rfl ?_
        refine x_iload_n C dX12_busiestYear_25 rfl ?_
        refine x_iload_n C dX12_busiestYear_26 rfl ?_
        refine x_goR (fun ls h => x_runV (As := [.int a1, .int x3]) [] h C ml_X12_342 (c_X12_callsIn l D cA s0 b ((f_X12_passes μ (f_X12_isShip μ a1)).2) (ok_p1 hok) a1 x3 ) ⟨rfl, rfl, nb rfl, nb rfl⟩ rfl (M_obj hw) rfl hw (nb rfl) ⟨Nat.zero_le _, Nat.zero_le _⟩ dX12_busiestYear_27) ?_
        refine x_aload_n C dX12_busiestYear_30 rfl ?_
        refine x_iload_n C dX12_busiestYear_31 rfl ?_
        refine x_iload_n C dX12_busiestYear_32 rfl ?_
        refine x_goR (fun ls h => x_runV (As := [.int a1, .int x2]) [.int (f_X12_callsIn ((f_X12_passes μ (f_X12_isShip μ a1)).2) a1 x3)] h C ml_X12_342 (c_X12_callsIn l D cA s0 b ((f_X12_passes μ (f_X12_isShip μ a1)).2) (ok_p1 hok) a1 x2 ) ⟨rfl, rfl, nb rfl, nb rfl⟩ rfl (M_obj hw) rfl hw (nb rfl) ⟨Nat.zero_le _, Nat.zero_le _⟩ dX12_busiestYear_33) ?_
        refine x_icmp_le 43 C dX12_busiestYear_36 (by decide) (fun c6 => ?_) (fun c6 => ?_)
        · have hF := hF.trans (if_pos c6)
          refine x_iload_n C dX12_busiestYear_43 rfl ?_
          refine x_istore_n [(2, .int x2), (0, .ref b), (1, .int a1), (3, .int x3)] C dX12_busiestYear_44 rfl (by decide) rfl ?_
          refine x_iinc (x3 + (1 : Int32)) [(3, .int (x3 + (1 : Int32))), (2, .int x2), (0, .ref b), (1, .int a1)] C dX12_busiestYear_45 rfl rfl (by decide) rfl ?_
          refine x_goto 18 C dX12_busiestYear_48 (by decide) ?_
          refine x_sub [(0, .ref b), (1, .int a1), (2, .int x2), (3, .int (x3 + (1 : Int32)))] [2, 3, 1, 0] rfl ?_
          exact ih18 x2 (x3 + (1 : Int32)) (ixin hnf1_18 (by omega) (by decide)) (natS (ixa hnx3 (ixl (x := (1 : Int32)) 1 rfl)) (by omega)).1 (by rw [(natS (ixa hnx3 (ixl (x := (1 : Int32)) 1 rfl)) (by omega)).2]; omega) (by rw [(natS (ixa hnx3 (ixl (x := (1 : Int32)) 1 rfl)) (by omega)).2]; omega) _ _ hw hS hF
        · have hF := hF.trans (if_neg c6)
          refine x_iload_n C dX12_busiestYear_39 rfl ?_
          refine x_goto 44 C dX12_busiestYear_40 (by decide) ?_
          refine x_istore_n [(2, .int x3), (0, .ref b), (1, .int a1), (3, .int x3)] C dX12_busiestYear_44 rfl (by decide) rfl ?_
          refine x_iinc (x3 + (1 : Int32)) [(3, .int (x3 + (1 : Int32))), (2, .int x3), (0, .ref b), (1, .int a1)] C dX12_busiestYear_45 rfl rfl (by decide) rfl ?_
          refine x_goto 18 C dX12_busiestYear_48 (by decide) ?_
          refine x_sub [(0, .ref b), (1, .int a1), (2, .int x3), (3, .int (x3 + (1 : Int32)))] [2, 3, 1, 0] rfl ?_
          exact ih18 x3 (x3 + (1 : Int32)) (ixin hnf1_18 (by omega) (by decide)) (natS (ixa hnx3 (ixl (x := (1 : Int32)) 1 rfl)) (by omega)).1 (by rw [(natS (ixa hnx3 (ixl (x := (1 : Int32)) 1 rfl)) (by omega)).2]; omega) (by rw [(natS (ixa hnx3 (ixl (x := (1 : Int32)) 1 rfl)) (by omega)).2]; omega) _ _ hw hS hF
  refine x_aload_n C dX12_busiestYear_0 rfl ?_
  refine x_aload_n C dX12_busiestYear_1 rfl ?_
  refine x_iload_n C dX12_busiestYear_2 rfl ?_
  refine x_goR (fun ls h => x_runV (As := [.int a1]) [.ref b] h C ml_X12_282 (c_X12_isShip l D cA s0 b μ a1 ) ⟨rfl, rfl, nb rfl, nb rfl⟩ rfl (M_obj hw) rfl hw (nb rfl) ⟨Nat.zero_le _, Nat.zero_le _⟩ dX12_busiestYear_3) ?_
  refine x_goM (fun ls h => x_runV (As := [.int (bI (f_X12_isShip μ a1))]) [] h C ml_X12_62 (c_X12_passes l D cA s0 b μ _ (f_X12_isShip μ a1) ) ⟨rfl, rfl, nb rfl, nb rfl⟩ rfl (M_obj hw) rfl ⟨rfl, hw⟩ (nb rfl) ⟨Nat.zero_le _, Nat.zero_le _⟩ dX12_busiestYear_6) hS (xA_le hS) (fun H locs hw hz hk hS => ?_)
  have hw : RM D cA b ((f_X12_passes μ (f_X12_isShip μ a1)).2) H := hw
  refine x_ifB_ne 14 C dX12_busiestYear_9 (by decide) (fun c1 => ?_) (fun c1 => ?_)
  · have hF := hF.trans (if_pos c1)
    obtain ⟨hn2, hl3⟩ := vpn (isShip_in hok (p1 c1)) (by decide)
    refine x_iconst (0 : Int32) C dX12_busiestYear_14 rfl ?_
    refine x_istore_n [(2, .int (0 : Int32)), (0, .ref b), (1, .int a1)] C dX12_busiestYear_15 rfl (by decide) rfl ?_
    refine x_iconst (1 : Int32) C dX12_busiestYear_16 rfl ?_
    refine x_istore_n [(3, .int (1 : Int32)), (2, .int (0 : Int32)), (0, .ref b), (1, .int a1)] C dX12_busiestYear_17 rfl (by decide) rfl ?_
    refine x_sub [(0, .ref b), (1, .int a1), (2, .int (0 : Int32)), (3, .int (1 : Int32))] [2, 3, 1, 0] rfl ?_
    exact hL18 11 (0 : Int32) (1 : Int32) (ixin hn2 (by omega) (by decide)) (natS (ixl (x := (1 : Int32)) 1 rfl) (by omega)).1 (by rw [(natS (ixl (x := (1 : Int32)) 1 rfl) (by omega)).2]; omega) (by rw [(natS (ixl (x := (1 : Int32)) 1 rfl) (by omega)).2]; omega) _ _ hw hS hF
  · have hF := hF.trans (if_neg (nbt c1))
    refine x_iconst (0 : Int32) C dX12_busiestYear_12 rfl ?_
    exact x_iretM C rfl dX12_busiestYear_13 (e_i (congrArg Prod.fst hF)) (by rw [hF]; exact hw) hS
