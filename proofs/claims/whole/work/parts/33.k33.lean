noncomputable def g_X5_callsLeft_L4 (ν : Mm) (o : Nat) (a1 : Int32) : Nat → Int32 → Int32 → Option (Int32)
  | 0, _, _ => none
  | n + 1, x2, x3 => (if (ν.1 o 6) ≤ x3 then some x2 else asr (vp_in x3 40) ((if (ν.1 (o + (22 + (cl x3))) 0) = a1 then (if (ν.1 (o + (22 + (cl x3))) 4) = 0 then (g_X5_callsLeft_L4 ν o a1 n (x2 + (1 : Int32)) (x3 + (1 : Int32))) else (g_X5_callsLeft_L4 ν o a1 n x2 (x3 + (1 : Int32)))) else (g_X5_callsLeft_L4 ν o a1 n x2 (x3 + (1 : Int32))))))
noncomputable def g_X5_callsLeft (ν : Mm) (o : Nat) (a1 : Int32) : Option (Int32) := asr (isLed o) ((g_X5_callsLeft_L4 ν o a1 10000 (0 : Int32) (0 : Int32)))
set_option maxRecDepth 20000 in
set_option maxHeartbeats 4000000 in
theorem k_X5_callsLeft (l : Launch) (D : va_G) (cA : Nat → ClassId) (s0 : State) (z : Nat) (b : Nat) (ν : Mm) (hG : xG l D cA s0) (o : Nat) (a1 : Int32) (r : Int32) (hF : g_X5_callsLeft ν o a1 = some r) : Met l yX5_callsLeft (wsG yX5_callsLeft cX5_callsLeft 4 (some (FieldType.int))) { frames := 0, cells := 0, slots := 0, locals := 0 } (xP D cA s0 [.ref (b + o), .int a1] (WC D cA s0 z b ν)) (xQr (some (.int r))) 0 0 xN := by
  refine x_start (own := RX5) [(0, .ref (b + o)), (1, .int a1)] rfl rfl (by decide) (nb rfl) ?_
  intro p e s m args below meth c C hw
  obtain ⟨hpo, hF⟩ := asr_e hF
  have h_L4 : ∀ (n : Nat) (x2 : Int32) (x3 : Int32), g_X5_callsLeft_L4 ν o a1 n x2 x3 = some r → xW p l e { frames := 0, cells := 0, slots := 0, locals := 0 } s m args below meth c 4 (MQ below (xQr (some (.int r))) args s 0 0 xN) s.heap [] 0 0 4 [(0, .ref (b + o)), (1, .int a1), (2, .int x2), (3, .int x3)] [] := by
    intro n
    induction n with
    | zero =>
      intro x2 x3 hF
      exact no_some hF
    | succ n ih =>
      intro x2 x3 hF
      have ih4 := ih
      refine x_iload_n C dX5_callsLeft_4 rfl ?_
      refine x_aload_n C dX5_callsLeft_5 rfl ?_
      refine x_get (.int (ν.1 o 6)) C fl_X5_50 (C_Led hpo hw) rfl dX5_callsLeft_6 ?_
      refine x_icmp_ge 46 C dX5_callsLeft_9 (by decide) (fun c1 => ?_) (fun c1 => ?_)
      · have hF := ite_t hF c1
        refine x_iload_n C dX5_callsLeft_46 rfl ?_
        exact x_iretR C rfl dX5_callsLeft_47  (r_i hF)
      · have hF := ite_f hF c1
        refine x_aload_n C dX5_callsLeft_12 rfl ?_
        refine x_get (.ref (b + (o + 2))) C fl_X5_19 (C_Led hpo hw) rfl dX5_callsLeft_13 ?_
        refine x_iload_n C dX5_callsLeft_16 rfl ?_
        obtain ⟨h2, hF⟩ := asr_e hF
        obtain ⟨hn3, hl4⟩ := vpn h2 (by decide)
        refine x_aald 4 C (C_calls hpo hw) rfl hn3 hl4 (by decide) rfl dX5_callsLeft_17 ?_
        refine x_get (.int (ν.1 (o + (22 + (cl x3))) 0)) C fl_X5_99 (C_Cal (mk_Cal hpo hl4) hw) rfl dX5_callsLeft_18 ?_
        refine x_iload_n C dX5_callsLeft_21 rfl ?_
        refine x_icmp_ne 40 C dX5_callsLeft_22 (by decide) (fun c5 => ?_) (fun c5 => ?_)
        · have hF := ite_f hF c5
          refine x_iinc (x3 + (1 : Int32)) [(3, .int (x3 + (1 : Int32))), (0, .ref (b + o)), (1, .int a1), (2, .int x2)] C dX5_callsLeft_40 rfl rfl (by decide) rfl ?_
          refine x_goto 4 C dX5_callsLeft_43 (by decide) ?_
          refine x_sub [(0, .ref (b + o)), (1, .int a1), (2, .int x2), (3, .int (x3 + (1 : Int32)))] [1, 2, 3, 0] rfl ?_
          exact ih4 x2 (x3 + (1 : Int32)) hF
        · have hF := ite_t hF c5
          refine x_aload_n C dX5_callsLeft_25 rfl ?_
          refine x_get (.ref (b + (o + 2))) C fl_X5_19 (C_Led hpo hw) rfl dX5_callsLeft_26 ?_
          refine x_iload_n C dX5_callsLeft_29 rfl ?_
          refine x_aald 4 C (C_calls hpo hw) rfl hn3 hl4 (by decide) rfl dX5_callsLeft_30 ?_
          refine x_get (.int (ν.1 (o + (22 + (cl x3))) 4)) C fl_X5_111 (C_Cal (mk_Cal hpo hl4) hw) rfl dX5_callsLeft_31 ?_
          refine x_if_ne 40 C dX5_callsLeft_34 (by decide) (fun c6 => ?_) (fun c6 => ?_)
          · have hF := ite_f hF c6
            refine x_iinc (x3 + (1 : Int32)) [(3, .int (x3 + (1 : Int32))), (0, .ref (b + o)), (1, .int a1), (2, .int x2)] C dX5_callsLeft_40 rfl rfl (by decide) rfl ?_
            refine x_goto 4 C dX5_callsLeft_43 (by decide) ?_
            refine x_sub [(0, .ref (b + o)), (1, .int a1), (2, .int x2), (3, .int (x3 + (1 : Int32)))] [1, 2, 3, 0] rfl ?_
            exact ih4 x2 (x3 + (1 : Int32)) hF
          · have hF := ite_t hF c6
            refine x_iinc (x2 + (1 : Int32)) [(2, .int (x2 + (1 : Int32))), (0, .ref (b + o)), (1, .int a1), (3, .int x3)] C dX5_callsLeft_37 rfl rfl (by decide) rfl ?_
            refine x_iinc (x3 + (1 : Int32)) [(3, .int (x3 + (1 : Int32))), (2, .int (x2 + (1 : Int32))), (0, .ref (b + o)), (1, .int a1)] C dX5_callsLeft_40 rfl rfl (by decide) rfl ?_
            refine x_goto 4 C dX5_callsLeft_43 (by decide) ?_
            refine x_sub [(0, .ref (b + o)), (1, .int a1), (2, .int (x2 + (1 : Int32))), (3, .int (x3 + (1 : Int32)))] [2, 3, 1, 0] rfl ?_
            exact ih4 (x2 + (1 : Int32)) (x3 + (1 : Int32)) hF
  refine x_iconst (0 : Int32) C dX5_callsLeft_0 rfl ?_
  refine x_istore_n [(2, .int (0 : Int32)), (0, .ref (b + o)), (1, .int a1)] C dX5_callsLeft_1 rfl (by decide) rfl ?_
  refine x_iconst (0 : Int32) C dX5_callsLeft_2 rfl ?_
  refine x_istore_n [(3, .int (0 : Int32)), (2, .int (0 : Int32)), (0, .ref (b + o)), (1, .int a1)] C dX5_callsLeft_3 rfl (by decide) rfl ?_
  refine x_sub [(0, .ref (b + o)), (1, .int a1), (2, .int (0 : Int32)), (3, .int (0 : Int32))] [2, 3, 1, 0] rfl ?_
  exact h_L4 10000 (0 : Int32) (0 : Int32) hF
noncomputable def g_X5_callsInYear (ν : Mm) (o : Nat) (a1 : Int32) (a2 : Int32) : Option (Int32) := asr (isLed o) (bnd (g_X5_callsBefore ν o a1 (((a2 * (360 : Int32)) + (360 : Int32)) - (1 : Int32)) (40 : Int32)) (fun q1 => some q1))
set_option maxRecDepth 20000 in
set_option maxHeartbeats 4000000 in
theorem k_X5_callsInYear (l : Launch) (D : va_G) (cA : Nat → ClassId) (s0 : State) (z : Nat) (b : Nat) (ν : Mm) (hG : xG l D cA s0) (o : Nat) (a1 : Int32) (a2 : Int32) (r : Int32) (hF : g_X5_callsInYear ν o a1 a2 = some r) : Met l yX5_callsInYear (wsG yX5_callsInYear cX5_callsInYear 4 (some (FieldType.int))) { frames := 1, cells := 0, slots := 0, locals := 28 } (xP D cA s0 [.ref (b + o), .int a1, .int a2] (WC D cA s0 z b ν)) (xQr (some (.int r))) 0 0 xN := by
  refine x_start (own := RX5) [(0, .ref (b + o)), (1, .int a1), (2, .int a2)] rfl rfl (by decide) (nb rfl) ?_
  intro p e s m args below meth c C hw
  obtain ⟨hpo, hF⟩ := asr_e hF
  refine x_iload_n C dX5_callsInYear_0 rfl ?_
  refine x_sipush (360 : Int32) C dX5_callsInYear_1 rfl ?_
  refine x_imul C dX5_callsInYear_4 ?_
  refine x_sipush (360 : Int32) C dX5_callsInYear_5 rfl ?_
  refine x_iadd C dX5_callsInYear_8 ?_
  refine x_iconst (1 : Int32) C dX5_callsInYear_9 rfl ?_
  refine x_isub C dX5_callsInYear_10 ?_
  refine x_istore_n [(3, .int (((a2 * (360 : Int32)) + (360 : Int32)) - (1 : Int32))), (0, .ref (b + o)), (1, .int a1), (2, .int a2)] C dX5_callsInYear_11 rfl (by decide) rfl ?_
  refine x_aload_n C dX5_callsInYear_12 rfl ?_
  refine x_iload_n C dX5_callsInYear_13 rfl ?_
  refine x_iload_n C dX5_callsInYear_14 rfl ?_
  refine x_bipush (40 : Int32) C dX5_callsInYear_15 rfl ?_
  obtain ⟨q1, hq2, hF⟩ := bnd_e hF
  refine x_goR (fun ls h => x_runV (As := [.int a1, .int (((a2 * (360 : Int32)) + (360 : Int32)) - (1 : Int32)), .int (40 : Int32)]) [] h C ml_X5_131 (k_X5_callsBefore l D cA s0 z b ν hG o a1 (((a2 * (360 : Int32)) + (360 : Int32)) - (1 : Int32)) (40 : Int32) q1 hq2) ⟨rfl, rfl, nb rfl, nb rfl⟩ rfl (C_Led hpo hw) rfl hw (nb rfl) ⟨Nat.zero_le _, Nat.zero_le _⟩ dX5_callsInYear_17) ?_
  exact x_iretR C rfl dX5_callsInYear_20  (r_i hF)
noncomputable def g_X5_totalAtRank_L5 (ν : Mm) (o : Nat) (a1 : Int32) (a2 : Int32) : Nat → Int32 → Int32 → Option (Int32)
  | 0, _, _ => none
  | n + 1, x3, x4 => (if (4 : Int32) ≤ x4 then some x3 else bnd (g_X5_present ν o) (fun q2 => asr (isTar q2) (bnd (g_X5_lineAtRank ν o q2 a1 x4 a2) (fun q5 => (g_X5_totalAtRank_L5 ν o a1 a2 n (x3 + q5) (x4 + (1 : Int32)))))))
noncomputable def g_X5_totalAtRank (ν : Mm) (o : Nat) (a1 : Int32) (a2 : Int32) : Option (Int32) := asr (isLed o) ((g_X5_totalAtRank_L5 ν o a1 a2 10000 (0 : Int32) (0 : Int32)))
set_option maxRecDepth 20000 in
set_option maxHeartbeats 4000000 in
theorem k_X5_totalAtRank (l : Launch) (D : va_G) (cA : Nat → ClassId) (s0 : State) (z : Nat) (b : Nat) (ν : Mm) (hG : xG l D cA s0) (o : Nat) (a1 : Int32) (a2 : Int32) (r : Int32) (hF : g_X5_totalAtRank ν o a1 a2 = some r) : Met l yX5_totalAtRank (wsG yX5_totalAtRank cX5_totalAtRank 5 (some (FieldType.int))) { frames := 3, cells := 0, slots := 0, locals := 72 } (xP D cA s0 [.ref (b + o), .int a1, .int a2] (WC D cA s0 z b ν)) (xQr (some (.int r))) 0 0 xN := by
  refine x_start (own := RX5) [(0, .ref (b + o)), (1, .int a1), (2, .int a2)] rfl rfl (by decide) (nb rfl) ?_
  intro p e s m args below meth c C hw
  obtain ⟨hpo, hF⟩ := asr_e hF
  have h_L5 : ∀ (n : Nat) (x3 : Int32) (x4 : Int32), g_X5_totalAtRank_L5 ν o a1 a2 n x3 x4 = some r → xW p l e { frames := 3, cells := 0, slots := 0, locals := 72 } s m args below meth c 5 (MQ below (xQr (some (.int r))) args s 0 0 xN) s.heap [] 0 0 5 [(0, .ref (b + o)), (1, .int a1), (2, .int a2), (3, .int x3), (4, .int x4)] [] := by
    intro n
    induction n with
    | zero =>
      intro x3 x4 hF
      exact no_some hF
    | succ n ih =>
      intro x3 x4 hF
      have ih5 := ih
      refine x_iload C dX5_totalAtRank_5 rfl ?_
      refine x_iconst (4 : Int32) C dX5_totalAtRank_7 rfl ?_
      refine x_icmp_ge 32 C dX5_totalAtRank_8 (by decide) (fun c1 => ?_) (fun c1 => ?_)
      · have hF := ite_t hF c1
        refine x_iload_n C dX5_totalAtRank_32 rfl ?_
        exact x_iretR C rfl dX5_totalAtRank_33  (r_i hF)
      · have hF := ite_f hF c1
        refine x_iload_n C dX5_totalAtRank_11 rfl ?_
        refine x_aload_n C dX5_totalAtRank_12 rfl ?_
        refine x_iload_n C dX5_totalAtRank_13 rfl ?_
        refine x_iload C dX5_totalAtRank_14 rfl ?_
        refine x_aload_n C dX5_totalAtRank_16 rfl ?_
        obtain ⟨q2, hq3, hF⟩ := bnd_e hF
        refine x_goR (fun ls h => x_runV (As := []) [.int x4, .int a1, .ref (b + o), .int x3] h C ml_X5_84 (k_X5_present l D cA s0 z b ν hG o q2 hq3) ⟨rfl, rfl, nb rfl, nb rfl⟩ rfl (C_Led hpo hw) rfl hw (nb rfl) ⟨Nat.zero_le _, Nat.zero_le _⟩ dX5_totalAtRank_17) ?_
        obtain ⟨h4, hF⟩ := asr_e hF
        refine x_iload_n C dX5_totalAtRank_20 rfl ?_
        obtain ⟨q5, hq6, hF⟩ := bnd_e hF
        refine x_goR (fun ls h => x_runV (As := [.int a1, .int x4, .ref (b + q2), .int a2]) [.int x3] h C ml_X5_158 (k_X5_lineAtRank l D cA s0 z b ν hG o q2 a1 x4 a2 q5 hq6) ⟨rfl, rfl, nb rfl, nb rfl⟩ rfl (C_Led hpo hw) rfl hw (nb rfl) ⟨Nat.zero_le _, Nat.zero_le _⟩ dX5_totalAtRank_21) ?_
        refine x_iadd C dX5_totalAtRank_24 ?_
        refine x_istore_n [(3, .int (x3 + q5)), (0, .ref (b + o)), (1, .int a1), (2, .int a2), (4, .int x4)] C dX5_totalAtRank_25 rfl (by decide) rfl ?_
        refine x_iinc (x4 + (1 : Int32)) [(4, .int (x4 + (1 : Int32))), (3, .int (x3 + q5)), (0, .ref (b + o)), (1, .int a1), (2, .int a2)] C dX5_totalAtRank_26 rfl rfl (by decide) rfl ?_
        refine x_goto 5 C dX5_totalAtRank_29 (by decide) ?_
        refine x_sub [(0, .ref (b + o)), (1, .int a1), (2, .int a2), (3, .int (x3 + q5)), (4, .int (x4 + (1 : Int32)))] [2, 3, 4, 1, 0] rfl ?_
        exact ih5 (x3 + q5) (x4 + (1 : Int32)) hF
  refine x_iconst (0 : Int32) C dX5_totalAtRank_0 rfl ?_
  refine x_istore_n [(3, .int (0 : Int32)), (0, .ref (b + o)), (1, .int a1), (2, .int a2)] C dX5_totalAtRank_1 rfl (by decide) rfl ?_
  refine x_iconst (0 : Int32) C dX5_totalAtRank_2 rfl ?_
  refine x_istore [(4, .int (0 : Int32)), (3, .int (0 : Int32)), (0, .ref (b + o)), (1, .int a1), (2, .int a2)] C dX5_totalAtRank_3 (by decide) rfl ?_
  refine x_sub [(0, .ref (b + o)), (1, .int a1), (2, .int a2), (3, .int (0 : Int32)), (4, .int (0 : Int32))] [2, 3, 4, 1, 0] rfl ?_
  exact h_L5 10000 (0 : Int32) (0 : Int32) hF
noncomputable def g_X7_kindAt_J50 (ν : Mm) (a1 : Int32) (x2 : Int32) : Option (Int32) := (if x2 = (32 : Int32) then some (0 : Int32) else (if x2 = (10 : Int32) then some (0 : Int32) else some (3 : Int32)))
noncomputable def g_X7_kindAt_J36 (ν : Mm) (a1 : Int32) (x2 : Int32) : Option (Int32) := (if x2 < (48 : Int32) then (g_X7_kindAt_J50 ν a1 x2) else (if (57 : Int32) < x2 then (g_X7_kindAt_J50 ν a1 x2) else some (2 : Int32)))
noncomputable def g_X7_kindAt (ν : Mm) (a1 : Int32) : Option (Int32) := (if a1 < (ν.1 1 2) then bnd (g_X1_byteAt ν 1 a1) (fun q2 => (if q2 < (97 : Int32) then (g_X7_kindAt_J36 ν a1 q2) else (if (122 : Int32) < q2 then (g_X7_kindAt_J36 ν a1 q2) else some (1 : Int32)))) else some (0 : Int32))
set_option maxRecDepth 20000 in
set_option maxHeartbeats 4000000 in
theorem k_X7_kindAt (l : Launch) (D : va_G) (cA : Nat → ClassId) (s0 : State) (z : Nat) (b : Nat) (ν : Mm) (hG : xG l D cA s0) (a1 : Int32) (r : Int32) (hF : g_X7_kindAt ν a1 = some r) : Met l yX7_kindAt (wsG yX7_kindAt cX7_kindAt 3 (some (FieldType.int))) { frames := 1, cells := 0, slots := 0, locals := 21 } (xP D cA s0 [.ref (b + 661), .int a1] (WC D cA s0 z b ν)) (xQr (some (.int r))) 0 0 xN := by
  refine x_start (own := RX7) [(0, .ref (b + 661)), (1, .int a1)] rfl rfl (by decide) (nb rfl) ?_
  intro p e s m args below meth c C hw
  have h_J50 : ∀ (x2 : Int32), g_X7_kindAt_J50 ν a1 x2 = some r → xW p l e { frames := 1, cells := 0, slots := 0, locals := 21 } s m args below meth c 3 (MQ below (xQr (some (.int r))) args s 0 0 xN) s.heap [] 0 0 50 [(2, .int x2)] [] := by
    intro x2 hF
    refine x_iload_n C dX7_kindAt_50 rfl ?_
    refine x_bipush (32 : Int32) C dX7_kindAt_51 rfl ?_
    refine x_icmp_eq 62 C dX7_kindAt_53 (by decide) (fun c6 => ?_) (fun c6 => ?_)
    · have hF := ite_t hF c6
      refine x_iconst (0 : Int32) C dX7_kindAt_62 rfl ?_
      refine x_goto 67 C dX7_kindAt_63 (by decide) ?_
      exact x_iretR C rfl dX7_kindAt_67  (r_i hF)
    · have hF := ite_f hF c6
      refine x_iload_n C dX7_kindAt_56 rfl ?_
      refine x_bipush (10 : Int32) C dX7_kindAt_57 rfl ?_
      refine x_icmp_ne 66 C dX7_kindAt_59 (by decide) (fun c7 => ?_) (fun c7 => ?_)
      · have hF := ite_f hF c7
        refine x_iconst (3 : Int32) C dX7_kindAt_66 rfl ?_
        exact x_iretR C rfl dX7_kindAt_67  (r_i hF)
      · have hF := ite_t hF c7
        refine x_iconst (0 : Int32) C dX7_kindAt_62 rfl ?_
        refine x_goto 67 C dX7_kindAt_63 (by decide) ?_
        exact x_iretR C rfl dX7_kindAt_67  (r_i hF)
  have h_J36 : ∀ (x2 : Int32), g_X7_kindAt_J36 ν a1 x2 = some r → xW p l e { frames := 1, cells := 0, slots := 0, locals := 21 } s m args below meth c 3 (MQ below (xQr (some (.int r))) args s 0 0 xN) s.heap [] 0 0 36 [(2, .int x2)] [] := by
    intro x2 hF
    refine x_iload_n C dX7_kindAt_36 rfl ?_
    refine x_bipush (48 : Int32) C dX7_kindAt_37 rfl ?_
    refine x_icmp_lt 50 C dX7_kindAt_39 (by decide) (fun c5 => ?_) (fun c5 => ?_)
    · have hF := ite_t hF c5
      exact h_J50 x2 hF
    · have hF := ite_f hF c5
      refine x_iload_n C dX7_kindAt_42 rfl ?_
      refine x_bipush (57 : Int32) C dX7_kindAt_43 rfl ?_
      refine x_icmp_gt 50 C dX7_kindAt_45 (by decide) (fun c8 => ?_) (fun c8 => ?_)
      · have hF := ite_t hF c8
        exact h_J50 x2 hF
      · have hF := ite_f hF c8
        refine x_iconst (2 : Int32) C dX7_kindAt_48 rfl ?_
        exact x_iretR C rfl dX7_kindAt_49  (r_i hF)
  refine x_iload_n C dX7_kindAt_0 rfl ?_
  refine x_aload_n C dX7_kindAt_1 rfl ?_
  refine x_get (.ref (b + 1)) C fl_X7_15 (C_Par hw) rfl dX7_kindAt_2 ?_
  refine x_get (.int (ν.1 1 2)) C fl_X7_212 (C_Byt byt1 hw) rfl dX7_kindAt_5 ?_
  refine x_icmp_lt 13 C dX7_kindAt_8 (by decide) (fun c1 => ?_) (fun c1 => ?_)
  · have hF := ite_t hF c1
    refine x_aload_n C dX7_kindAt_13 rfl ?_
    refine x_get (.ref (b + 1)) C fl_X7_15 (C_Par hw) rfl dX7_kindAt_14 ?_
    refine x_iload_n C dX7_kindAt_17 rfl ?_
    obtain ⟨q2, hq3, hF⟩ := bnd_e hF
    refine x_goR (fun ls h => x_runV (As := [.int a1]) [] h C ml_X7_195 (k_X1_byteAt l D cA s0 z b ν hG 1 a1 q2 hq3) ⟨rfl, rfl, nb rfl, nb rfl⟩ rfl (C_Byt byt1 hw) rfl hw (nb rfl) ⟨Nat.zero_le _, Nat.zero_le _⟩ dX7_kindAt_18) ?_
    refine x_istore_n [(2, .int q2), (0, .ref (b + 661)), (1, .int a1)] C dX7_kindAt_21 rfl (by decide) rfl ?_
    refine x_iload_n C dX7_kindAt_22 rfl ?_
    refine x_bipush (97 : Int32) C dX7_kindAt_23 rfl ?_
    refine x_icmp_lt 36 C dX7_kindAt_25 (by decide) (fun c4 => ?_) (fun c4 => ?_)
    · have hF := ite_t hF c4
      refine x_sub [(2, .int q2)] [0] rfl ?_
      exact h_J36 q2 hF
    · have hF := ite_f hF c4
      refine x_iload_n C dX7_kindAt_28 rfl ?_
      refine x_bipush (122 : Int32) C dX7_kindAt_29 rfl ?_
      refine x_icmp_gt 36 C dX7_kindAt_31 (by decide) (fun c9 => ?_) (fun c9 => ?_)
      · have hF := ite_t hF c9
        refine x_sub [(2, .int q2)] [0] rfl ?_
        exact h_J36 q2 hF
      · have hF := ite_f hF c9
        refine x_iconst (1 : Int32) C dX7_kindAt_34 rfl ?_
        exact x_iretR C rfl dX7_kindAt_35  (r_i hF)
  · have hF := ite_f hF c1
    refine x_iconst (0 : Int32) C dX7_kindAt_11 rfl ?_
    exact x_iretR C rfl dX7_kindAt_12  (r_i hF)
noncomputable def g_X7_readToken_L94 (ν : Mm) : Nat → Mm → Option (Mm)
  | 0, _ => none
  | n + 1, μ0 => (if (μ0.1 1 2) ≤ (μ0.1 661 4) then some μ0 else bnd (g_X7_kindAt μ0 (μ0.1 661 4)) (fun q12 => (if q12 = (μ0.1 661 2) then bnd (some (uI μ0 661 4 ((μ0.1 661 4) + (1 : Int32)))) (fun μ15 => (g_X7_readToken_L94 ν n μ15)) else some μ0)))
noncomputable def g_X7_readToken_J46 (ν : Mm) (μ0 : Mm) : Option (Mm) := bnd (g_X7_kindAt μ0 (μ0.1 661 3)) (fun q4 => bnd (some (uI μ0 661 2 q4)) (fun μ6 => bnd (some (uI μ6 661 4 (imin ((μ6.1 661 3) + (1 : Int32)) (μ6.1 1 2)))) (fun μ8 => (if (μ8.1 661 2) = (1 : Int32) then (g_X7_readToken_L94 ν 10000 μ8) else (if (μ8.1 661 2) = (2 : Int32) then (g_X7_readToken_L94 ν 10000 μ8) else some μ8)))))
noncomputable def g_X7_readToken_L8 (ν : Mm) : Nat → Mm → Option (Mm)
  | 0, _ => none
  | n + 1, μ0 => (if (μ0.1 1 2) ≤ (μ0.1 661 3) then (g_X7_readToken_J46 ν μ0) else bnd (g_X7_kindAt μ0 (μ0.1 661 3)) (fun q18 => (if q18 = 0 then bnd (some (uI μ0 661 3 ((μ0.1 661 3) + (1 : Int32)))) (fun μ21 => (g_X7_readToken_L8 ν n μ21)) else (g_X7_readToken_J46 ν μ0))))
noncomputable def g_X7_readToken (ν : Mm) : Option (Mm) := bnd (some (uI ν 661 3 (ν.1 661 4))) (fun μ1 => (g_X7_readToken_L8 ν 10000 μ1))
set_option maxRecDepth 20000 in
set_option maxHeartbeats 4000000 in
theorem k_X7_readToken (l : Launch) (D : va_G) (cA : Nat → ClassId) (s0 : State) (z : Nat) (b : Nat) (ν : Mm) (sz : Nat) (hG : xG l D cA s0) (r : Mm) (hF : g_X7_readToken ν = some r) : Met l yX7_readToken (wsG yX7_readToken cX7_readToken 1 none) { frames := 2, cells := 0, slots := 0, locals := 43 } (xP D cA s0 [.ref (b + 661)] (fun H => H.size = sz ∧ WC D cA s0 z b ν H)) (xQm none (fun H => WC D cA s0 z b r H) (xA b 2628 sz)) 0 0 (xA b 2628 sz) := by
  refine x_start (own := RX7) [(0, .ref (b + 661))] rfl rfl (by decide) (nb rfl) ?_
  intro p e s m args below meth c C hw
  obtain ⟨hsz, hw⟩ := hw
  subst hsz
  have hS : va_S (xA b 2628 s.heap.size) s.heap s.heap [] := va_S.rf
  have h_L94 : ∀ (n : Nat) (μ0 : Mm) (H : Heap) (locs : List Loc) (hw : WC D cA s0 z b μ0 H) (hS : va_S (xA b 2628 s.heap.size) s.heap H locs), g_X7_readToken_L94 ν n μ0 = some r → xW p l e { frames := 2, cells := 0, slots := 0, locals := 43 } s m args below meth c 1 (MQ below (xQm none (fun H => WC D cA s0 z b r H) (xA b 2628 s.heap.size)) args s 0 0 (xA b 2628 s.heap.size)) H locs 0 0 94 [(0, .ref (b + 661))] [] := by
    intro n
    induction n with
    | zero =>
      intro μ0 H locs hw hS hF
      exact no_some hF
    | succ n ih =>
      intro μ0 H locs hw hS hF
      have ih94 := ih
      refine x_aload_n C dX7_readToken_94 rfl ?_
      refine x_get (.int (μ0.1 661 4)) C fl_X7_41 (C_Par hw) rfl dX7_readToken_95 ?_
      refine x_aload_n C dX7_readToken_98 rfl ?_
      refine x_get (.ref (b + 1)) C fl_X7_15 (C_Par hw) rfl dX7_readToken_99 ?_
      refine x_get (.int (μ0.1 1 2)) C fl_X7_212 (C_Byt byt1 hw) rfl dX7_readToken_102 ?_
      refine x_icmp_ge 136 C dX7_readToken_105 (by decide) (fun c11 => ?_) (fun c11 => ?_)
      · have hF := ite_t hF c11
        exact x_vretM2 C rfl dX7_readToken_136 rfl (rv_m (W := fun m => WC D cA s0 z b m _) hF hw) hS (nb rfl) (nb rfl)
      · have hF := ite_f hF c11
        refine x_aload_n C dX7_readToken_108 rfl ?_
        refine x_aload_n C dX7_readToken_109 rfl ?_
        refine x_get (.int (μ0.1 661 4)) C fl_X7_41 (C_Par hw) rfl dX7_readToken_110 ?_
        obtain ⟨q12, hq13, hF⟩ := bnd_e hF
        refine x_goR (fun ls h => x_runV (As := [.int (μ0.1 661 4)]) [] h C ml_X7_215 (k_X7_kindAt l D cA s0 z b μ0 hG (μ0.1 661 4) q12 hq13) ⟨rfl, rfl, nb rfl, nb rfl⟩ rfl (C_Par hw) rfl hw (nb rfl) ⟨Nat.zero_le _, Nat.zero_le _⟩ dX7_readToken_113) ?_
        refine x_aload_n C dX7_readToken_116 rfl ?_
        refine x_get (.int (μ0.1 661 2)) C fl_X7_47 (C_Par hw) rfl dX7_readToken_117 ?_
        refine x_icmp_ne 136 C dX7_readToken_120 (by decide) (fun c14 => ?_) (fun c14 => ?_)
        · have hF := ite_f hF c14
          exact x_vretM2 C rfl dX7_readToken_136 rfl (rv_m (W := fun m => WC D cA s0 z b m _) hF hw) hS (nb rfl) (nb rfl)
        · have hF := ite_t hF c14
          refine x_aload_n C dX7_readToken_123 rfl ?_
          refine x_dup C dX7_readToken_124 rfl ?_
          refine x_get (.int (μ0.1 661 4)) C fl_X7_41 (C_Par hw) rfl dX7_readToken_125 ?_
          refine x_iconst (1 : Int32) C dX7_readToken_128 rfl ?_
          refine x_iadd C dX7_readToken_129 ?_
          refine y_putI (kk0 := 4) 661 C fl_X7_41 hw (by decide) (fun nm => S_Par) (fun nm => S_Par) rfl rfl (fun _ => nb rfl) dX7_readToken_130 hS (xA_in (by decide)) (fun H locs hw hS => ?_)
          obtain ⟨μ15, hm16, hF⟩ := bnd_e hF
          have hw : WC D cA s0 z b μ15 H := rv_m (W := fun m => WC D cA s0 z b m _) hm16 hw
          refine x_goto 94 C dX7_readToken_133 (by decide) ?_
          exact ih94 μ15 _ _ hw hS hF
  have h_J46 : ∀ (μ0 : Mm) (H : Heap) (locs : List Loc) (hw : WC D cA s0 z b μ0 H) (hS : va_S (xA b 2628 s.heap.size) s.heap H locs), g_X7_readToken_J46 ν μ0 = some r → xW p l e { frames := 2, cells := 0, slots := 0, locals := 43 } s m args below meth c 1 (MQ below (xQm none (fun H => WC D cA s0 z b r H) (xA b 2628 s.heap.size)) args s 0 0 (xA b 2628 s.heap.size)) H locs 0 0 46 [(0, .ref (b + 661))] [] := by
    intro μ0 H locs hw hS hF
    refine x_aload_n C dX7_readToken_46 rfl ?_
    refine x_aload_n C dX7_readToken_47 rfl ?_
    refine x_aload_n C dX7_readToken_48 rfl ?_
    refine x_get (.int (μ0.1 661 3)) C fl_X7_173 (C_Par hw) rfl dX7_readToken_49 ?_
    obtain ⟨q4, hq5, hF⟩ := bnd_e hF
    refine x_goR (fun ls h => x_runV (As := [.int (μ0.1 661 3)]) [.ref (b + 661)] h C ml_X7_215 (k_X7_kindAt l D cA s0 z b μ0 hG (μ0.1 661 3) q4 hq5) ⟨rfl, rfl, nb rfl, nb rfl⟩ rfl (C_Par hw) rfl hw (nb rfl) ⟨Nat.zero_le _, Nat.zero_le _⟩ dX7_readToken_52) ?_
    refine y_putI (kk0 := 2) 661 C fl_X7_47 hw (by decide) (fun nm => S_Par) (fun nm => S_Par) rfl rfl (fun _ => nb rfl) dX7_readToken_55 hS (xA_in (by decide)) (fun H locs hw hS => ?_)
    obtain ⟨μ6, hm7, hF⟩ := bnd_e hF
    have hw : WC D cA s0 z b μ6 H := rv_m (W := fun m => WC D cA s0 z b m _) hm7 hw
    refine x_aload_n C dX7_readToken_58 rfl ?_
    refine x_aload_n C dX7_readToken_59 rfl ?_
    refine x_get (.int (μ6.1 661 3)) C fl_X7_173 (C_Par hw) rfl dX7_readToken_60 ?_
    refine x_iconst (1 : Int32) C dX7_readToken_63 rfl ?_
    refine x_iadd C dX7_readToken_64 ?_
    refine x_aload_n C dX7_readToken_65 rfl ?_
    refine x_get (.ref (b + 1)) C fl_X7_15 (C_Par hw) rfl dX7_readToken_66 ?_
    refine x_get (.int (μ6.1 1 2)) C fl_X7_212 (C_Byt byt1 hw) rfl dX7_readToken_69 ?_
    refine x_mmin C ml_X7_202 (nb rfl) (nb rfl) ⟨Nat.zero_le _, Nat.zero_le _⟩ dX7_readToken_72 ?_
    refine y_putI (kk0 := 4) 661 C fl_X7_41 hw (by decide) (fun nm => S_Par) (fun nm => S_Par) rfl rfl (fun _ => nb rfl) dX7_readToken_75 hS (xA_in (by decide)) (fun H locs hw hS => ?_)
    obtain ⟨μ8, hm9, hF⟩ := bnd_e hF
    have hw : WC D cA s0 z b μ8 H := rv_m (W := fun m => WC D cA s0 z b m _) hm9 hw
    refine x_aload_n C dX7_readToken_78 rfl ?_
    refine x_get (.int (μ8.1 661 2)) C fl_X7_47 (C_Par hw) rfl dX7_readToken_79 ?_
    refine x_iconst (1 : Int32) C dX7_readToken_82 rfl ?_
    refine x_icmp_eq 94 C dX7_readToken_83 (by decide) (fun c10 => ?_) (fun c10 => ?_)
    · have hF := ite_t hF c10
      exact h_L94 10000 μ8 _ _ hw hS hF
    · have hF := ite_f hF c10
      refine x_aload_n C dX7_readToken_86 rfl ?_
      refine x_get (.int (μ8.1 661 2)) C fl_X7_47 (C_Par hw) rfl dX7_readToken_87 ?_
      refine x_iconst (2 : Int32) C dX7_readToken_90 rfl ?_
      refine x_icmp_ne 136 C dX7_readToken_91 (by decide) (fun c17 => ?_) (fun c17 => ?_)
      · have hF := ite_f hF c17
        exact x_vretM2 C rfl dX7_readToken_136 rfl (rv_m (W := fun m => WC D cA s0 z b m _) hF hw) hS (nb rfl) (nb rfl)
      · have hF := ite_t hF c17
        exact h_L94 10000 μ8 _ _ hw hS hF
  have h_L8 : ∀ (n : Nat) (μ0 : Mm) (H : Heap) (locs : List Loc) (hw : WC D cA s0 z b μ0 H) (hS : va_S (xA b 2628 s.heap.size) s.heap H locs), g_X7_readToken_L8 ν n μ0 = some r → xW p l e { frames := 2, cells := 0, slots := 0, locals := 43 } s m args below meth c 1 (MQ below (xQm none (fun H => WC D cA s0 z b r H) (xA b 2628 s.heap.size)) args s 0 0 (xA b 2628 s.heap.size)) H locs 0 0 8 [(0, .ref (b + 661))] [] := by
    intro n
    induction n with
    | zero =>
      intro μ0 H locs hw hS hF
      exact no_some hF
    | succ n ih =>
      intro μ0 H locs hw hS hF
      have ih8 := ih
      refine x_aload_n C dX7_readToken_8 rfl ?_
      refine x_get (.int (μ0.1 661 3)) C fl_X7_173 (C_Par hw) rfl dX7_readToken_9 ?_
      refine x_aload_n C dX7_readToken_12 rfl ?_
      refine x_get (.ref (b + 1)) C fl_X7_15 (C_Par hw) rfl dX7_readToken_13 ?_
      refine x_get (.int (μ0.1 1 2)) C fl_X7_212 (C_Byt byt1 hw) rfl dX7_readToken_16 ?_
      refine x_icmp_ge 46 C dX7_readToken_19 (by decide) (fun c3 => ?_) (fun c3 => ?_)
      · have hF := ite_t hF c3
        exact h_J46 μ0 _ _ hw hS hF
      · have hF := ite_f hF c3
        refine x_aload_n C dX7_readToken_22 rfl ?_
        refine x_aload_n C dX7_readToken_23 rfl ?_
        refine x_get (.int (μ0.1 661 3)) C fl_X7_173 (C_Par hw) rfl dX7_readToken_24 ?_
        obtain ⟨q18, hq19, hF⟩ := bnd_e hF
        refine x_goR (fun ls h => x_runV (As := [.int (μ0.1 661 3)]) [] h C ml_X7_215 (k_X7_kindAt l D cA s0 z b μ0 hG (μ0.1 661 3) q18 hq19) ⟨rfl, rfl, nb rfl, nb rfl⟩ rfl (C_Par hw) rfl hw (nb rfl) ⟨Nat.zero_le _, Nat.zero_le _⟩ dX7_readToken_27) ?_
        refine x_if_ne 46 C dX7_readToken_30 (by decide) (fun c20 => ?_) (fun c20 => ?_)
        · have hF := ite_f hF c20
          exact h_J46 μ0 _ _ hw hS hF
        · have hF := ite_t hF c20
          refine x_aload_n C dX7_readToken_33 rfl ?_
          refine x_dup C dX7_readToken_34 rfl ?_
          refine x_get (.int (μ0.1 661 3)) C fl_X7_173 (C_Par hw) rfl dX7_readToken_35 ?_
          refine x_iconst (1 : Int32) C dX7_readToken_38 rfl ?_
          refine x_iadd C dX7_readToken_39 ?_
          refine y_putI (kk0 := 3) 661 C fl_X7_173 hw (by decide) (fun nm => S_Par) (fun nm => S_Par) rfl rfl (fun _ => nb rfl) dX7_readToken_40 hS (xA_in (by decide)) (fun H locs hw hS => ?_)
          obtain ⟨μ21, hm22, hF⟩ := bnd_e hF
          have hw : WC D cA s0 z b μ21 H := rv_m (W := fun m => WC D cA s0 z b m _) hm22 hw
          refine x_goto 8 C dX7_readToken_43 (by decide) ?_
          exact ih8 μ21 _ _ hw hS hF
  refine x_aload_n C dX7_readToken_0 rfl ?_
  refine x_aload_n C dX7_readToken_1 rfl ?_
  refine x_get (.int (ν.1 661 4)) C fl_X7_41 (C_Par hw) rfl dX7_readToken_2 ?_
  refine y_putI (kk0 := 3) 661 C fl_X7_173 hw (by decide) (fun nm => S_Par) (fun nm => S_Par) rfl rfl (fun _ => nb rfl) dX7_readToken_5 hS (xA_in (by decide)) (fun H locs hw hS => ?_)
  obtain ⟨μ1, hm2, hF⟩ := bnd_e hF
  have hw : WC D cA s0 z b μ1 H := rv_m (W := fun m => WC D cA s0 z b m _) hm2 hw
  exact h_L8 10000 μ1 _ _ hw hS hF
noncomputable def g_X7_fail (ν : Mm) (a1 : Int32) : Option (Bool × Mm) := bnd (some (uI ν 661 9 a1)) (fun μ1 => bnd (some (uI μ1 661 10 (μ1.1 661 3))) (fun μ3 => some (false, μ3)))
set_option maxRecDepth 20000 in
set_option maxHeartbeats 4000000 in
theorem k_X7_fail (l : Launch) (D : va_G) (cA : Nat → ClassId) (s0 : State) (z : Nat) (b : Nat) (ν : Mm) (sz : Nat) (hG : xG l D cA s0) (a1 : Int32) (r : Bool × Mm) (hF : g_X7_fail ν a1 = some r) : Met l yX7_fail (wsG yX7_fail cX7_fail 2 (some (FieldType.boolean))) { frames := 0, cells := 0, slots := 0, locals := 0 } (xP D cA s0 [.ref (b + 661), .int a1] (fun H => H.size = sz ∧ WC D cA s0 z b ν H)) (xQm (some (.int (bI r.1))) (fun H => WC D cA s0 z b r.2 H) (xA b 2628 sz)) 0 0 (xA b 2628 sz) := by
  refine x_start (own := RX7) [(0, .ref (b + 661)), (1, .int a1)] rfl rfl (by decide) (nb rfl) ?_
  intro p e s m args below meth c C hw
  obtain ⟨hsz, hw⟩ := hw
  subst hsz
  have hS : va_S (xA b 2628 s.heap.size) s.heap s.heap [] := va_S.rf
  refine x_aload_n C dX7_fail_0 rfl ?_
  refine x_iload_n C dX7_fail_1 rfl ?_
  refine y_putI (kk0 := 9) 661 C fl_X7_38 hw (by decide) (fun nm => S_Par) (fun nm => S_Par) rfl rfl (fun _ => nb rfl) dX7_fail_2 hS (xA_in (by decide)) (fun H locs hw hS => ?_)
  obtain ⟨μ1, hm2, hF⟩ := bnd_e hF
  have hw : WC D cA s0 z b μ1 H := rv_m (W := fun m => WC D cA s0 z b m _) hm2 hw
  refine x_aload_n C dX7_fail_5 rfl ?_
  refine x_aload_n C dX7_fail_6 rfl ?_
  refine x_get (.int (μ1.1 661 3)) C fl_X7_173 (C_Par hw) rfl dX7_fail_7 ?_
  refine y_putI (kk0 := 10) 661 C fl_X7_9 hw (by decide) (fun nm => S_Par) (fun nm => S_Par) rfl rfl (fun _ => nb rfl) dX7_fail_10 hS (xA_in (by decide)) (fun H locs hw hS => ?_)
  obtain ⟨μ3, hm4, hF⟩ := bnd_e hF
  have hw : WC D cA s0 z b μ3 H := rv_m (W := fun m => WC D cA s0 z b m _) hm4 hw
  refine x_iconst (0 : Int32) C dX7_fail_13 rfl ?_
  exact x_zretM2 C rfl dX7_fail_14 rfl (rm_b0 hF) (rm_m (W := fun m => WC D cA s0 z b m _) hF hw) hS (nb rfl) (nb rfl)
noncomputable def g_X7_tokenIs (ν : Mm) (a1 : Nat) : Option (Bool) := (if (ν.1 661 2) = (1 : Int32) then bnd (g_X1_isAt ν 1 (ν.1 661 3) (ν.1 661 4) a1) (fun q2 => (if q2 = true then some true else some false)) else some false)
set_option maxRecDepth 20000 in
set_option maxHeartbeats 4000000 in
theorem k_X7_tokenIs (l : Launch) (D : va_G) (cA : Nat → ClassId) (s0 : State) (z : Nat) (b : Nat) (ν : Mm) (hG : xG l D cA s0) (a1r : Nat) (a1 : Nat) (r : Bool) (hF : g_X7_tokenIs ν a1 = some r) : Met l yX7_tokenIs (wsG yX7_tokenIs cX7_tokenIs 2 (some (FieldType.boolean))) { frames := 5, cells := 0, slots := 0, locals := 109 } (xP D cA s0 [.ref (b + 661), .ref a1r] (fun H => WC D cA s0 z b ν H ∧ Str D cA s0 z a1r a1 H)) (xQr (some (.int (bI r)))) 0 0 xN := by
  refine x_start (own := RX7) [(0, .ref (b + 661)), (1, .ref a1r)] rfl rfl (by decide) (nb rfl) ?_
  intro p e s m args below meth c C hw
  obtain ⟨hw, hst0_a1⟩ := hw
  refine x_aload_n C dX7_tokenIs_0 rfl ?_
  refine x_get (.int (ν.1 661 2)) C fl_X7_47 (C_Par hw) rfl dX7_tokenIs_1 ?_
  refine x_iconst (1 : Int32) C dX7_tokenIs_4 rfl ?_
  refine x_icmp_ne 31 C dX7_tokenIs_5 (by decide) (fun c1 => ?_) (fun c1 => ?_)
  · have hF := ite_f hF c1
    refine x_iconst (0 : Int32) C dX7_tokenIs_31 rfl ?_
    exact x_zretR C rfl dX7_tokenIs_32 rfl (r_b0 hF)
  · have hF := ite_t hF c1
    refine x_aload_n C dX7_tokenIs_8 rfl ?_
    refine x_get (.ref (b + 1)) C fl_X7_15 (C_Par hw) rfl dX7_tokenIs_9 ?_
    refine x_aload_n C dX7_tokenIs_12 rfl ?_
    refine x_get (.int (ν.1 661 3)) C fl_X7_173 (C_Par hw) rfl dX7_tokenIs_13 ?_
    refine x_aload_n C dX7_tokenIs_16 rfl ?_
    refine x_get (.int (ν.1 661 4)) C fl_X7_41 (C_Par hw) rfl dX7_tokenIs_17 ?_
    refine x_aload_n C dX7_tokenIs_20 rfl ?_
    obtain ⟨q2, hq3, hF⟩ := bnd_e hF
    refine x_goR (fun ls h => x_runV (As := [.int (ν.1 661 3), .int (ν.1 661 4), .ref a1r]) [] h C ml_X7_208 (k_X1_isAt l D cA s0 z b ν hG a1r 1 (ν.1 661 3) (ν.1 661 4) a1 q2 hq3) ⟨rfl, rfl, nb rfl, nb rfl⟩ rfl (C_Byt byt1 hw) rfl ⟨hw, hst0_a1⟩ (nb rfl) ⟨Nat.zero_le _, Nat.zero_le _⟩ dX7_tokenIs_21) ?_
    refine x_ifB_eq 31 C dX7_tokenIs_24 (by decide) (fun c4 => ?_) (fun c4 => ?_)
    · have hF := ite_f hF (nbt c4)
      refine x_iconst (0 : Int32) C dX7_tokenIs_31 rfl ?_
      exact x_zretR C rfl dX7_tokenIs_32 rfl (r_b0 hF)
    · have hF := ite_t hF c4
      refine x_iconst (1 : Int32) C dX7_tokenIs_27 rfl ?_
      refine x_goto 32 C dX7_tokenIs_28 (by decide) ?_
      exact x_zretR C rfl dX7_tokenIs_32 rfl (r_b1 hF)
noncomputable def g_X7_modeStatement (ν : Mm) (a1 : Bool) : Option (Bool × Mm) := (if (ν.1 661 6) = 0 then bnd (some (uI ν 661 6 (1 : Int32))) (fun μ2 => bnd (g_X5_present μ2 334) (fun q4 => asr (isTar q4) (bnd (some (uI μ2 q4 6 (bI a1))) (fun μ7 => bnd (g_X7_readToken μ7) (fun q9 => some (true, q9)))))) else bnd (g_X7_fail ν (3 : Int32)) (fun q11 => some (q11.1, q11.2)))
set_option maxRecDepth 20000 in
set_option maxHeartbeats 4000000 in
theorem k_X7_modeStatement (l : Launch) (D : va_G) (cA : Nat → ClassId) (s0 : State) (z : Nat) (b : Nat) (ν : Mm) (sz : Nat) (hG : xG l D cA s0) (a1 : Bool) (r : Bool × Mm) (hF : g_X7_modeStatement ν a1 = some r) : Met l yX7_modeStatement (wsG yX7_modeStatement cX7_modeStatement 2 (some (FieldType.boolean))) { frames := 3, cells := 0, slots := 0, locals := 63 } (xP D cA s0 [.ref (b + 661), .int (bI a1)] (fun H => H.size = sz ∧ WC D cA s0 z b ν H)) (xQm (some (.int (bI r.1))) (fun H => WC D cA s0 z b r.2 H) (xA b 2628 sz)) 0 0 (xA b 2628 sz) := by
  refine x_start (own := RX7) [(0, .ref (b + 661)), (1, .int (bI a1))] rfl rfl (by decide) (nb rfl) ?_
  intro p e s m args below meth c C hw
  obtain ⟨hsz, hw⟩ := hw
  subst hsz
  have hS : va_S (xA b 2628 s.heap.size) s.heap s.heap [] := va_S.rf
  refine x_aload_n C dX7_modeStatement_0 rfl ?_
  refine x_get (.int (ν.1 661 6)) C fl_X7_28 (C_Par hw) rfl dX7_modeStatement_1 ?_
  refine x_if_eq 13 C dX7_modeStatement_4 (by decide) (fun c1 => ?_) (fun c1 => ?_)
  · have hF := ite_t hF c1
    refine x_aload_n C dX7_modeStatement_13 rfl ?_
    refine x_iconst (1 : Int32) C dX7_modeStatement_14 rfl ?_
    refine y_putZ (kk0 := 6) 661 C fl_X7_28 hw (by decide) (fun nm => S_Par) (fun nm => S_Par) rfl rfl rfl (fun _ => nb rfl) dX7_modeStatement_15 hS (xA_in (by decide)) (fun H locs hw hS => ?_)
    obtain ⟨μ2, hm3, hF⟩ := bnd_e hF
    have hw : WC D cA s0 z b μ2 H := rv_m (W := fun m => WC D cA s0 z b m _) hm3 hw
    refine x_aload_n C dX7_modeStatement_18 rfl ?_
    refine x_get (.ref (b + 334)) C fl_X7_19 (C_Par hw) rfl dX7_modeStatement_19 ?_
    obtain ⟨q4, hq5, hF⟩ := bnd_e hF
    refine x_goR (fun ls h => x_runV (As := []) [] h C ml_X7_76 (k_X5_present l D cA s0 z b μ2 hG 334 q4 hq5) ⟨rfl, rfl, nb rfl, nb rfl⟩ rfl (C_Led led334 hw) rfl hw (nb rfl) ⟨Nat.zero_le _, Nat.zero_le _⟩ dX7_modeStatement_22) ?_
    obtain ⟨h6, hF⟩ := asr_e hF
    refine x_iload_n C dX7_modeStatement_25 rfl ?_
    refine y_putZ (kk0 := 6) q4 C fl_X7_109 hw (l2 (lt_Tar h6)) (fun nm => S_Tar h6) (fun nm => S_Tar h6) rfl (bI_nar _) (bI_fit _) (fun _ => nb rfl) dX7_modeStatement_26 hS (xA_in (l2 (lt_Tar h6))) (fun H locs hw hS => ?_)
    obtain ⟨μ7, hm8, hF⟩ := bnd_e hF
    have hw : WC D cA s0 z b μ7 H := rv_m (W := fun m => WC D cA s0 z b m _) hm8 hw
    refine x_aload_n C dX7_modeStatement_29 rfl ?_
    obtain ⟨q9, hq10, hF⟩ := bnd_e hF
    refine x_goM (fun ls h => x_runV (As := []) [] h C ml_X7_44 (k_X7_readToken l D cA s0 z b μ7 _ hG q9 hq10) ⟨rfl, rfl, nb rfl, nb rfl⟩ rfl (C_Par hw) rfl ⟨rfl, hw⟩ (nb rfl) ⟨Nat.zero_le _, Nat.zero_le _⟩ dX7_modeStatement_30) hS (xA_le hS) (fun H locs hw hz hk hS => ?_)
    have hw : WC D cA s0 z b q9 H := hw
    refine x_iconst (1 : Int32) C dX7_modeStatement_33 rfl ?_
    exact x_zretM2 C rfl dX7_modeStatement_34 rfl (rm_b1 hF) (rm_m (W := fun m => WC D cA s0 z b m _) hF hw) hS (nb rfl) (nb rfl)
  · have hF := ite_f hF c1
    refine x_aload_n C dX7_modeStatement_7 rfl ?_
    refine x_iconst (3 : Int32) C dX7_modeStatement_8 rfl ?_
    obtain ⟨q11, hq12, hF⟩ := bnd_e hF
    refine x_goM (fun ls h => x_runV (As := [.int (3 : Int32)]) [] h C ml_X7_50 (k_X7_fail l D cA s0 z b ν _ hG (3 : Int32) q11 hq12) ⟨rfl, rfl, nb rfl, nb rfl⟩ rfl (C_Par hw) rfl ⟨rfl, hw⟩ (nb rfl) ⟨Nat.zero_le _, Nat.zero_le _⟩ dX7_modeStatement_9) hS (xA_le hS) (fun H locs hw hz hk hS => ?_)
    have hw : WC D cA s0 z b q11.2 H := hw
    exact x_zretM2 C rfl dX7_modeStatement_12 (bI_nar _) (rm_b hF) (rm_m (W := fun m => WC D cA s0 z b m _) hF hw) hS (nb rfl) (nb rfl)
noncomputable def g_X7_number_L24 (ν : Mm) (a1 : Int32) (a2 : Int32) : Nat → Mm → Int32 → Option (Bool × Mm)
  | 0, _, _ => none
  | n + 1, μ0, x3 => (if (μ0.1 661 4) ≤ x3 then (if (μ0.1 661 5) < a1 then bnd (g_X7_fail μ0 (2 : Int32)) (fun q6 => some (q6.1, q6.2)) else (if (μ0.1 661 5) ≤ a2 then bnd (g_X7_readToken μ0) (fun q9 => some (true, q9)) else bnd (g_X7_fail μ0 (2 : Int32)) (fun q11 => some (q11.1, q11.2)))) else bnd (g_X1_byteAt μ0 1 x3) (fun q13 => bnd (some (uI μ0 661 5 (imin ((((μ0.1 661 5) * (10 : Int32)) + q13) - (48 : Int32)) (100000 : Int32)))) (fun μ15 => (g_X7_number_L24 ν a1 a2 n μ15 (x3 + (1 : Int32))))))
noncomputable def g_X7_number (ν : Mm) (a1 : Int32) (a2 : Int32) : Option (Bool × Mm) := (if (ν.1 661 2) = (2 : Int32) then bnd (some (uI ν 661 5 (0 : Int32))) (fun μ2 => (g_X7_number_L24 ν a1 a2 10000 μ2 (μ2.1 661 3))) else bnd (g_X7_fail ν (1 : Int32)) (fun q17 => some (q17.1, q17.2)))
set_option maxRecDepth 20000 in
set_option maxHeartbeats 4000000 in
theorem k_X7_number (l : Launch) (D : va_G) (cA : Nat → ClassId) (s0 : State) (z : Nat) (b : Nat) (ν : Mm) (sz : Nat) (hG : xG l D cA s0) (a1 : Int32) (a2 : Int32) (r : Bool × Mm) (hF : g_X7_number ν a1 a2 = some r) : Met l yX7_number (wsG yX7_number cX7_number 4 (some (FieldType.boolean))) { frames := 3, cells := 0, slots := 0, locals := 63 } (xP D cA s0 [.ref (b + 661), .int a1, .int a2] (fun H => H.size = sz ∧ WC D cA s0 z b ν H)) (xQm (some (.int (bI r.1))) (fun H => WC D cA s0 z b r.2 H) (xA b 2628 sz)) 0 0 (xA b 2628 sz) := by
  refine x_start (own := RX7) [(0, .ref (b + 661)), (1, .int a1), (2, .int a2)] rfl rfl (by decide) (nb rfl) ?_
  intro p e s m args below meth c C hw
  obtain ⟨hsz, hw⟩ := hw
  subst hsz
  have hS : va_S (xA b 2628 s.heap.size) s.heap s.heap [] := va_S.rf
  have h_L24 : ∀ (n : Nat) (μ0 : Mm) (x3 : Int32) (H : Heap) (locs : List Loc) (hw : WC D cA s0 z b μ0 H) (hS : va_S (xA b 2628 s.heap.size) s.heap H locs), g_X7_number_L24 ν a1 a2 n μ0 x3 = some r → xW p l e { frames := 3, cells := 0, slots := 0, locals := 63 } s m args below meth c 4 (MQ below (xQm (some (.int (bI r.1))) (fun H => WC D cA s0 z b r.2 H) (xA b 2628 s.heap.size)) args s 0 0 (xA b 2628 s.heap.size)) H locs 0 0 24 [(0, .ref (b + 661)), (1, .int a1), (2, .int a2), (3, .int x3)] [] := by
    intro n
    induction n with
    | zero =>
      intro μ0 x3 H locs hw hS hF
      exact no_some hF
    | succ n ih =>
      intro μ0 x3 H locs hw hS hF
      have ih24 := ih
      refine x_iload_n C dX7_number_24 rfl ?_
      refine x_aload_n C dX7_number_25 rfl ?_
      refine x_get (.int (μ0.1 661 4)) C fl_X7_41 (C_Par hw) rfl dX7_number_26 ?_
      refine x_icmp_ge 66 C dX7_number_29 (by decide) (fun c4 => ?_) (fun c4 => ?_)
      · have hF := ite_t hF c4
        refine x_aload_n C dX7_number_66 rfl ?_
        refine x_get (.int (μ0.1 661 5)) C fl_X7_124 (C_Par hw) rfl dX7_number_67 ?_
        refine x_iload_n C dX7_number_70 rfl ?_
        refine x_icmp_lt 82 C dX7_number_71 (by decide) (fun c5 => ?_) (fun c5 => ?_)
        · have hF := ite_t hF c5
          refine x_aload_n C dX7_number_82 rfl ?_
          refine x_iconst (2 : Int32) C dX7_number_83 rfl ?_
          obtain ⟨q6, hq7, hF⟩ := bnd_e hF
          refine x_goM (fun ls h => x_runV (As := [.int (2 : Int32)]) [] h C ml_X7_50 (k_X7_fail l D cA s0 z b μ0 _ hG (2 : Int32) q6 hq7) ⟨rfl, rfl, nb rfl, nb rfl⟩ rfl (C_Par hw) rfl ⟨rfl, hw⟩ (nb rfl) ⟨Nat.zero_le _, Nat.zero_le _⟩ dX7_number_84) hS (xA_le hS) (fun H locs hw hz hk hS => ?_)
          have hw : WC D cA s0 z b q6.2 H := hw
          exact x_zretM2 C rfl dX7_number_87 (bI_nar _) (rm_b hF) (rm_m (W := fun m => WC D cA s0 z b m _) hF hw) hS (nb rfl) (nb rfl)
        · have hF := ite_f hF c5
          refine x_aload_n C dX7_number_74 rfl ?_
          refine x_get (.int (μ0.1 661 5)) C fl_X7_124 (C_Par hw) rfl dX7_number_75 ?_
          refine x_iload_n C dX7_number_78 rfl ?_
          refine x_icmp_le 88 C dX7_number_79 (by decide) (fun c8 => ?_) (fun c8 => ?_)
          · have hF := ite_t hF c8
            refine x_aload_n C dX7_number_88 rfl ?_
            obtain ⟨q9, hq10, hF⟩ := bnd_e hF
            refine x_goM (fun ls h => x_runV (As := []) [] h C ml_X7_44 (k_X7_readToken l D cA s0 z b μ0 _ hG q9 hq10) ⟨rfl, rfl, nb rfl, nb rfl⟩ rfl (C_Par hw) rfl ⟨rfl, hw⟩ (nb rfl) ⟨Nat.zero_le _, Nat.zero_le _⟩ dX7_number_89) hS (xA_le hS) (fun H locs hw hz hk hS => ?_)
            have hw : WC D cA s0 z b q9 H := hw
            refine x_iconst (1 : Int32) C dX7_number_92 rfl ?_
            exact x_zretM2 C rfl dX7_number_93 rfl (rm_b1 hF) (rm_m (W := fun m => WC D cA s0 z b m _) hF hw) hS (nb rfl) (nb rfl)
          · have hF := ite_f hF c8
            refine x_aload_n C dX7_number_82 rfl ?_
            refine x_iconst (2 : Int32) C dX7_number_83 rfl ?_
            obtain ⟨q11, hq12, hF⟩ := bnd_e hF
            refine x_goM (fun ls h => x_runV (As := [.int (2 : Int32)]) [] h C ml_X7_50 (k_X7_fail l D cA s0 z b μ0 _ hG (2 : Int32) q11 hq12) ⟨rfl, rfl, nb rfl, nb rfl⟩ rfl (C_Par hw) rfl ⟨rfl, hw⟩ (nb rfl) ⟨Nat.zero_le _, Nat.zero_le _⟩ dX7_number_84) hS (xA_le hS) (fun H locs hw hz hk hS => ?_)
            have hw : WC D cA s0 z b q11.2 H := hw
            exact x_zretM2 C rfl dX7_number_87 (bI_nar _) (rm_b hF) (rm_m (W := fun m => WC D cA s0 z b m _) hF hw) hS (nb rfl) (nb rfl)
      · have hF := ite_f hF c4
        refine x_aload_n C dX7_number_32 rfl ?_
        refine x_aload_n C dX7_number_33 rfl ?_
        refine x_get (.int (μ0.1 661 5)) C fl_X7_124 (C_Par hw) rfl dX7_number_34 ?_
        refine x_bipush (10 : Int32) C dX7_number_37 rfl ?_
        refine x_imul C dX7_number_39 ?_
        refine x_aload_n C dX7_number_40 rfl ?_
        refine x_get (.ref (b + 1)) C fl_X7_15 (C_Par hw) rfl dX7_number_41 ?_
        refine x_iload_n C dX7_number_44 rfl ?_
        obtain ⟨q13, hq14, hF⟩ := bnd_e hF
        refine x_goR (fun ls h => x_runV (As := [.int x3]) [.int ((μ0.1 661 5) * (10 : Int32)), .ref (b + 661)] h C ml_X7_195 (k_X1_byteAt l D cA s0 z b μ0 hG 1 x3 q13 hq14) ⟨rfl, rfl, nb rfl, nb rfl⟩ rfl (C_Byt byt1 hw) rfl hw (nb rfl) ⟨Nat.zero_le _, Nat.zero_le _⟩ dX7_number_45) ?_
        refine x_iadd C dX7_number_48 ?_
        refine x_bipush (48 : Int32) C dX7_number_49 rfl ?_
        refine x_isub C dX7_number_51 ?_
        refine x_ldc (100000 : Int32) C co_X7_201 dX7_number_52 ?_
        refine x_mmin C ml_X7_202 (nb rfl) (nb rfl) ⟨Nat.zero_le _, Nat.zero_le _⟩ dX7_number_54 ?_
        refine y_putI (kk0 := 5) 661 C fl_X7_124 hw (by decide) (fun nm => S_Par) (fun nm => S_Par) rfl rfl (fun _ => nb rfl) dX7_number_57 hS (xA_in (by decide)) (fun H locs hw hS => ?_)
        obtain ⟨μ15, hm16, hF⟩ := bnd_e hF
        have hw : WC D cA s0 z b μ15 H := rv_m (W := fun m => WC D cA s0 z b m _) hm16 hw
        refine x_iinc (x3 + (1 : Int32)) [(3, .int (x3 + (1 : Int32))), (0, .ref (b + 661)), (1, .int a1), (2, .int a2)] C dX7_number_60 rfl rfl (by decide) rfl ?_
        refine x_goto 24 C dX7_number_63 (by decide) ?_
        refine x_sub [(0, .ref (b + 661)), (1, .int a1), (2, .int a2), (3, .int (x3 + (1 : Int32)))] [1, 2, 3, 0] rfl ?_
        exact ih24 μ15 (x3 + (1 : Int32)) _ _ hw hS hF
  refine x_aload_n C dX7_number_0 rfl ?_
  refine x_get (.int (ν.1 661 2)) C fl_X7_47 (C_Par hw) rfl dX7_number_1 ?_
  refine x_iconst (2 : Int32) C dX7_number_4 rfl ?_
  refine x_icmp_eq 14 C dX7_number_5 (by decide) (fun c1 => ?_) (fun c1 => ?_)
  · have hF := ite_t hF c1
    refine x_aload_n C dX7_number_14 rfl ?_
    refine x_iconst (0 : Int32) C dX7_number_15 rfl ?_
    refine y_putI (kk0 := 5) 661 C fl_X7_124 hw (by decide) (fun nm => S_Par) (fun nm => S_Par) rfl rfl (fun _ => nb rfl) dX7_number_16 hS (xA_in (by decide)) (fun H locs hw hS => ?_)
    obtain ⟨μ2, hm3, hF⟩ := bnd_e hF
    have hw : WC D cA s0 z b μ2 H := rv_m (W := fun m => WC D cA s0 z b m _) hm3 hw
    refine x_aload_n C dX7_number_19 rfl ?_
    refine x_get (.int (μ2.1 661 3)) C fl_X7_173 (C_Par hw) rfl dX7_number_20 ?_
    refine x_istore_n [(3, .int (μ2.1 661 3)), (0, .ref (b + 661)), (1, .int a1), (2, .int a2)] C dX7_number_23 rfl (by decide) rfl ?_
    refine x_sub [(0, .ref (b + 661)), (1, .int a1), (2, .int a2), (3, .int (μ2.1 661 3))] [1, 2, 3, 0] rfl ?_
    exact h_L24 10000 μ2 (μ2.1 661 3) _ _ hw hS hF
  · have hF := ite_f hF c1
    refine x_aload_n C dX7_number_8 rfl ?_
    refine x_iconst (1 : Int32) C dX7_number_9 rfl ?_
    obtain ⟨q17, hq18, hF⟩ := bnd_e hF
    refine x_goM (fun ls h => x_runV (As := [.int (1 : Int32)]) [] h C ml_X7_50 (k_X7_fail l D cA s0 z b ν _ hG (1 : Int32) q17 hq18) ⟨rfl, rfl, nb rfl, nb rfl⟩ rfl (C_Par hw) rfl ⟨rfl, hw⟩ (nb rfl) ⟨Nat.zero_le _, Nat.zero_le _⟩ dX7_number_10) hS (xA_le hS) (fun H locs hw hz hk hS => ?_)
    have hw : WC D cA s0 z b q17.2 H := hw
    exact x_zretM2 C rfl dX7_number_13 (bI_nar _) (rm_b hF) (rm_m (W := fun m => WC D cA s0 z b m _) hF hw) hS (nb rfl) (nb rfl)
noncomputable def g_X7_word (ν : Mm) (a1 : Nat) : Option (Bool × Mm) := bnd (g_X7_tokenIs ν a1) (fun q1 => (if q1 = true then bnd (g_X7_readToken ν) (fun q4 => some (true, q4)) else bnd (g_X7_fail ν (1 : Int32)) (fun q6 => some (q6.1, q6.2))))
set_option maxRecDepth 20000 in
set_option maxHeartbeats 4000000 in
theorem k_X7_word (l : Launch) (D : va_G) (cA : Nat → ClassId) (s0 : State) (z : Nat) (b : Nat) (ν : Mm) (sz : Nat) (hG : xG l D cA s0) (a1r : Nat) (a1 : Nat) (r : Bool × Mm) (hF : g_X7_word ν a1 = some r) : Met l yX7_word (wsG yX7_word cX7_word 2 (some (FieldType.boolean))) { frames := 6, cells := 0, slots := 0, locals := 130 } (xP D cA s0 [.ref (b + 661), .ref a1r] (fun H => H.size = sz ∧ WC D cA s0 z b ν H ∧ Str D cA s0 z a1r a1 H)) (xQm (some (.int (bI r.1))) (fun H => WC D cA s0 z b r.2 H) (xA b 2628 sz)) 0 0 (xA b 2628 sz) := by
  refine x_start (own := RX7) [(0, .ref (b + 661)), (1, .ref a1r)] rfl rfl (by decide) (nb rfl) ?_
  intro p e s m args below meth c C hw
  obtain ⟨hsz, hw, hst0_a1⟩ := hw
  subst hsz
  have hS : va_S (xA b 2628 s.heap.size) s.heap s.heap [] := va_S.rf
  refine x_aload_n C dX7_word_0 rfl ?_
  refine x_aload_n C dX7_word_1 rfl ?_
  obtain ⟨q1, hq2, hF⟩ := bnd_e hF
  refine x_goR (fun ls h => x_runV (As := [.ref a1r]) [] h C ml_X7_64 (k_X7_tokenIs l D cA s0 z b ν hG a1r a1 q1 hq2) ⟨rfl, rfl, nb rfl, nb rfl⟩ rfl (C_Par hw) rfl ⟨hw, (Str.now hst0_a1 hw.1 hw.2.1 hS)⟩ (nb rfl) ⟨Nat.zero_le _, Nat.zero_le _⟩ dX7_word_2) ?_
  refine x_ifB_ne 14 C dX7_word_5 (by decide) (fun c3 => ?_) (fun c3 => ?_)
  · have hF := ite_t hF c3
    refine x_aload_n C dX7_word_14 rfl ?_
    obtain ⟨q4, hq5, hF⟩ := bnd_e hF
    refine x_goM (fun ls h => x_runV (As := []) [] h C ml_X7_44 (k_X7_readToken l D cA s0 z b ν _ hG q4 hq5) ⟨rfl, rfl, nb rfl, nb rfl⟩ rfl (C_Par hw) rfl ⟨rfl, hw⟩ (nb rfl) ⟨Nat.zero_le _, Nat.zero_le _⟩ dX7_word_15) hS (xA_le hS) (fun H locs hw hz hk hS => ?_)
    have hw : WC D cA s0 z b q4 H := hw
    refine x_iconst (1 : Int32) C dX7_word_18 rfl ?_
    exact x_zretM2 C rfl dX7_word_19 rfl (rm_b1 hF) (rm_m (W := fun m => WC D cA s0 z b m _) hF hw) hS (nb rfl) (nb rfl)
  · have hF := ite_f hF (nbt c3)
    refine x_aload_n C dX7_word_8 rfl ?_
    refine x_iconst (1 : Int32) C dX7_word_9 rfl ?_
    obtain ⟨q6, hq7, hF⟩ := bnd_e hF
    refine x_goM (fun ls h => x_runV (As := [.int (1 : Int32)]) [] h C ml_X7_50 (k_X7_fail l D cA s0 z b ν _ hG (1 : Int32) q6 hq7) ⟨rfl, rfl, nb rfl, nb rfl⟩ rfl (C_Par hw) rfl ⟨rfl, hw⟩ (nb rfl) ⟨Nat.zero_le _, Nat.zero_le _⟩ dX7_word_10) hS (xA_le hS) (fun H locs hw hz hk hS => ?_)
    have hw : WC D cA s0 z b q6.2 H := hw
    exact x_zretM2 C rfl dX7_word_13 (bI_nar _) (rm_b hF) (rm_m (W := fun m => WC D cA s0 z b m _) hF hw) hS (nb rfl) (nb rfl)
noncomputable def g_X7_bandStatement_J53 (ν : Mm) (a1 : Nat) (μ0 : Mm) (x2 : Int32) (y0 : Int32) (y1 : Int32) : Option (Bool × Mm) := bnd (g_X7_number μ0 y1 y0) (fun q9 => (if q9.1 = true then asr (vp_in x2 6) (bnd (some (uI q9.2 (a1 + 1) (cl x2) (q9.2.1 661 5))) (fun μ15 => bnd (g_X7_word μ15 1702125938) (fun q19 => (if q19.1 = true then bnd (g_X7_number q19.2 (0 : Int32) (999 : Int32)) (fun q22 => (if q22.1 = true then bnd (some (uI q22.2 (a1 + 2) (cl x2) (q22.2.1 661 5))) (fun μ25 => bnd (some (uI μ25 a1 4 ((μ25.1 a1 4) + (1 : Int32)))) (fun μ27 => some (true, μ27))) else some (false, q22.2))) else some (false, q19.2))))) else some (false, q9.2)))
noncomputable def g_X7_bandStatement_J35 (ν : Mm) (a1 : Nat) (μ0 : Mm) (x2 : Int32) (y0 : Int32) : Option (Bool × Mm) := bnd (g_X7_readToken μ0) (fun q6 => (if x2 = 0 then (g_X7_bandStatement_J53 ν a1 q6 x2 (0 : Int32) y0) else (g_X7_bandStatement_J53 ν a1 q6 x2 (9999 : Int32) y0)))
noncomputable def g_X7_bandStatement (ν : Mm) (a1 : Nat) : Option (Bool × Mm) := asr (isTar a1) ((if (ν.1 a1 4) < (6 : Int32) then (if (ν.1 a1 4) = 0 then (g_X7_bandStatement_J35 ν a1 ν (ν.1 a1 4) (0 : Int32)) else asr (vp_in ((ν.1 a1 4) - (1 : Int32)) 6) ((g_X7_bandStatement_J35 ν a1 ν (ν.1 a1 4) ((ν.1 (a1 + 1) (cl ((ν.1 a1 4) - (1 : Int32)))) + (1 : Int32))))) else bnd (g_X7_fail ν (4 : Int32)) (fun q29 => some (q29.1, q29.2))))
set_option maxRecDepth 20000 in
set_option maxHeartbeats 4000000 in
theorem k_X7_bandStatement (l : Launch) (D : va_G) (cA : Nat → ClassId) (s0 : State) (z : Nat) (b : Nat) (ν : Mm) (sz : Nat) (hG : xG l D cA s0) (a1 : Nat) (r : Bool × Mm) (hF : g_X7_bandStatement ν a1 = some r) : Met l yX7_bandStatement (wsG yX7_bandStatement cX7_bandStatement 4 (some (FieldType.boolean))) { frames := 7, cells := 0, slots := 0, locals := 151 } (xP D cA s0 [.ref (b + 661), .ref (b + a1)] (fun H => H.size = sz ∧ WC D cA s0 z b ν H)) (xQm (some (.int (bI r.1))) (fun H => WC D cA s0 z b r.2 H) (xA b 2628 sz)) 0 0 (xA b 2628 sz) := by
  refine x_start (own := RX7) [(0, .ref (b + 661)), (1, .ref (b + a1))] rfl rfl (by decide) (nb rfl) ?_
  intro p e s m args below meth c C hw
  obtain ⟨hsz, hw⟩ := hw
  subst hsz
  have hS : va_S (xA b 2628 s.heap.size) s.heap s.heap [] := va_S.rf
  obtain ⟨hpa1, hF⟩ := asr_e hF
  have h_J53 : ∀ (μ0 : Mm) (x2 : Int32) (y0 : Int32) (y1 : Int32) (H : Heap) (locs : List Loc) (hw : WC D cA s0 z b μ0 H) (hS : va_S (xA b 2628 s.heap.size) s.heap H locs), g_X7_bandStatement_J53 ν a1 μ0 x2 y0 y1 = some r → xW p l e { frames := 7, cells := 0, slots := 0, locals := 151 } s m args below meth c 4 (MQ below (xQm (some (.int (bI r.1))) (fun H => WC D cA s0 z b r.2 H) (xA b 2628 s.heap.size)) args s 0 0 (xA b 2628 s.heap.size)) H locs 0 0 53 [(0, .ref (b + 661)), (1, .ref (b + a1)), (2, .int x2)] [.int y0, .int y1, .ref (b + 661)] := by
    intro μ0 x2 y0 y1 H locs hw hS hF
    obtain ⟨q9, hq10, hF⟩ := bnd_e hF
    refine x_goM (fun ls h => x_runV (As := [.int y1, .int y0]) [] h C ml_X7_120 (k_X7_number l D cA s0 z b μ0 _ hG y1 y0 q9 hq10) ⟨rfl, rfl, nb rfl, nb rfl⟩ rfl (C_Par hw) rfl ⟨rfl, hw⟩ (nb rfl) ⟨Nat.zero_le _, Nat.zero_le _⟩ dX7_bandStatement_53) hS (xA_le hS) (fun H locs hw hz hk hS => ?_)
    have hw : WC D cA s0 z b q9.2 H := hw
    refine x_ifB_ne 61 C dX7_bandStatement_56 (by decide) (fun c11 => ?_) (fun c11 => ?_)
    · have hF := ite_t hF c11
      refine x_aload_n C dX7_bandStatement_61 rfl ?_
      refine x_get (.ref (b + (a1 + 1))) C fl_X7_116 (C_Tar hpa1 hw) rfl dX7_bandStatement_62 ?_
      refine x_iload_n C dX7_bandStatement_65 rfl ?_
      refine x_aload_n C dX7_bandStatement_66 rfl ?_
      refine x_get (.int (q9.2.1 661 5)) C fl_X7_124 (C_Par hw) rfl dX7_bandStatement_67 ?_
      obtain ⟨h12, hF⟩ := asr_e hF
      obtain ⟨hn13, hl14⟩ := vpn h12 (by decide)
      refine y_iast (a1 + 1) C hw (la_bandFrom hpa1) (fun nm f => S_bandFrom hpa1) hn13 hl14 (by decide) dX7_bandStatement_70 hS (xA_in (la_bandFrom hpa1)) (fun H locs hw hS => ?_)
      obtain ⟨μ15, hm16, hF⟩ := bnd_e hF
      have hw : WC D cA s0 z b μ15 H := rv_m (W := fun m => WC D cA s0 z b m _) hm16 hw
      refine x_aload_n C dX7_bandStatement_71 rfl ?_
      refine x_ldcS (z := z) 1702125938 C hG.2.2.2 xl_X7_127 hw.2.2.2.1 dX7_bandStatement_72 (fun ra17 hst18 => ?_)
      obtain ⟨q19, hq20, hF⟩ := bnd_e hF
      refine x_goM (fun ls h => x_runV (As := [.ref ra17]) [] h C ml_X7_129 (k_X7_word l D cA s0 z b μ15 _ hG ra17 1702125938 q19 hq20) ⟨rfl, rfl, nb rfl, nb rfl⟩ rfl (C_Par hw) rfl ⟨rfl, hw, hst18⟩ (nb rfl) ⟨Nat.zero_le _, Nat.zero_le _⟩ dX7_bandStatement_74) hS (xA_le hS) (fun H locs hw hz hk hS => ?_)
      have hw : WC D cA s0 z b q19.2 H := hw
      refine x_ifB_eq 91 C dX7_bandStatement_77 (by decide) (fun c21 => ?_) (fun c21 => ?_)
      · have hF := ite_f hF (nbt c21)
        refine x_iconst (0 : Int32) C dX7_bandStatement_91 rfl ?_
        exact x_zretM2 C rfl dX7_bandStatement_92 rfl (rm_b0 hF) (rm_m (W := fun m => WC D cA s0 z b m _) hF hw) hS (nb rfl) (nb rfl)
      · have hF := ite_t hF c21
        refine x_aload_n C dX7_bandStatement_80 rfl ?_
        refine x_iconst (0 : Int32) C dX7_bandStatement_81 rfl ?_
        refine x_sipush (999 : Int32) C dX7_bandStatement_82 rfl ?_
        obtain ⟨q22, hq23, hF⟩ := bnd_e hF
        refine x_goM (fun ls h => x_runV (As := [.int (0 : Int32), .int (999 : Int32)]) [] h C ml_X7_120 (k_X7_number l D cA s0 z b q19.2 _ hG (0 : Int32) (999 : Int32) q22 hq23) ⟨rfl, rfl, nb rfl, nb rfl⟩ rfl (C_Par hw) rfl ⟨rfl, hw⟩ (nb rfl) ⟨Nat.zero_le _, Nat.zero_le _⟩ dX7_bandStatement_85) hS (xA_le hS) (fun H locs hw hz hk hS => ?_)
        have hw : WC D cA s0 z b q22.2 H := hw
        refine x_ifB_ne 93 C dX7_bandStatement_88 (by decide) (fun c24 => ?_) (fun c24 => ?_)
        · have hF := ite_t hF c24
          refine x_aload_n C dX7_bandStatement_93 rfl ?_
          refine x_get (.ref (b + (a1 + 2))) C fl_X7_132 (C_Tar hpa1 hw) rfl dX7_bandStatement_94 ?_
          refine x_iload_n C dX7_bandStatement_97 rfl ?_
          refine x_aload_n C dX7_bandStatement_98 rfl ?_
          refine x_get (.int (q22.2.1 661 5)) C fl_X7_124 (C_Par hw) rfl dX7_bandStatement_99 ?_
          refine y_iast (a1 + 2) C hw (la_bandRate hpa1) (fun nm f => S_bandRate hpa1) hn13 hl14 (by decide) dX7_bandStatement_102 hS (xA_in (la_bandRate hpa1)) (fun H locs hw hS => ?_)
          obtain ⟨μ25, hm26, hF⟩ := bnd_e hF
          have hw : WC D cA s0 z b μ25 H := rv_m (W := fun m => WC D cA s0 z b m _) hm26 hw
          refine x_aload_n C dX7_bandStatement_103 rfl ?_
          refine x_dup C dX7_bandStatement_104 rfl ?_
          refine x_get (.int (μ25.1 a1 4)) C fl_X7_113 (C_Tar hpa1 hw) rfl dX7_bandStatement_105 ?_
          refine x_iconst (1 : Int32) C dX7_bandStatement_108 rfl ?_
          refine x_iadd C dX7_bandStatement_109 ?_
          refine y_putI (kk0 := 4) a1 C fl_X7_113 hw (l2 (lt_Tar hpa1)) (fun nm => S_Tar hpa1) (fun nm => S_Tar hpa1) rfl rfl (fun _ => nb rfl) dX7_bandStatement_110 hS (xA_in (l2 (lt_Tar hpa1))) (fun H locs hw hS => ?_)
          obtain ⟨μ27, hm28, hF⟩ := bnd_e hF
          have hw : WC D cA s0 z b μ27 H := rv_m (W := fun m => WC D cA s0 z b m _) hm28 hw
          refine x_iconst (1 : Int32) C dX7_bandStatement_113 rfl ?_
          exact x_zretM2 C rfl dX7_bandStatement_114 rfl (rm_b1 hF) (rm_m (W := fun m => WC D cA s0 z b m _) hF hw) hS (nb rfl) (nb rfl)
        · have hF := ite_f hF (nbt c24)
          refine x_iconst (0 : Int32) C dX7_bandStatement_91 rfl ?_
          exact x_zretM2 C rfl dX7_bandStatement_92 rfl (rm_b0 hF) (rm_m (W := fun m => WC D cA s0 z b m _) hF hw) hS (nb rfl) (nb rfl)
    · have hF := ite_f hF (nbt c11)
      refine x_iconst (0 : Int32) C dX7_bandStatement_59 rfl ?_
      exact x_zretM2 C rfl dX7_bandStatement_60 rfl (rm_b0 hF) (rm_m (W := fun m => WC D cA s0 z b m _) hF hw) hS (nb rfl) (nb rfl)
  have h_J35 : ∀ (μ0 : Mm) (x2 : Int32) (y0 : Int32) (H : Heap) (locs : List Loc) (hw : WC D cA s0 z b μ0 H) (hS : va_S (xA b 2628 s.heap.size) s.heap H locs), g_X7_bandStatement_J35 ν a1 μ0 x2 y0 = some r → xW p l e { frames := 7, cells := 0, slots := 0, locals := 151 } s m args below meth c 4 (MQ below (xQm (some (.int (bI r.1))) (fun H => WC D cA s0 z b r.2 H) (xA b 2628 s.heap.size)) args s 0 0 (xA b 2628 s.heap.size)) H locs 0 0 35 [(0, .ref (b + 661)), (1, .ref (b + a1)), (2, .int x2)] [.int y0] := by
    intro μ0 x2 y0 H locs hw hS hF
    refine x_istore_n [(3, .int y0), (0, .ref (b + 661)), (1, .ref (b + a1)), (2, .int x2)] C dX7_bandStatement_35 rfl (by decide) rfl ?_
    refine x_aload_n C dX7_bandStatement_36 rfl ?_
    obtain ⟨q6, hq7, hF⟩ := bnd_e hF
    refine x_goM (fun ls h => x_runV (As := []) [] h C ml_X7_44 (k_X7_readToken l D cA s0 z b μ0 _ hG q6 hq7) ⟨rfl, rfl, nb rfl, nb rfl⟩ rfl (C_Par hw) rfl ⟨rfl, hw⟩ (nb rfl) ⟨Nat.zero_le _, Nat.zero_le _⟩ dX7_bandStatement_37) hS (xA_le hS) (fun H locs hw hz hk hS => ?_)
    have hw : WC D cA s0 z b q6 H := hw
    refine x_aload_n C dX7_bandStatement_40 rfl ?_
    refine x_iload_n C dX7_bandStatement_41 rfl ?_
    refine x_iload_n C dX7_bandStatement_42 rfl ?_
    refine x_if_ne 50 C dX7_bandStatement_43 (by decide) (fun c8 => ?_) (fun c8 => ?_)
    · have hF := ite_f hF c8
      refine x_sipush (9999 : Int32) C dX7_bandStatement_50 rfl ?_
      refine x_sub [(0, .ref (b + 661)), (1, .ref (b + a1)), (2, .int x2)] [1, 2, 3] rfl ?_
      exact h_J53 q6 x2 (9999 : Int32) y0 _ _ hw hS hF
    · have hF := ite_t hF c8
      refine x_iconst (0 : Int32) C dX7_bandStatement_46 rfl ?_
      refine x_goto 53 C dX7_bandStatement_47 (by decide) ?_
      refine x_sub [(0, .ref (b + 661)), (1, .ref (b + a1)), (2, .int x2)] [1, 2, 3] rfl ?_
      exact h_J53 q6 x2 (0 : Int32) y0 _ _ hw hS hF
  refine x_aload_n C dX7_bandStatement_0 rfl ?_
  refine x_get (.int (ν.1 a1 4)) C fl_X7_113 (C_Tar hpa1 hw) rfl dX7_bandStatement_1 ?_
  refine x_istore_n [(2, .int (ν.1 a1 4)), (0, .ref (b + 661)), (1, .ref (b + a1))] C dX7_bandStatement_4 rfl (by decide) rfl ?_
  refine x_iload_n C dX7_bandStatement_5 rfl ?_
  refine x_bipush (6 : Int32) C dX7_bandStatement_6 rfl ?_
  refine x_icmp_lt 17 C dX7_bandStatement_8 (by decide) (fun c1 => ?_) (fun c1 => ?_)
  · have hF := ite_t hF c1
    refine x_iload_n C dX7_bandStatement_17 rfl ?_
    refine x_if_ne 25 C dX7_bandStatement_18 (by decide) (fun c2 => ?_) (fun c2 => ?_)
    · have hF := ite_f hF c2
      refine x_aload_n C dX7_bandStatement_25 rfl ?_
      refine x_get (.ref (b + (a1 + 1))) C fl_X7_116 (C_Tar hpa1 hw) rfl dX7_bandStatement_26 ?_
      refine x_iload_n C dX7_bandStatement_29 rfl ?_
      refine x_iconst (1 : Int32) C dX7_bandStatement_30 rfl ?_
      refine x_isub C dX7_bandStatement_31 ?_
      obtain ⟨h3, hF⟩ := asr_e hF
      obtain ⟨hn4, hl5⟩ := vpn h3 (by decide)
      refine x_ialdN C (C_bandFrom hpa1 hw) hn4 hl5 (by decide) dX7_bandStatement_32 ?_
      refine x_iconst (1 : Int32) C dX7_bandStatement_33 rfl ?_
      refine x_iadd C dX7_bandStatement_34 ?_
      refine x_sub [(0, .ref (b + 661)), (1, .ref (b + a1)), (2, .int (ν.1 a1 4))] [1, 2, 0] rfl ?_
      exact h_J35 ν (ν.1 a1 4) ((ν.1 (a1 + 1) (cl ((ν.1 a1 4) - (1 : Int32)))) + (1 : Int32)) _ _ hw hS hF
    · have hF := ite_t hF c2
      refine x_iconst (0 : Int32) C dX7_bandStatement_21 rfl ?_
      refine x_goto 35 C dX7_bandStatement_22 (by decide) ?_
      refine x_sub [(0, .ref (b + 661)), (1, .ref (b + a1)), (2, .int (ν.1 a1 4))] [1, 2, 0] rfl ?_
      exact h_J35 ν (ν.1 a1 4) (0 : Int32) _ _ hw hS hF
  · have hF := ite_f hF c1
    refine x_aload_n C dX7_bandStatement_11 rfl ?_
    refine x_iconst (4 : Int32) C dX7_bandStatement_12 rfl ?_
    obtain ⟨q29, hq30, hF⟩ := bnd_e hF
    refine x_goM (fun ls h => x_runV (As := [.int (4 : Int32)]) [] h C ml_X7_50 (k_X7_fail l D cA s0 z b ν _ hG (4 : Int32) q29 hq30) ⟨rfl, rfl, nb rfl, nb rfl⟩ rfl (C_Par hw) rfl ⟨rfl, hw⟩ (nb rfl) ⟨Nat.zero_le _, Nat.zero_le _⟩ dX7_bandStatement_13) hS (xA_le hS) (fun H locs hw hz hk hS => ?_)
    have hw : WC D cA s0 z b q29.2 H := hw
    exact x_zretM2 C rfl dX7_bandStatement_16 (bI_nar _) (rm_b hF) (rm_m (W := fun m => WC D cA s0 z b m _) hF hw) hS (nb rfl) (nb rfl)
noncomputable def g_X7_rebateStatement_J34 (ν : Mm) (a1 : Nat) (μ0 : Mm) (x2 : Int32) (y0 : Int32) : Option (Bool × Mm) := bnd (g_X7_readToken μ0) (fun q6 => bnd (g_X7_number q6 y0 (99 : Int32)) (fun q8 => (if q8.1 = true then asr (vp_in x2 4) (bnd (some (uI q8.2 (a1 + 3) (cl x2) (q8.2.1 661 5))) (fun μ14 => bnd (g_X7_word μ14 32772479037629808) (fun q18 => (if q18.1 = true then bnd (g_X7_number q18.2 (0 : Int32) (100 : Int32)) (fun q21 => (if q21.1 = true then bnd (some (uI q21.2 (a1 + 4) (cl x2) (q21.2.1 661 5))) (fun μ24 => bnd (some (uI μ24 a1 5 ((μ24.1 a1 5) + (1 : Int32)))) (fun μ26 => some (true, μ26))) else some (false, q21.2))) else some (false, q18.2))))) else some (false, q8.2))))
noncomputable def g_X7_rebateStatement (ν : Mm) (a1 : Nat) : Option (Bool × Mm) := asr (isTar a1) ((if (ν.1 a1 5) < (4 : Int32) then (if (ν.1 a1 5) = 0 then (g_X7_rebateStatement_J34 ν a1 ν (ν.1 a1 5) (2 : Int32)) else asr (vp_in ((ν.1 a1 5) - (1 : Int32)) 4) ((g_X7_rebateStatement_J34 ν a1 ν (ν.1 a1 5) ((ν.1 (a1 + 3) (cl ((ν.1 a1 5) - (1 : Int32)))) + (1 : Int32))))) else bnd (g_X7_fail ν (4 : Int32)) (fun q28 => some (q28.1, q28.2))))
set_option maxRecDepth 20000 in
set_option maxHeartbeats 4000000 in
theorem k_X7_rebateStatement (l : Launch) (D : va_G) (cA : Nat → ClassId) (s0 : State) (z : Nat) (b : Nat) (ν : Mm) (sz : Nat) (hG : xG l D cA s0) (a1 : Nat) (r : Bool × Mm) (hF : g_X7_rebateStatement ν a1 = some r) : Met l yX7_rebateStatement (wsG yX7_rebateStatement cX7_rebateStatement 4 (some (FieldType.boolean))) { frames := 7, cells := 0, slots := 0, locals := 151 } (xP D cA s0 [.ref (b + 661), .ref (b + a1)] (fun H => H.size = sz ∧ WC D cA s0 z b ν H)) (xQm (some (.int (bI r.1))) (fun H => WC D cA s0 z b r.2 H) (xA b 2628 sz)) 0 0 (xA b 2628 sz) := by
  refine x_start (own := RX7) [(0, .ref (b + 661)), (1, .ref (b + a1))] rfl rfl (by decide) (nb rfl) ?_
  intro p e s m args below meth c C hw
  obtain ⟨hsz, hw⟩ := hw
  subst hsz
  have hS : va_S (xA b 2628 s.heap.size) s.heap s.heap [] := va_S.rf
  obtain ⟨hpa1, hF⟩ := asr_e hF
  have h_J34 : ∀ (μ0 : Mm) (x2 : Int32) (y0 : Int32) (H : Heap) (locs : List Loc) (hw : WC D cA s0 z b μ0 H) (hS : va_S (xA b 2628 s.heap.size) s.heap H locs), g_X7_rebateStatement_J34 ν a1 μ0 x2 y0 = some r → xW p l e { frames := 7, cells := 0, slots := 0, locals := 151 } s m args below meth c 4 (MQ below (xQm (some (.int (bI r.1))) (fun H => WC D cA s0 z b r.2 H) (xA b 2628 s.heap.size)) args s 0 0 (xA b 2628 s.heap.size)) H locs 0 0 34 [(0, .ref (b + 661)), (1, .ref (b + a1)), (2, .int x2)] [.int y0] := by
    intro μ0 x2 y0 H locs hw hS hF
    refine x_istore_n [(3, .int y0), (0, .ref (b + 661)), (1, .ref (b + a1)), (2, .int x2)] C dX7_rebateStatement_34 rfl (by decide) rfl ?_
    refine x_aload_n C dX7_rebateStatement_35 rfl ?_
    obtain ⟨q6, hq7, hF⟩ := bnd_e hF
    refine x_goM (fun ls h => x_runV (As := []) [] h C ml_X7_44 (k_X7_readToken l D cA s0 z b μ0 _ hG q6 hq7) ⟨rfl, rfl, nb rfl, nb rfl⟩ rfl (C_Par hw) rfl ⟨rfl, hw⟩ (nb rfl) ⟨Nat.zero_le _, Nat.zero_le _⟩ dX7_rebateStatement_36) hS (xA_le hS) (fun H locs hw hz hk hS => ?_)
    have hw : WC D cA s0 z b q6 H := hw
    refine x_aload_n C dX7_rebateStatement_39 rfl ?_
    refine x_iload_n C dX7_rebateStatement_40 rfl ?_
    refine x_bipush (99 : Int32) C dX7_rebateStatement_41 rfl ?_
    obtain ⟨q8, hq9, hF⟩ := bnd_e hF
    refine x_goM (fun ls h => x_runV (As := [.int y0, .int (99 : Int32)]) [] h C ml_X7_120 (k_X7_number l D cA s0 z b q6 _ hG y0 (99 : Int32) q8 hq9) ⟨rfl, rfl, nb rfl, nb rfl⟩ rfl (C_Par hw) rfl ⟨rfl, hw⟩ (nb rfl) ⟨Nat.zero_le _, Nat.zero_le _⟩ dX7_rebateStatement_43) hS (xA_le hS) (fun H locs hw hz hk hS => ?_)
    have hw : WC D cA s0 z b q8.2 H := hw
    refine x_ifB_ne 51 C dX7_rebateStatement_46 (by decide) (fun c10 => ?_) (fun c10 => ?_)
    · have hF := ite_t hF c10
      refine x_aload_n C dX7_rebateStatement_51 rfl ?_
      refine x_get (.ref (b + (a1 + 3))) C fl_X7_138 (C_Tar hpa1 hw) rfl dX7_rebateStatement_52 ?_
      refine x_iload_n C dX7_rebateStatement_55 rfl ?_
      refine x_aload_n C dX7_rebateStatement_56 rfl ?_
      refine x_get (.int (q8.2.1 661 5)) C fl_X7_124 (C_Par hw) rfl dX7_rebateStatement_57 ?_
      obtain ⟨h11, hF⟩ := asr_e hF
      obtain ⟨hn12, hl13⟩ := vpn h11 (by decide)
      refine y_iast (a1 + 3) C hw (la_rebateFrom hpa1) (fun nm f => S_rebateFrom hpa1) hn12 hl13 (by decide) dX7_rebateStatement_60 hS (xA_in (la_rebateFrom hpa1)) (fun H locs hw hS => ?_)
      obtain ⟨μ14, hm15, hF⟩ := bnd_e hF
      have hw : WC D cA s0 z b μ14 H := rv_m (W := fun m => WC D cA s0 z b m _) hm15 hw
      refine x_aload_n C dX7_rebateStatement_61 rfl ?_
      refine x_ldcS (z := z) 32772479037629808 C hG.2.2.2 xl_X7_141 hw.2.2.2.1 dX7_rebateStatement_62 (fun ra16 hst17 => ?_)
      obtain ⟨q18, hq19, hF⟩ := bnd_e hF
      refine x_goM (fun ls h => x_runV (As := [.ref ra16]) [] h C ml_X7_129 (k_X7_word l D cA s0 z b μ14 _ hG ra16 32772479037629808 q18 hq19) ⟨rfl, rfl, nb rfl, nb rfl⟩ rfl (C_Par hw) rfl ⟨rfl, hw, hst17⟩ (nb rfl) ⟨Nat.zero_le _, Nat.zero_le _⟩ dX7_rebateStatement_64) hS (xA_le hS) (fun H locs hw hz hk hS => ?_)
      have hw : WC D cA s0 z b q18.2 H := hw
      refine x_ifB_eq 80 C dX7_rebateStatement_67 (by decide) (fun c20 => ?_) (fun c20 => ?_)
      · have hF := ite_f hF (nbt c20)
        refine x_iconst (0 : Int32) C dX7_rebateStatement_80 rfl ?_
        exact x_zretM2 C rfl dX7_rebateStatement_81 rfl (rm_b0 hF) (rm_m (W := fun m => WC D cA s0 z b m _) hF hw) hS (nb rfl) (nb rfl)
      · have hF := ite_t hF c20
        refine x_aload_n C dX7_rebateStatement_70 rfl ?_
        refine x_iconst (0 : Int32) C dX7_rebateStatement_71 rfl ?_
        refine x_bipush (100 : Int32) C dX7_rebateStatement_72 rfl ?_
        obtain ⟨q21, hq22, hF⟩ := bnd_e hF
        refine x_goM (fun ls h => x_runV (As := [.int (0 : Int32), .int (100 : Int32)]) [] h C ml_X7_120 (k_X7_number l D cA s0 z b q18.2 _ hG (0 : Int32) (100 : Int32) q21 hq22) ⟨rfl, rfl, nb rfl, nb rfl⟩ rfl (C_Par hw) rfl ⟨rfl, hw⟩ (nb rfl) ⟨Nat.zero_le _, Nat.zero_le _⟩ dX7_rebateStatement_74) hS (xA_le hS) (fun H locs hw hz hk hS => ?_)
        have hw : WC D cA s0 z b q21.2 H := hw
        refine x_ifB_ne 82 C dX7_rebateStatement_77 (by decide) (fun c23 => ?_) (fun c23 => ?_)
        · have hF := ite_t hF c23
          refine x_aload_n C dX7_rebateStatement_82 rfl ?_
          refine x_get (.ref (b + (a1 + 4))) C fl_X7_143 (C_Tar hpa1 hw) rfl dX7_rebateStatement_83 ?_
          refine x_iload_n C dX7_rebateStatement_86 rfl ?_
          refine x_aload_n C dX7_rebateStatement_87 rfl ?_
          refine x_get (.int (q21.2.1 661 5)) C fl_X7_124 (C_Par hw) rfl dX7_rebateStatement_88 ?_
          refine y_iast (a1 + 4) C hw (la_rebatePercent hpa1) (fun nm f => S_rebatePercent hpa1) hn12 hl13 (by decide) dX7_rebateStatement_91 hS (xA_in (la_rebatePercent hpa1)) (fun H locs hw hS => ?_)
          obtain ⟨μ24, hm25, hF⟩ := bnd_e hF
          have hw : WC D cA s0 z b μ24 H := rv_m (W := fun m => WC D cA s0 z b m _) hm25 hw
          refine x_aload_n C dX7_rebateStatement_92 rfl ?_
          refine x_dup C dX7_rebateStatement_93 rfl ?_
          refine x_get (.int (μ24.1 a1 5)) C fl_X7_135 (C_Tar hpa1 hw) rfl dX7_rebateStatement_94 ?_
          refine x_iconst (1 : Int32) C dX7_rebateStatement_97 rfl ?_
          refine x_iadd C dX7_rebateStatement_98 ?_
          refine y_putI (kk0 := 5) a1 C fl_X7_135 hw (l2 (lt_Tar hpa1)) (fun nm => S_Tar hpa1) (fun nm => S_Tar hpa1) rfl rfl (fun _ => nb rfl) dX7_rebateStatement_99 hS (xA_in (l2 (lt_Tar hpa1))) (fun H locs hw hS => ?_)
          obtain ⟨μ26, hm27, hF⟩ := bnd_e hF
          have hw : WC D cA s0 z b μ26 H := rv_m (W := fun m => WC D cA s0 z b m _) hm27 hw
          refine x_iconst (1 : Int32) C dX7_rebateStatement_102 rfl ?_
          exact x_zretM2 C rfl dX7_rebateStatement_103 rfl (rm_b1 hF) (rm_m (W := fun m => WC D cA s0 z b m _) hF hw) hS (nb rfl) (nb rfl)
        · have hF := ite_f hF (nbt c23)
          refine x_iconst (0 : Int32) C dX7_rebateStatement_80 rfl ?_
          exact x_zretM2 C rfl dX7_rebateStatement_81 rfl (rm_b0 hF) (rm_m (W := fun m => WC D cA s0 z b m _) hF hw) hS (nb rfl) (nb rfl)
    · have hF := ite_f hF (nbt c10)
      refine x_iconst (0 : Int32) C dX7_rebateStatement_49 rfl ?_
      exact x_zretM2 C rfl dX7_rebateStatement_50 rfl (rm_b0 hF) (rm_m (W := fun m => WC D cA s0 z b m _) hF hw) hS (nb rfl) (nb rfl)
  refine x_aload_n C dX7_rebateStatement_0 rfl ?_
  refine x_get (.int (ν.1 a1 5)) C fl_X7_135 (C_Tar hpa1 hw) rfl dX7_rebateStatement_1 ?_
  refine x_istore_n [(2, .int (ν.1 a1 5)), (0, .ref (b + 661)), (1, .ref (b + a1))] C dX7_rebateStatement_4 rfl (by decide) rfl ?_
  refine x_iload_n C dX7_rebateStatement_5 rfl ?_
  refine x_iconst (4 : Int32) C dX7_rebateStatement_6 rfl ?_
  refine x_icmp_lt 16 C dX7_rebateStatement_7 (by decide) (fun c1 => ?_) (fun c1 => ?_)
  · have hF := ite_t hF c1
    refine x_iload_n C dX7_rebateStatement_16 rfl ?_
    refine x_if_ne 24 C dX7_rebateStatement_17 (by decide) (fun c2 => ?_) (fun c2 => ?_)
    · have hF := ite_f hF c2
      refine x_aload_n C dX7_rebateStatement_24 rfl ?_
      refine x_get (.ref (b + (a1 + 3))) C fl_X7_138 (C_Tar hpa1 hw) rfl dX7_rebateStatement_25 ?_
      refine x_iload_n C dX7_rebateStatement_28 rfl ?_
      refine x_iconst (1 : Int32) C dX7_rebateStatement_29 rfl ?_
      refine x_isub C dX7_rebateStatement_30 ?_
      obtain ⟨h3, hF⟩ := asr_e hF
      obtain ⟨hn4, hl5⟩ := vpn h3 (by decide)
      refine x_ialdN C (C_rebateFrom hpa1 hw) hn4 hl5 (by decide) dX7_rebateStatement_31 ?_
      refine x_iconst (1 : Int32) C dX7_rebateStatement_32 rfl ?_
      refine x_iadd C dX7_rebateStatement_33 ?_
      refine x_sub [(0, .ref (b + 661)), (1, .ref (b + a1)), (2, .int (ν.1 a1 5))] [1, 2, 0] rfl ?_
      exact h_J34 ν (ν.1 a1 5) ((ν.1 (a1 + 3) (cl ((ν.1 a1 5) - (1 : Int32)))) + (1 : Int32)) _ _ hw hS hF
    · have hF := ite_t hF c2
      refine x_iconst (2 : Int32) C dX7_rebateStatement_20 rfl ?_
      refine x_goto 34 C dX7_rebateStatement_21 (by decide) ?_
      refine x_sub [(0, .ref (b + 661)), (1, .ref (b + a1)), (2, .int (ν.1 a1 5))] [1, 2, 0] rfl ?_
      exact h_J34 ν (ν.1 a1 5) (2 : Int32) _ _ hw hS hF
  · have hF := ite_f hF c1
    refine x_aload_n C dX7_rebateStatement_10 rfl ?_
    refine x_iconst (4 : Int32) C dX7_rebateStatement_11 rfl ?_
    obtain ⟨q28, hq29, hF⟩ := bnd_e hF
    refine x_goM (fun ls h => x_runV (As := [.int (4 : Int32)]) [] h C ml_X7_50 (k_X7_fail l D cA s0 z b ν _ hG (4 : Int32) q28 hq29) ⟨rfl, rfl, nb rfl, nb rfl⟩ rfl (C_Par hw) rfl ⟨rfl, hw⟩ (nb rfl) ⟨Nat.zero_le _, Nat.zero_le _⟩ dX7_rebateStatement_12) hS (xA_le hS) (fun H locs hw hz hk hS => ?_)
    have hw : WC D cA s0 z b q28.2 H := hw
    exact x_zretM2 C rfl dX7_rebateStatement_15 (bI_nar _) (rm_b hF) (rm_m (W := fun m => WC D cA s0 z b m _) hF hw) hS (nb rfl) (nb rfl)
noncomputable def g_X7_wasteStatement (ν : Mm) (a1 : Nat) : Option (Bool × Mm) := asr (isTar a1) ((if (ν.1 661 7) = 0 then bnd (some (uI ν 661 7 (1 : Int32))) (fun μ2 => bnd (g_X7_readToken μ2) (fun q4 => bnd (g_X7_word q4 431199119718) (fun q8 => (if q8.1 = true then bnd (g_X7_number q8.2 (0 : Int32) (9999 : Int32)) (fun q11 => (if q11.1 = true then bnd (some (uI q11.2 a1 7 (q11.2.1 661 5))) (fun μ14 => bnd (g_X7_word μ14 1701147238) (fun q18 => (if q18.1 = true then bnd (g_X7_number q18.2 (0 : Int32) (999 : Int32)) (fun q21 => (if q21.1 = true then bnd (some (uI q21.2 a1 8 (q21.2.1 661 5))) (fun μ24 => bnd (g_X7_word μ24 435459551856) (fun q28 => (if q28.1 = true then bnd (g_X7_number q28.2 (0 : Int32) (999 : Int32)) (fun q31 => (if q31.1 = true then bnd (some (uI q31.2 a1 9 (q31.2.1 661 5))) (fun μ34 => some (true, μ34)) else some (false, q31.2))) else some (false, q28.2)))) else some (false, q21.2))) else some (false, q18.2)))) else some (false, q11.2))) else some (false, q8.2))))) else bnd (g_X7_fail ν (3 : Int32)) (fun q36 => some (q36.1, q36.2))))
set_option maxRecDepth 20000 in
set_option maxHeartbeats 4000000 in
theorem k_X7_wasteStatement (l : Launch) (D : va_G) (cA : Nat → ClassId) (s0 : State) (z : Nat) (b : Nat) (ν : Mm) (sz : Nat) (hG : xG l D cA s0) (a1 : Nat) (r : Bool × Mm) (hF : g_X7_wasteStatement ν a1 = some r) : Met l yX7_wasteStatement (wsG yX7_wasteStatement cX7_wasteStatement 2 (some (FieldType.boolean))) { frames := 7, cells := 0, slots := 0, locals := 151 } (xP D cA s0 [.ref (b + 661), .ref (b + a1)] (fun H => H.size = sz ∧ WC D cA s0 z b ν H)) (xQm (some (.int (bI r.1))) (fun H => WC D cA s0 z b r.2 H) (xA b 2628 sz)) 0 0 (xA b 2628 sz) := by
  refine x_start (own := RX7) [(0, .ref (b + 661)), (1, .ref (b + a1))] rfl rfl (by decide) (nb rfl) ?_
  intro p e s m args below meth c C hw
  obtain ⟨hsz, hw⟩ := hw
  subst hsz
  have hS : va_S (xA b 2628 s.heap.size) s.heap s.heap [] := va_S.rf
  obtain ⟨hpa1, hF⟩ := asr_e hF
  refine x_aload_n C dX7_wasteStatement_0 rfl ?_
  refine x_get (.int (ν.1 661 7)) C fl_X7_32 (C_Par hw) rfl dX7_wasteStatement_1 ?_
  refine x_if_eq 13 C dX7_wasteStatement_4 (by decide) (fun c1 => ?_) (fun c1 => ?_)
  · have hF := ite_t hF c1
    refine x_aload_n C dX7_wasteStatement_13 rfl ?_
    refine x_iconst (1 : Int32) C dX7_wasteStatement_14 rfl ?_
    refine y_putZ (kk0 := 7) 661 C fl_X7_32 hw (by decide) (fun nm => S_Par) (fun nm => S_Par) rfl rfl rfl (fun _ => nb rfl) dX7_wasteStatement_15 hS (xA_in (by decide)) (fun H locs hw hS => ?_)
    obtain ⟨μ2, hm3, hF⟩ := bnd_e hF
    have hw : WC D cA s0 z b μ2 H := rv_m (W := fun m => WC D cA s0 z b m _) hm3 hw
    refine x_aload_n C dX7_wasteStatement_18 rfl ?_
    obtain ⟨q4, hq5, hF⟩ := bnd_e hF
    refine x_goM (fun ls h => x_runV (As := []) [] h C ml_X7_44 (k_X7_readToken l D cA s0 z b μ2 _ hG q4 hq5) ⟨rfl, rfl, nb rfl, nb rfl⟩ rfl (C_Par hw) rfl ⟨rfl, hw⟩ (nb rfl) ⟨Nat.zero_le _, Nat.zero_le _⟩ dX7_wasteStatement_19) hS (xA_le hS) (fun H locs hw hz hk hS => ?_)
    have hw : WC D cA s0 z b q4 H := hw
    refine x_aload_n C dX7_wasteStatement_22 rfl ?_
    refine x_ldcS (z := z) 431199119718 C hG.2.2.2 xl_X7_146 hw.2.2.2.1 dX7_wasteStatement_23 (fun ra6 hst7 => ?_)
    obtain ⟨q8, hq9, hF⟩ := bnd_e hF
    refine x_goM (fun ls h => x_runV (As := [.ref ra6]) [] h C ml_X7_129 (k_X7_word l D cA s0 z b q4 _ hG ra6 431199119718 q8 hq9) ⟨rfl, rfl, nb rfl, nb rfl⟩ rfl (C_Par hw) rfl ⟨rfl, hw, hst7⟩ (nb rfl) ⟨Nat.zero_le _, Nat.zero_le _⟩ dX7_wasteStatement_25) hS (xA_le hS) (fun H locs hw hz hk hS => ?_)
    have hw : WC D cA s0 z b q8.2 H := hw
    refine x_ifB_eq 42 C dX7_wasteStatement_28 (by decide) (fun c10 => ?_) (fun c10 => ?_)
    · have hF := ite_f hF (nbt c10)
      refine x_iconst (0 : Int32) C dX7_wasteStatement_42 rfl ?_
      exact x_zretM2 C rfl dX7_wasteStatement_43 rfl (rm_b0 hF) (rm_m (W := fun m => WC D cA s0 z b m _) hF hw) hS (nb rfl) (nb rfl)
    · have hF := ite_t hF c10
      refine x_aload_n C dX7_wasteStatement_31 rfl ?_
      refine x_iconst (0 : Int32) C dX7_wasteStatement_32 rfl ?_
      refine x_sipush (9999 : Int32) C dX7_wasteStatement_33 rfl ?_
      obtain ⟨q11, hq12, hF⟩ := bnd_e hF
      refine x_goM (fun ls h => x_runV (As := [.int (0 : Int32), .int (9999 : Int32)]) [] h C ml_X7_120 (k_X7_number l D cA s0 z b q8.2 _ hG (0 : Int32) (9999 : Int32) q11 hq12) ⟨rfl, rfl, nb rfl, nb rfl⟩ rfl (C_Par hw) rfl ⟨rfl, hw⟩ (nb rfl) ⟨Nat.zero_le _, Nat.zero_le _⟩ dX7_wasteStatement_36) hS (xA_le hS) (fun H locs hw hz hk hS => ?_)
      have hw : WC D cA s0 z b q11.2 H := hw
      refine x_ifB_ne 44 C dX7_wasteStatement_39 (by decide) (fun c13 => ?_) (fun c13 => ?_)
      · have hF := ite_t hF c13
        refine x_aload_n C dX7_wasteStatement_44 rfl ?_
        refine x_aload_n C dX7_wasteStatement_45 rfl ?_
        refine x_get (.int (q11.2.1 661 5)) C fl_X7_124 (C_Par hw) rfl dX7_wasteStatement_46 ?_
        refine y_putI (kk0 := 7) a1 C fl_X7_148 hw (l2 (lt_Tar hpa1)) (fun nm => S_Tar hpa1) (fun nm => S_Tar hpa1) rfl rfl (fun _ => nb rfl) dX7_wasteStatement_49 hS (xA_in (l2 (lt_Tar hpa1))) (fun H locs hw hS => ?_)
        obtain ⟨μ14, hm15, hF⟩ := bnd_e hF
        have hw : WC D cA s0 z b μ14 H := rv_m (W := fun m => WC D cA s0 z b m _) hm15 hw
        refine x_aload_n C dX7_wasteStatement_52 rfl ?_
        refine x_ldcS (z := z) 1701147238 C hG.2.2.2 xl_X7_151 hw.2.2.2.1 dX7_wasteStatement_53 (fun ra16 hst17 => ?_)
        obtain ⟨q18, hq19, hF⟩ := bnd_e hF
        refine x_goM (fun ls h => x_runV (As := [.ref ra16]) [] h C ml_X7_129 (k_X7_word l D cA s0 z b μ14 _ hG ra16 1701147238 q18 hq19) ⟨rfl, rfl, nb rfl, nb rfl⟩ rfl (C_Par hw) rfl ⟨rfl, hw, hst17⟩ (nb rfl) ⟨Nat.zero_le _, Nat.zero_le _⟩ dX7_wasteStatement_55) hS (xA_le hS) (fun H locs hw hz hk hS => ?_)
        have hw : WC D cA s0 z b q18.2 H := hw
        refine x_ifB_eq 72 C dX7_wasteStatement_58 (by decide) (fun c20 => ?_) (fun c20 => ?_)
        · have hF := ite_f hF (nbt c20)
          refine x_iconst (0 : Int32) C dX7_wasteStatement_72 rfl ?_
          exact x_zretM2 C rfl dX7_wasteStatement_73 rfl (rm_b0 hF) (rm_m (W := fun m => WC D cA s0 z b m _) hF hw) hS (nb rfl) (nb rfl)
        · have hF := ite_t hF c20
          refine x_aload_n C dX7_wasteStatement_61 rfl ?_
          refine x_iconst (0 : Int32) C dX7_wasteStatement_62 rfl ?_
          refine x_sipush (999 : Int32) C dX7_wasteStatement_63 rfl ?_
          obtain ⟨q21, hq22, hF⟩ := bnd_e hF
          refine x_goM (fun ls h => x_runV (As := [.int (0 : Int32), .int (999 : Int32)]) [] h C ml_X7_120 (k_X7_number l D cA s0 z b q18.2 _ hG (0 : Int32) (999 : Int32) q21 hq22) ⟨rfl, rfl, nb rfl, nb rfl⟩ rfl (C_Par hw) rfl ⟨rfl, hw⟩ (nb rfl) ⟨Nat.zero_le _, Nat.zero_le _⟩ dX7_wasteStatement_66) hS (xA_le hS) (fun H locs hw hz hk hS => ?_)
          have hw : WC D cA s0 z b q21.2 H := hw
          refine x_ifB_ne 74 C dX7_wasteStatement_69 (by decide) (fun c23 => ?_) (fun c23 => ?_)
          · have hF := ite_t hF c23
            refine x_aload_n C dX7_wasteStatement_74 rfl ?_
            refine x_aload_n C dX7_wasteStatement_75 rfl ?_
            refine x_get (.int (q21.2.1 661 5)) C fl_X7_124 (C_Par hw) rfl dX7_wasteStatement_76 ?_
            refine y_putI (kk0 := 8) a1 C fl_X7_153 hw (l2 (lt_Tar hpa1)) (fun nm => S_Tar hpa1) (fun nm => S_Tar hpa1) rfl rfl (fun _ => nb rfl) dX7_wasteStatement_79 hS (xA_in (l2 (lt_Tar hpa1))) (fun H locs hw hS => ?_)
            obtain ⟨μ24, hm25, hF⟩ := bnd_e hF
            have hw : WC D cA s0 z b μ24 H := rv_m (W := fun m => WC D cA s0 z b m _) hm25 hw
            refine x_aload_n C dX7_wasteStatement_82 rfl ?_
            refine x_ldcS (z := z) 435459551856 C hG.2.2.2 xl_X7_156 hw.2.2.2.1 dX7_wasteStatement_83 (fun ra26 hst27 => ?_)
            obtain ⟨q28, hq29, hF⟩ := bnd_e hF
            refine x_goM (fun ls h => x_runV (As := [.ref ra26]) [] h C ml_X7_129 (k_X7_word l D cA s0 z b μ24 _ hG ra26 435459551856 q28 hq29) ⟨rfl, rfl, nb rfl, nb rfl⟩ rfl (C_Par hw) rfl ⟨rfl, hw, hst27⟩ (nb rfl) ⟨Nat.zero_le _, Nat.zero_le _⟩ dX7_wasteStatement_85) hS (xA_le hS) (fun H locs hw hz hk hS => ?_)
            have hw : WC D cA s0 z b q28.2 H := hw
            refine x_ifB_eq 102 C dX7_wasteStatement_88 (by decide) (fun c30 => ?_) (fun c30 => ?_)
            · have hF := ite_f hF (nbt c30)
              refine x_iconst (0 : Int32) C dX7_wasteStatement_102 rfl ?_
              exact x_zretM2 C rfl dX7_wasteStatement_103 rfl (rm_b0 hF) (rm_m (W := fun m => WC D cA s0 z b m _) hF hw) hS (nb rfl) (nb rfl)
            · have hF := ite_t hF c30
              refine x_aload_n C dX7_wasteStatement_91 rfl ?_
              refine x_iconst (0 : Int32) C dX7_wasteStatement_92 rfl ?_
              refine x_sipush (999 : Int32) C dX7_wasteStatement_93 rfl ?_
              obtain ⟨q31, hq32, hF⟩ := bnd_e hF
              refine x_goM (fun ls h => x_runV (As := [.int (0 : Int32), .int (999 : Int32)]) [] h C ml_X7_120 (k_X7_number l D cA s0 z b q28.2 _ hG (0 : Int32) (999 : Int32) q31 hq32) ⟨rfl, rfl, nb rfl, nb rfl⟩ rfl (C_Par hw) rfl ⟨rfl, hw⟩ (nb rfl) ⟨Nat.zero_le _, Nat.zero_le _⟩ dX7_wasteStatement_96) hS (xA_le hS) (fun H locs hw hz hk hS => ?_)
              have hw : WC D cA s0 z b q31.2 H := hw
              refine x_ifB_ne 104 C dX7_wasteStatement_99 (by decide) (fun c33 => ?_) (fun c33 => ?_)
              · have hF := ite_t hF c33
                refine x_aload_n C dX7_wasteStatement_104 rfl ?_
                refine x_aload_n C dX7_wasteStatement_105 rfl ?_
                refine x_get (.int (q31.2.1 661 5)) C fl_X7_124 (C_Par hw) rfl dX7_wasteStatement_106 ?_
                refine y_putI (kk0 := 9) a1 C fl_X7_158 hw (l2 (lt_Tar hpa1)) (fun nm => S_Tar hpa1) (fun nm => S_Tar hpa1) rfl rfl (fun _ => nb rfl) dX7_wasteStatement_109 hS (xA_in (l2 (lt_Tar hpa1))) (fun H locs hw hS => ?_)
                obtain ⟨μ34, hm35, hF⟩ := bnd_e hF
                have hw : WC D cA s0 z b μ34 H := rv_m (W := fun m => WC D cA s0 z b m _) hm35 hw
                refine x_iconst (1 : Int32) C dX7_wasteStatement_112 rfl ?_
                exact x_zretM2 C rfl dX7_wasteStatement_113 rfl (rm_b1 hF) (rm_m (W := fun m => WC D cA s0 z b m _) hF hw) hS (nb rfl) (nb rfl)
              · have hF := ite_f hF (nbt c33)
                refine x_iconst (0 : Int32) C dX7_wasteStatement_102 rfl ?_
                exact x_zretM2 C rfl dX7_wasteStatement_103 rfl (rm_b0 hF) (rm_m (W := fun m => WC D cA s0 z b m _) hF hw) hS (nb rfl) (nb rfl)
          · have hF := ite_f hF (nbt c23)
            refine x_iconst (0 : Int32) C dX7_wasteStatement_72 rfl ?_
            exact x_zretM2 C rfl dX7_wasteStatement_73 rfl (rm_b0 hF) (rm_m (W := fun m => WC D cA s0 z b m _) hF hw) hS (nb rfl) (nb rfl)
      · have hF := ite_f hF (nbt c13)
        refine x_iconst (0 : Int32) C dX7_wasteStatement_42 rfl ?_
        exact x_zretM2 C rfl dX7_wasteStatement_43 rfl (rm_b0 hF) (rm_m (W := fun m => WC D cA s0 z b m _) hF hw) hS (nb rfl) (nb rfl)
  · have hF := ite_f hF c1
    refine x_aload_n C dX7_wasteStatement_7 rfl ?_
    refine x_iconst (3 : Int32) C dX7_wasteStatement_8 rfl ?_
    obtain ⟨q36, hq37, hF⟩ := bnd_e hF
    refine x_goM (fun ls h => x_runV (As := [.int (3 : Int32)]) [] h C ml_X7_50 (k_X7_fail l D cA s0 z b ν _ hG (3 : Int32) q36 hq37) ⟨rfl, rfl, nb rfl, nb rfl⟩ rfl (C_Par hw) rfl ⟨rfl, hw⟩ (nb rfl) ⟨Nat.zero_le _, Nat.zero_le _⟩ dX7_wasteStatement_9) hS (xA_le hS) (fun H locs hw hz hk hS => ?_)
    have hw : WC D cA s0 z b q36.2 H := hw
    exact x_zretM2 C rfl dX7_wasteStatement_12 (bI_nar _) (rm_b hF) (rm_m (W := fun m => WC D cA s0 z b m _) hF hw) hS (nb rfl) (nb rfl)
noncomputable def g_X7_layStatement (ν : Mm) (a1 : Nat) : Option (Bool × Mm) := asr (isTar a1) ((if (ν.1 661 8) = 0 then bnd (some (uI ν 661 8 (1 : Int32))) (fun μ2 => bnd (g_X7_readToken μ2) (fun q4 => bnd (g_X7_word q4 1701147238) (fun q8 => (if q8.1 = true then bnd (g_X7_number q8.2 (0 : Int32) (30 : Int32)) (fun q11 => (if q11.1 = true then bnd (some (uI q11.2 a1 10 (q11.2.1 661 5))) (fun μ14 => bnd (g_X7_word μ14 1702125938) (fun q18 => (if q18.1 = true then bnd (g_X7_number q18.2 (0 : Int32) (9999 : Int32)) (fun q21 => (if q21.1 = true then bnd (some (uI q21.2 a1 11 (q21.2.1 661 5))) (fun μ24 => some (true, μ24)) else some (false, q21.2))) else some (false, q18.2)))) else some (false, q11.2))) else some (false, q8.2))))) else bnd (g_X7_fail ν (3 : Int32)) (fun q26 => some (q26.1, q26.2))))
set_option maxRecDepth 20000 in
set_option maxHeartbeats 4000000 in
theorem k_X7_layStatement (l : Launch) (D : va_G) (cA : Nat → ClassId) (s0 : State) (z : Nat) (b : Nat) (ν : Mm) (sz : Nat) (hG : xG l D cA s0) (a1 : Nat) (r : Bool × Mm) (hF : g_X7_layStatement ν a1 = some r) : Met l yX7_layStatement (wsG yX7_layStatement cX7_layStatement 2 (some (FieldType.boolean))) { frames := 7, cells := 0, slots := 0, locals := 151 } (xP D cA s0 [.ref (b + 661), .ref (b + a1)] (fun H => H.size = sz ∧ WC D cA s0 z b ν H)) (xQm (some (.int (bI r.1))) (fun H => WC D cA s0 z b r.2 H) (xA b 2628 sz)) 0 0 (xA b 2628 sz) := by
  refine x_start (own := RX7) [(0, .ref (b + 661)), (1, .ref (b + a1))] rfl rfl (by decide) (nb rfl) ?_
  intro p e s m args below meth c C hw
  obtain ⟨hsz, hw⟩ := hw
  subst hsz
  have hS : va_S (xA b 2628 s.heap.size) s.heap s.heap [] := va_S.rf
  obtain ⟨hpa1, hF⟩ := asr_e hF
  refine x_aload_n C dX7_layStatement_0 rfl ?_
  refine x_get (.int (ν.1 661 8)) C fl_X7_35 (C_Par hw) rfl dX7_layStatement_1 ?_
  refine x_if_eq 13 C dX7_layStatement_4 (by decide) (fun c1 => ?_) (fun c1 => ?_)
  · have hF := ite_t hF c1
    refine x_aload_n C dX7_layStatement_13 rfl ?_
    refine x_iconst (1 : Int32) C dX7_layStatement_14 rfl ?_
    refine y_putZ (kk0 := 8) 661 C fl_X7_35 hw (by decide) (fun nm => S_Par) (fun nm => S_Par) rfl rfl rfl (fun _ => nb rfl) dX7_layStatement_15 hS (xA_in (by decide)) (fun H locs hw hS => ?_)
    obtain ⟨μ2, hm3, hF⟩ := bnd_e hF
    have hw : WC D cA s0 z b μ2 H := rv_m (W := fun m => WC D cA s0 z b m _) hm3 hw
    refine x_aload_n C dX7_layStatement_18 rfl ?_
    obtain ⟨q4, hq5, hF⟩ := bnd_e hF
    refine x_goM (fun ls h => x_runV (As := []) [] h C ml_X7_44 (k_X7_readToken l D cA s0 z b μ2 _ hG q4 hq5) ⟨rfl, rfl, nb rfl, nb rfl⟩ rfl (C_Par hw) rfl ⟨rfl, hw⟩ (nb rfl) ⟨Nat.zero_le _, Nat.zero_le _⟩ dX7_layStatement_19) hS (xA_le hS) (fun H locs hw hz hk hS => ?_)
    have hw : WC D cA s0 z b q4 H := hw
    refine x_aload_n C dX7_layStatement_22 rfl ?_
    refine x_ldcS (z := z) 1701147238 C hG.2.2.2 xl_X7_151 hw.2.2.2.1 dX7_layStatement_23 (fun ra6 hst7 => ?_)
    obtain ⟨q8, hq9, hF⟩ := bnd_e hF
    refine x_goM (fun ls h => x_runV (As := [.ref ra6]) [] h C ml_X7_129 (k_X7_word l D cA s0 z b q4 _ hG ra6 1701147238 q8 hq9) ⟨rfl, rfl, nb rfl, nb rfl⟩ rfl (C_Par hw) rfl ⟨rfl, hw, hst7⟩ (nb rfl) ⟨Nat.zero_le _, Nat.zero_le _⟩ dX7_layStatement_25) hS (xA_le hS) (fun H locs hw hz hk hS => ?_)
    have hw : WC D cA s0 z b q8.2 H := hw
    refine x_ifB_eq 41 C dX7_layStatement_28 (by decide) (fun c10 => ?_) (fun c10 => ?_)
    · have hF := ite_f hF (nbt c10)
      refine x_iconst (0 : Int32) C dX7_layStatement_41 rfl ?_
      exact x_zretM2 C rfl dX7_layStatement_42 rfl (rm_b0 hF) (rm_m (W := fun m => WC D cA s0 z b m _) hF hw) hS (nb rfl) (nb rfl)
    · have hF := ite_t hF c10
      refine x_aload_n C dX7_layStatement_31 rfl ?_
      refine x_iconst (0 : Int32) C dX7_layStatement_32 rfl ?_
      refine x_bipush (30 : Int32) C dX7_layStatement_33 rfl ?_
      obtain ⟨q11, hq12, hF⟩ := bnd_e hF
      refine x_goM (fun ls h => x_runV (As := [.int (0 : Int32), .int (30 : Int32)]) [] h C ml_X7_120 (k_X7_number l D cA s0 z b q8.2 _ hG (0 : Int32) (30 : Int32) q11 hq12) ⟨rfl, rfl, nb rfl, nb rfl⟩ rfl (C_Par hw) rfl ⟨rfl, hw⟩ (nb rfl) ⟨Nat.zero_le _, Nat.zero_le _⟩ dX7_layStatement_35) hS (xA_le hS) (fun H locs hw hz hk hS => ?_)
      have hw : WC D cA s0 z b q11.2 H := hw
      refine x_ifB_ne 43 C dX7_layStatement_38 (by decide) (fun c13 => ?_) (fun c13 => ?_)
      · have hF := ite_t hF c13
        refine x_aload_n C dX7_layStatement_43 rfl ?_
        refine x_aload_n C dX7_layStatement_44 rfl ?_
        refine x_get (.int (q11.2.1 661 5)) C fl_X7_124 (C_Par hw) rfl dX7_layStatement_45 ?_
        refine y_putI (kk0 := 10) a1 C fl_X7_161 hw (l2 (lt_Tar hpa1)) (fun nm => S_Tar hpa1) (fun nm => S_Tar hpa1) rfl rfl (fun _ => nb rfl) dX7_layStatement_48 hS (xA_in (l2 (lt_Tar hpa1))) (fun H locs hw hS => ?_)
        obtain ⟨μ14, hm15, hF⟩ := bnd_e hF
        have hw : WC D cA s0 z b μ14 H := rv_m (W := fun m => WC D cA s0 z b m _) hm15 hw
        refine x_aload_n C dX7_layStatement_51 rfl ?_
        refine x_ldcS (z := z) 1702125938 C hG.2.2.2 xl_X7_127 hw.2.2.2.1 dX7_layStatement_52 (fun ra16 hst17 => ?_)
        obtain ⟨q18, hq19, hF⟩ := bnd_e hF
        refine x_goM (fun ls h => x_runV (As := [.ref ra16]) [] h C ml_X7_129 (k_X7_word l D cA s0 z b μ14 _ hG ra16 1702125938 q18 hq19) ⟨rfl, rfl, nb rfl, nb rfl⟩ rfl (C_Par hw) rfl ⟨rfl, hw, hst17⟩ (nb rfl) ⟨Nat.zero_le _, Nat.zero_le _⟩ dX7_layStatement_54) hS (xA_le hS) (fun H locs hw hz hk hS => ?_)
        have hw : WC D cA s0 z b q18.2 H := hw
        refine x_ifB_eq 71 C dX7_layStatement_57 (by decide) (fun c20 => ?_) (fun c20 => ?_)
        · have hF := ite_f hF (nbt c20)
          refine x_iconst (0 : Int32) C dX7_layStatement_71 rfl ?_
          exact x_zretM2 C rfl dX7_layStatement_72 rfl (rm_b0 hF) (rm_m (W := fun m => WC D cA s0 z b m _) hF hw) hS (nb rfl) (nb rfl)
        · have hF := ite_t hF c20
          refine x_aload_n C dX7_layStatement_60 rfl ?_
          refine x_iconst (0 : Int32) C dX7_layStatement_61 rfl ?_
          refine x_sipush (9999 : Int32) C dX7_layStatement_62 rfl ?_
          obtain ⟨q21, hq22, hF⟩ := bnd_e hF
          refine x_goM (fun ls h => x_runV (As := [.int (0 : Int32), .int (9999 : Int32)]) [] h C ml_X7_120 (k_X7_number l D cA s0 z b q18.2 _ hG (0 : Int32) (9999 : Int32) q21 hq22) ⟨rfl, rfl, nb rfl, nb rfl⟩ rfl (C_Par hw) rfl ⟨rfl, hw⟩ (nb rfl) ⟨Nat.zero_le _, Nat.zero_le _⟩ dX7_layStatement_65) hS (xA_le hS) (fun H locs hw hz hk hS => ?_)
          have hw : WC D cA s0 z b q21.2 H := hw
          refine x_ifB_ne 73 C dX7_layStatement_68 (by decide) (fun c23 => ?_) (fun c23 => ?_)
          · have hF := ite_t hF c23
            refine x_aload_n C dX7_layStatement_73 rfl ?_
            refine x_aload_n C dX7_layStatement_74 rfl ?_
            refine x_get (.int (q21.2.1 661 5)) C fl_X7_124 (C_Par hw) rfl dX7_layStatement_75 ?_
            refine y_putI (kk0 := 11) a1 C fl_X7_164 hw (l2 (lt_Tar hpa1)) (fun nm => S_Tar hpa1) (fun nm => S_Tar hpa1) rfl rfl (fun _ => nb rfl) dX7_layStatement_78 hS (xA_in (l2 (lt_Tar hpa1))) (fun H locs hw hS => ?_)
            obtain ⟨μ24, hm25, hF⟩ := bnd_e hF
            have hw : WC D cA s0 z b μ24 H := rv_m (W := fun m => WC D cA s0 z b m _) hm25 hw
            refine x_iconst (1 : Int32) C dX7_layStatement_81 rfl ?_
            exact x_zretM2 C rfl dX7_layStatement_82 rfl (rm_b1 hF) (rm_m (W := fun m => WC D cA s0 z b m _) hF hw) hS (nb rfl) (nb rfl)
          · have hF := ite_f hF (nbt c23)
            refine x_iconst (0 : Int32) C dX7_layStatement_71 rfl ?_
            exact x_zretM2 C rfl dX7_layStatement_72 rfl (rm_b0 hF) (rm_m (W := fun m => WC D cA s0 z b m _) hF hw) hS (nb rfl) (nb rfl)
      · have hF := ite_f hF (nbt c13)
        refine x_iconst (0 : Int32) C dX7_layStatement_41 rfl ?_
        exact x_zretM2 C rfl dX7_layStatement_42 rfl (rm_b0 hF) (rm_m (W := fun m => WC D cA s0 z b m _) hF hw) hS (nb rfl) (nb rfl)
  · have hF := ite_f hF c1
    refine x_aload_n C dX7_layStatement_7 rfl ?_
    refine x_iconst (3 : Int32) C dX7_layStatement_8 rfl ?_
    obtain ⟨q26, hq27, hF⟩ := bnd_e hF
    refine x_goM (fun ls h => x_runV (As := [.int (3 : Int32)]) [] h C ml_X7_50 (k_X7_fail l D cA s0 z b ν _ hG (3 : Int32) q26 hq27) ⟨rfl, rfl, nb rfl, nb rfl⟩ rfl (C_Par hw) rfl ⟨rfl, hw⟩ (nb rfl) ⟨Nat.zero_le _, Nat.zero_le _⟩ dX7_layStatement_9) hS (xA_le hS) (fun H locs hw hz hk hS => ?_)
    have hw : WC D cA s0 z b q26.2 H := hw
    exact x_zretM2 C rfl dX7_layStatement_12 (bI_nar _) (rm_b hF) (rm_m (W := fun m => WC D cA s0 z b m _) hF hw) hS (nb rfl) (nb rfl)
