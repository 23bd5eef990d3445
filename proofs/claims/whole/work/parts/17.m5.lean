def f_X12_openOf_L65 (μ : Mm) (a1 : Int32) : Nat → Int64 → Int32 → Int32
  | 0, _, _ => 0
  | n + 1, x3, x5 => (if a1 ≤ x5 then (((imax (0 : Int32) (f_X12_netOf μ a1)).toInt64) - (lmin x3 ((imax (0 : Int32) (f_X12_netOf μ a1)).toInt64))).toInt32 else (if (f_X12_shipOf μ x5) = (f_X12_shipOf μ a1) then (f_X12_openOf_L65 μ a1 n (x3 - (lmin x3 ((imax (0 : Int32) (f_X12_netOf μ x5)).toInt64))) (x5 + (1 : Int32))) else (f_X12_openOf_L65 μ a1 n (x3 - (0 : Int64)) (x5 + (1 : Int32)))))
def f_X12_openOf_L16 (μ : Mm) (a1 : Int32) : Nat → Int64 → Int32 → Int32
  | 0, _, _ => 0
  | n + 1, x3, x5 => (if (μ.1 1 2) ≤ x5 then (f_X12_openOf_L65 μ a1 61 x3 (0 : Int32)) else (if (f_X12_shipOf μ x5) = (f_X12_shipOf μ a1) then (f_X12_openOf_L16 μ a1 n (x3 + ((imax (0 : Int32) (-(f_X12_netOf μ x5))).toInt64)) (x5 + (1 : Int32))) else (f_X12_openOf_L16 μ a1 n (x3 + (0 : Int64)) (x5 + (1 : Int32)))))
def f_X12_openOf (μ : Mm) (a1 : Int32) : Int32 := (f_X12_openOf_L16 μ a1 61 (μ.2.1 3 (cl (f_X12_shipOf μ a1))) (0 : Int32))
set_option maxRecDepth 20000 in
set_option maxHeartbeats 4000000 in
theorem c_X12_openOf (l : Launch) (D : va_G) (cA : Nat → ClassId) (s0 : State) (b : Nat) (μ : Mm) (hok : OkR (μ.1 1)) (a1 : Int32) (hv_a1 : vp_in a1 60) : Met l yX12_openOf (wsG yX12_openOf cX12_openOf 6 (some (FieldType.int))) { frames := 3, cells := 0, slots := 0, locals := 67 } (xP D cA s0 [.ref b, .int a1] (RM D cA b μ)) (xQr (some (.int (f_X12_openOf μ a1)))) 0 0 xN := by
  refine x_start (own := RX12) [(0, .ref b), (1, .int a1)] rfl rfl (by decide) (nb rfl) ?_
  intro p e s m args below meth c C hw
  obtain ⟨F, hF⟩ : ∃ z, z = (f_X12_openOf μ a1) := ⟨_, rfl⟩
  rw [← hF]
  obtain ⟨hn_a1, hl_a1⟩ := vpn hv_a1 (by decide)
  have hL65 : ∀ (n : Nat) (x3 : Int64) (x5 : Int32) (hnx5 : x5 = nI (cl x5)) (hbx5 : cl x5 ≤ 60) (hmx5 : 60 < cl x5 + n), F = f_X12_openOf_L65 μ a1 n x3 x5 → xW p l e { frames := 3, cells := 0, slots := 0, locals := 67 } s m args below meth c 6 (MQ below (xQr (some (.int F))) args s 0 0 xN) s.heap [] 0 0 65 [(0, .ref b), (1, .int a1), (2, .int (f_X12_shipOf μ a1)), (3, .long x3), (5, .int x5)] [] := by
    intro n
    induction n with
    | zero =>
      intro x3 x5 hnx5 hbx5 hmx5 hF
      exact False.elim (by omega)
    | succ n ih =>
      intro x3 x5 hnx5 hbx5 hmx5 hF
      have ih65 := ih
      refine x_iload C dX12_openOf_65 rfl ?_
      refine x_iload_n C dX12_openOf_67 rfl ?_
      refine x_icmp_ge 109 C dX12_openOf_68 (by decide) (fun c7 => ?_) (fun c7 => ?_)
      · have hF := hF.trans (if_pos c7)
        have q8 := (nleI hn_a1 hnx5 (by omega) (by omega)).mp c7
        refine x_iconst (0 : Int32) C dX12_openOf_109 rfl ?_
        refine x_aload_n C dX12_openOf_110 rfl ?_
        refine x_iload_n C dX12_openOf_111 rfl ?_
        refine x_goR (fun ls h => x_runV (As := [.int a1]) [.int (0 : Int32)] h C ml_X12_371 (c_X12_netOf l D cA s0 b μ hok a1 (ixin hn_a1 (by omega) (by decide))) ⟨rfl, rfl, nb rfl, nb rfl⟩ rfl (M_obj hw) rfl hw (nb rfl) ⟨Nat.zero_le _, Nat.zero_le _⟩ dX12_openOf_112) ?_
        refine x_mmax C ml_X12_234 (nb rfl) (nb rfl) ⟨Nat.zero_le _, Nat.zero_le _⟩ dX12_openOf_115 ?_
        refine x_istore [(5, .int (imax (0 : Int32) (f_X12_netOf μ a1))), (0, .ref b), (1, .int a1), (2, .int (f_X12_shipOf μ a1)), (3, .long x3)] C dX12_openOf_118 (by decide) rfl ?_
        refine x_iload C dX12_openOf_120 rfl ?_
        refine x_i2l C dX12_openOf_122 ?_
        refine x_lload_n C dX12_openOf_123 rfl ?_
        refine x_iload C dX12_openOf_124 rfl ?_
        refine x_i2l C dX12_openOf_126 ?_
        refine x_mminL C ml_X12_374 (nb rfl) (nb rfl) ⟨Nat.zero_le _, Nat.zero_le _⟩ dX12_openOf_127 ?_
        refine x_lsub C dX12_openOf_130 ?_
        refine x_l2i C dX12_openOf_131 ?_
        exact x_iretR C rfl dX12_openOf_132 (e_i hF)
      · have hF := hF.trans (if_neg c7)
        have q8 := mt (nleI hn_a1 hnx5 (by omega) (by omega)).mpr c7
        refine x_lload_n C dX12_openOf_71 rfl ?_
        refine x_aload_n C dX12_openOf_72 rfl ?_
        refine x_iload C dX12_openOf_73 rfl ?_
        refine x_goR (fun ls h => x_runV (As := [.int x5]) [.long x3] h C ml_X12_368 (c_X12_shipOf l D cA s0 b μ hok x5 (ixin hnx5 (by omega) (by decide))) ⟨rfl, rfl, nb rfl, nb rfl⟩ rfl (M_obj hw) rfl hw (nb rfl) ⟨Nat.zero_le _, Nat.zero_le _⟩ dX12_openOf_75) ?_
        obtain ⟨hn9, hl10⟩ := vpn (f_shipOf_in hok (ixin hnx5 (by omega) (by decide))) (by decide)
        refine x_iload_n C dX12_openOf_78 rfl ?_
        refine x_icmp_ne 100 C dX12_openOf_79 (by decide) (fun c11 => ?_) (fun c11 => ?_)
        · have hF := hF.trans (if_neg c11)
          refine x_lconst (0 : Int64) C dX12_openOf_100 rfl ?_
          refine x_lsub C dX12_openOf_101 ?_
          refine x_lstore_n [(3, .long (x3 - (0 : Int64))), (0, .ref b), (1, .int a1), (2, .int (f_X12_shipOf μ a1)), (5, .int x5)] C dX12_openOf_102 rfl (by decide) rfl ?_
          refine x_iinc (x5 + (1 : Int32)) [(5, .int (x5 + (1 : Int32))), (3, .long (x3 - (0 : Int64))), (0, .ref b), (1, .int a1), (2, .int (f_X12_shipOf μ a1))] C dX12_openOf_103 rfl rfl (by decide) rfl ?_
          refine x_goto 65 C dX12_openOf_106 (by decide) ?_
          refine x_sub [(0, .ref b), (1, .int a1), (2, .int (f_X12_shipOf μ a1)), (3, .long (x3 - (0 : Int64))), (5, .int (x5 + (1 : Int32)))] [2, 3, 4, 1, 0] rfl ?_
          exact ih65 (x3 - (0 : Int64)) (x5 + (1 : Int32)) (natS (ixa hnx5 (ixl (x := (1 : Int32)) 1 rfl)) (by omega)).1 (by rw [(natS (ixa hnx5 (ixl (x := (1 : Int32)) 1 rfl)) (by omega)).2]; omega) (by rw [(natS (ixa hnx5 (ixl (x := (1 : Int32)) 1 rfl)) (by omega)).2]; omega)  hF
        · have hF := hF.trans (if_pos c11)
          refine x_lload_n C dX12_openOf_82 rfl ?_
          refine x_iconst (0 : Int32) C dX12_openOf_83 rfl ?_
          refine x_aload_n C dX12_openOf_84 rfl ?_
          refine x_iload C dX12_openOf_85 rfl ?_
          refine x_goR (fun ls h => x_runV (As := [.int x5]) [.int (0 : Int32), .long x3, .long x3] h C ml_X12_371 (c_X12_netOf l D cA s0 b μ hok x5 (ixin hnx5 (by omega) (by decide))) ⟨rfl, rfl, nb rfl, nb rfl⟩ rfl (M_obj hw) rfl hw (nb rfl) ⟨Nat.zero_le _, Nat.zero_le _⟩ dX12_openOf_87) ?_
          refine x_mmax C ml_X12_234 (nb rfl) (nb rfl) ⟨Nat.zero_le _, Nat.zero_le _⟩ dX12_openOf_90 ?_
          refine x_i2l C dX12_openOf_93 ?_
          refine x_mminL C ml_X12_374 (nb rfl) (nb rfl) ⟨Nat.zero_le _, Nat.zero_le _⟩ dX12_openOf_94 ?_
          refine x_goto 101 C dX12_openOf_97 (by decide) ?_
          refine x_lsub C dX12_openOf_101 ?_
          refine x_lstore_n [(3, .long (x3 - (lmin x3 ((imax (0 : Int32) (f_X12_netOf μ x5)).toInt64)))), (0, .ref b), (1, .int a1), (2, .int (f_X12_shipOf μ a1)), (5, .int x5)] C dX12_openOf_102 rfl (by decide) rfl ?_
          refine x_iinc (x5 + (1 : Int32)) [(5, .int (x5 + (1 : Int32))), (3, .long (x3 - (lmin x3 ((imax (0 : Int32) (f_X12_netOf μ x5)).toInt64)))), (0, .ref b), (1, .int a1), (2, .int (f_X12_shipOf μ a1))] C dX12_openOf_103 rfl rfl (by decide) rfl ?_
          refine x_goto 65 C dX12_openOf_106 (by decide) ?_
          refine x_sub [(0, .ref b), (1, .int a1), (2, .int (f_X12_shipOf μ a1)), (3, .long (x3 - (lmin x3 ((imax (0 : Int32) (f_X12_netOf μ x5)).toInt64)))), (5, .int (x5 + (1 : Int32)))] [2, 3, 4, 1, 0] rfl ?_
          exact ih65 (x3 - (lmin x3 ((imax (0 : Int32) (f_X12_netOf μ x5)).toInt64))) (x5 + (1 : Int32)) (natS (ixa hnx5 (ixl (x := (1 : Int32)) 1 rfl)) (by omega)).1 (by rw [(natS (ixa hnx5 (ixl (x := (1 : Int32)) 1 rfl)) (by omega)).2]; omega) (by rw [(natS (ixa hnx5 (ixl (x := (1 : Int32)) 1 rfl)) (by omega)).2]; omega)  hF
  have hL16 : ∀ (n : Nat) (x3 : Int64) (x5 : Int32) (hnx5 : x5 = nI (cl x5)) (hbx5 : cl x5 ≤ 60) (hmx5 : 60 < cl x5 + n), F = f_X12_openOf_L16 μ a1 n x3 x5 → xW p l e { frames := 3, cells := 0, slots := 0, locals := 67 } s m args below meth c 6 (MQ below (xQr (some (.int F))) args s 0 0 xN) s.heap [] 0 0 16 [(0, .ref b), (1, .int a1), (2, .int (f_X12_shipOf μ a1)), (3, .long x3), (5, .int x5)] [] := by
    intro n
    induction n with
    | zero =>
      intro x3 x5 hnx5 hbx5 hmx5 hF
      exact False.elim (by omega)
    | succ n ih =>
      intro x3 x5 hnx5 hbx5 hmx5 hF
      have ih16 := ih
      refine x_iload C dX12_openOf_16 rfl ?_
      refine x_aload_n C dX12_openOf_18 rfl ?_
      refine x_get (.ref (b + 1)) C fl_X12_17 (M_obj hw) rfl dX12_openOf_19 ?_
      refine x_iconst (2 : Int32) C dX12_openOf_22 rfl ?_
      refine x_ialdN C (M_a1 hw) (ixl (x := (2 : Int32)) 2 rfl) (by omega) (by decide) dX12_openOf_23 ?_
      obtain ⟨hn3, hl4⟩ := vpn (OkR_2 hok) (by decide)
      refine x_icmp_ge 62 C dX12_openOf_24 (by decide) (fun c5 => ?_) (fun c5 => ?_)
      · have hF := hF.trans (if_pos c5)
        have q6 := (nleI hn3 hnx5 (by omega) (by omega)).mp c5
        refine x_iconst (0 : Int32) C dX12_openOf_62 rfl ?_
        refine x_istore [(5, .int (0 : Int32)), (0, .ref b), (1, .int a1), (2, .int (f_X12_shipOf μ a1)), (3, .long x3)] C dX12_openOf_63 (by decide) rfl ?_
        refine x_sub [(0, .ref b), (1, .int a1), (2, .int (f_X12_shipOf μ a1)), (3, .long x3), (5, .int (0 : Int32))] [1, 2, 3, 4, 0] rfl ?_
        exact hL65 61 x3 (0 : Int32) (natS (ixl (x := (0 : Int32)) 0 rfl) (by omega)).1 (by rw [(natS (ixl (x := (0 : Int32)) 0 rfl) (by omega)).2]; omega) (by rw [(natS (ixl (x := (0 : Int32)) 0 rfl) (by omega)).2]; omega)  hF
      · have hF := hF.trans (if_neg c5)
        have q6 := mt (nleI hn3 hnx5 (by omega) (by omega)).mpr c5
        refine x_lload_n C dX12_openOf_27 rfl ?_
        refine x_aload_n C dX12_openOf_28 rfl ?_
        refine x_iload C dX12_openOf_29 rfl ?_
        refine x_goR (fun ls h => x_runV (As := [.int x5]) [.long x3] h C ml_X12_368 (c_X12_shipOf l D cA s0 b μ hok x5 (ixin hnx5 (by omega) (by decide))) ⟨rfl, rfl, nb rfl, nb rfl⟩ rfl (M_obj hw) rfl hw (nb rfl) ⟨Nat.zero_le _, Nat.zero_le _⟩ dX12_openOf_31) ?_
        obtain ⟨hn12, hl13⟩ := vpn (f_shipOf_in hok (ixin hnx5 (by omega) (by decide))) (by decide)
        refine x_iload_n C dX12_openOf_34 rfl ?_
        refine x_icmp_ne 53 C dX12_openOf_35 (by decide) (fun c14 => ?_) (fun c14 => ?_)
        · have hF := hF.trans (if_neg c14)
          refine x_lconst (0 : Int64) C dX12_openOf_53 rfl ?_
          refine x_ladd C dX12_openOf_54 ?_
          refine x_lstore_n [(3, .long (x3 + (0 : Int64))), (0, .ref b), (1, .int a1), (2, .int (f_X12_shipOf μ a1)), (5, .int x5)] C dX12_openOf_55 rfl (by decide) rfl ?_
          refine x_iinc (x5 + (1 : Int32)) [(5, .int (x5 + (1 : Int32))), (3, .long (x3 + (0 : Int64))), (0, .ref b), (1, .int a1), (2, .int (f_X12_shipOf μ a1))] C dX12_openOf_56 rfl rfl (by decide) rfl ?_
          refine x_goto 16 C dX12_openOf_59 (by decide) ?_
          refine x_sub [(0, .ref b), (1, .int a1), (2, .int (f_X12_shipOf μ a1)), (3, .long (x3 + (0 : Int64))), (5, .int (x5 + (1 : Int32)))] [2, 3, 4, 1, 0] rfl ?_
          exact ih16 (x3 + (0 : Int64)) (x5 + (1 : Int32)) (natS (ixa hnx5 (ixl (x := (1 : Int32)) 1 rfl)) (by omega)).1 (by rw [(natS (ixa hnx5 (ixl (x := (1 : Int32)) 1 rfl)) (by omega)).2]; omega) (by rw [(natS (ixa hnx5 (ixl (x := (1 : Int32)) 1 rfl)) (by omega)).2]; omega)  hF
        · have hF := hF.trans (if_pos c14)
          refine x_iconst (0 : Int32) C dX12_openOf_38 rfl ?_
          refine x_aload_n C dX12_openOf_39 rfl ?_
          refine x_iload C dX12_openOf_40 rfl ?_
          refine x_goR (fun ls h => x_runV (As := [.int x5]) [.int (0 : Int32), .long x3] h C ml_X12_371 (c_X12_netOf l D cA s0 b μ hok x5 (ixin hnx5 (by omega) (by decide))) ⟨rfl, rfl, nb rfl, nb rfl⟩ rfl (M_obj hw) rfl hw (nb rfl) ⟨Nat.zero_le _, Nat.zero_le _⟩ dX12_openOf_42) ?_
          refine x_ineg C dX12_openOf_45 ?_
          refine x_mmax C ml_X12_234 (nb rfl) (nb rfl) ⟨Nat.zero_le _, Nat.zero_le _⟩ dX12_openOf_46 ?_
          refine x_i2l C dX12_openOf_49 ?_
          refine x_goto 54 C dX12_openOf_50 (by decide) ?_
          refine x_ladd C dX12_openOf_54 ?_
          refine x_lstore_n [(3, .long (x3 + ((imax (0 : Int32) (-(f_X12_netOf μ x5))).toInt64))), (0, .ref b), (1, .int a1), (2, .int (f_X12_shipOf μ a1)), (5, .int x5)] C dX12_openOf_55 rfl (by decide) rfl ?_
          refine x_iinc (x5 + (1 : Int32)) [(5, .int (x5 + (1 : Int32))), (3, .long (x3 + ((imax (0 : Int32) (-(f_X12_netOf μ x5))).toInt64))), (0, .ref b), (1, .int a1), (2, .int (f_X12_shipOf μ a1))] C dX12_openOf_56 rfl rfl (by decide) rfl ?_
          refine x_goto 16 C dX12_openOf_59 (by decide) ?_
          refine x_sub [(0, .ref b), (1, .int a1), (2, .int (f_X12_shipOf μ a1)), (3, .long (x3 + ((imax (0 : Int32) (-(f_X12_netOf μ x5))).toInt64))), (5, .int (x5 + (1 : Int32)))] [2, 3, 4, 1, 0] rfl ?_
          exact ih16 (x3 + ((imax (0 : Int32) (-(f_X12_netOf μ x5))).toInt64)) (x5 + (1 : Int32)) (natS (ixa hnx5 (ixl (x := (1 : Int32)) 1 rfl)) (by omega)).1 (by rw [(natS (ixa hnx5 (ixl (x := (1 : Int32)) 1 rfl)) (by omega)).2]; omega) (by rw [(natS (ixa hnx5 (ixl (x := (1 : Int32)) 1 rfl)) (by omega)).2]; omega)  hF
  refine x_aload_n C dX12_openOf_0 rfl ?_
  refine x_iload_n C dX12_openOf_1 rfl ?_
  refine x_goR (fun ls h => x_runV (As := [.int a1]) [] h C ml_X12_368 (c_X12_shipOf l D cA s0 b μ hok a1 (ixin hn_a1 (by omega) (by decide))) ⟨rfl, rfl, nb rfl, nb rfl⟩ rfl (M_obj hw) rfl hw (nb rfl) ⟨Nat.zero_le _, Nat.zero_le _⟩ dX12_openOf_2) ?_
  obtain ⟨hn1, hl2⟩ := vpn (f_shipOf_in hok (ixin hn_a1 (by omega) (by decide))) (by decide)
  refine x_istore_n [(2, .int (f_X12_shipOf μ a1)), (0, .ref b), (1, .int a1)] C dX12_openOf_5 rfl (by decide) rfl ?_
  refine x_aload_n C dX12_openOf_6 rfl ?_
  refine x_get (.ref (b + 3)) C fl_X12_27 (M_obj hw) rfl dX12_openOf_7 ?_
  refine x_iload_n C dX12_openOf_10 rfl ?_
  refine x_laldN C (M_a3 hw) hn1 (by omega) (by decide) dX12_openOf_11 ?_
  refine x_lstore_n [(3, .long (μ.2.1 3 (cl (f_X12_shipOf μ a1)))), (2, .int (f_X12_shipOf μ a1)), (0, .ref b), (1, .int a1)] C dX12_openOf_12 rfl (by decide) rfl ?_
  refine x_iconst (0 : Int32) C dX12_openOf_13 rfl ?_
  refine x_istore [(5, .int (0 : Int32)), (3, .long (μ.2.1 3 (cl (f_X12_shipOf μ a1)))), (2, .int (f_X12_shipOf μ a1)), (0, .ref b), (1, .int a1)] C dX12_openOf_14 (by decide) rfl ?_
  refine x_sub [(0, .ref b), (1, .int a1), (2, .int (f_X12_shipOf μ a1)), (3, .long (μ.2.1 3 (cl (f_X12_shipOf μ a1)))), (5, .int (0 : Int32))] [3, 4, 2, 1, 0] rfl ?_
  exact hL16 61 (μ.2.1 3 (cl (f_X12_shipOf μ a1))) (0 : Int32) (natS (ixl (x := (0 : Int32)) 0 rfl) (by omega)).1 (by rw [(natS (ixl (x := (0 : Int32)) 0 rfl) (by omega)).2]; omega) (by rw [(natS (ixl (x := (0 : Int32)) 0 rfl) (by omega)).2]; omega)  hF
def f_X12_rebuiltOf (μ : Mm) (a1 : Int32) (a2 : Int32) : Int32 := (if f_X12_has (f_X12_livingLines μ a1) a2 then (if a2 = (3 : Int32) then f_X12_layOf μ ((f_X12_ofInvoice μ a1 (5 : Int32)) &&& ((f_X12_contestedSet μ (f_X12_ofInvoice μ a1 (0 : Int32))) ^^^ (-1 : Int32))) (f_X12_ofInvoice μ a1 (2 : Int32)) else f_X12_callLine μ (f_X12_ofInvoice μ a1 (0 : Int32)) a2 (f_X12_ofInvoice μ a1 (2 : Int32))) else (0 : Int32))
set_option maxRecDepth 20000 in
set_option maxHeartbeats 4000000 in
theorem c_X12_rebuiltOf (l : Launch) (D : va_G) (cA : Nat → ClassId) (s0 : State) (b : Nat) (μ : Mm) (hok : OkR (μ.1 1)) (a1 : Int32) (a2 : Int32) (hv_a1 : vp_in a1 60) : Met l yX12_rebuiltOf (wsG yX12_rebuiltOf cX12_rebuiltOf 5 (some (FieldType.int))) { frames := 5, cells := 0, slots := 0, locals := 117 } (xP D cA s0 [.ref b, .int a1, .int a2] (RM D cA b μ)) (xQr (some (.int (f_X12_rebuiltOf μ a1 a2)))) 0 0 xN := by
  refine x_start (own := RX12) [(0, .ref b), (1, .int a1), (2, .int a2)] rfl rfl (by decide) (nb rfl) ?_
  intro p e s m args below meth c C hw
  obtain ⟨F, hF⟩ : ∃ z, z = (f_X12_rebuiltOf μ a1 a2) := ⟨_, rfl⟩
  rw [← hF]
  obtain ⟨hn_a1, hl_a1⟩ := vpn hv_a1 (by decide)
  refine x_aload_n C dX12_rebuiltOf_0 rfl ?_
  refine x_iload_n C dX12_rebuiltOf_1 rfl ?_
  refine x_goR (fun ls h => x_runV (As := [.int a1]) [] h C ml_X12_362 (c_X12_livingLines l D cA s0 b μ a1 (ixin hn_a1 (by omega) (by decide))) ⟨rfl, rfl, nb rfl, nb rfl⟩ rfl (M_obj hw) rfl hw (nb rfl) ⟨Nat.zero_le _, Nat.zero_le _⟩ dX12_rebuiltOf_2) ?_
  refine x_iload_n C dX12_rebuiltOf_5 rfl ?_
  refine x_goR (fun ls h => x_runS (As := [.int (f_X12_livingLines μ a1), .int a2]) [] h C ml_X12_308 (c_X12_has l D cA s0 (f_X12_livingLines μ a1) a2 ) ⟨rfl, rfl, nb rfl, nb rfl⟩ rfl trivial (nb rfl) ⟨Nat.zero_le _, Nat.zero_le _⟩ dX12_rebuiltOf_6) ?_
  refine x_ifB_ne 14 C dX12_rebuiltOf_9 (by decide) (fun c1 => ?_) (fun c1 => ?_)
  · have hF := hF.trans (if_pos c1)
    refine x_aload_n C dX12_rebuiltOf_14 rfl ?_
    refine x_iload_n C dX12_rebuiltOf_15 rfl ?_
    refine x_iconst (0 : Int32) C dX12_rebuiltOf_16 rfl ?_
    refine x_goR (fun ls h => x_runV (As := [.int a1, .int (0 : Int32)]) [] h C ml_X12_305 (c_X12_ofInvoice l D cA s0 b μ a1 (0 : Int32) (ixin hn_a1 (by omega) (by decide)) (ixin (ixl (x := (0 : Int32)) 0 rfl) (by omega) (by decide))) ⟨rfl, rfl, nb rfl, nb rfl⟩ rfl (M_obj hw) rfl hw (nb rfl) ⟨Nat.zero_le _, Nat.zero_le _⟩ dX12_rebuiltOf_17) ?_
    obtain ⟨hn2, hl3⟩ := vpn (f_ofInvoice_call hok (ixin hn_a1 (by omega) (by decide))) (by decide)
    refine x_istore_n [(3, .int (f_X12_ofInvoice μ a1 (0 : Int32))), (0, .ref b), (1, .int a1), (2, .int a2)] C dX12_rebuiltOf_20 rfl (by decide) rfl ?_
    refine x_aload_n C dX12_rebuiltOf_21 rfl ?_
    refine x_iload_n C dX12_rebuiltOf_22 rfl ?_
    refine x_iconst (2 : Int32) C dX12_rebuiltOf_23 rfl ?_
    refine x_goR (fun ls h => x_runV (As := [.int a1, .int (2 : Int32)]) [] h C ml_X12_305 (c_X12_ofInvoice l D cA s0 b μ a1 (2 : Int32) (ixin hn_a1 (by omega) (by decide)) (ixin (ixl (x := (2 : Int32)) 2 rfl) (by omega) (by decide))) ⟨rfl, rfl, nb rfl, nb rfl⟩ rfl (M_obj hw) rfl hw (nb rfl) ⟨Nat.zero_le _, Nat.zero_le _⟩ dX12_rebuiltOf_24) ?_
    obtain ⟨hn4, hl5⟩ := vpn (f_ofInvoice_version hok (ixin hn_a1 (by omega) (by decide))) (by decide)
    refine x_istore [(4, .int (f_X12_ofInvoice μ a1 (2 : Int32))), (3, .int (f_X12_ofInvoice μ a1 (0 : Int32))), (0, .ref b), (1, .int a1), (2, .int a2)] C dX12_rebuiltOf_27 (by decide) rfl ?_
    refine x_iload_n C dX12_rebuiltOf_29 rfl ?_
    refine x_iconst (3 : Int32) C dX12_rebuiltOf_30 rfl ?_
    refine x_icmp_ne 57 C dX12_rebuiltOf_31 (by decide) (fun c6 => ?_) (fun c6 => ?_)
    · have hF := hF.trans (if_neg c6)
      refine x_aload_n C dX12_rebuiltOf_57 rfl ?_
      refine x_iload_n C dX12_rebuiltOf_58 rfl ?_
      refine x_iload_n C dX12_rebuiltOf_59 rfl ?_
      refine x_iload C dX12_rebuiltOf_60 rfl ?_
      refine x_goR (fun ls h => x_runV (As := [.int (f_X12_ofInvoice μ a1 (0 : Int32)), .int a2, .int (f_X12_ofInvoice μ a1 (2 : Int32))]) [] h C ml_X12_333 (c_X12_callLine l D cA s0 b μ hok (f_X12_ofInvoice μ a1 (0 : Int32)) a2 (f_X12_ofInvoice μ a1 (2 : Int32)) (ixin hn2 (by omega) (by decide)) (ixin hn4 (by omega) (by decide))) ⟨rfl, rfl, nb rfl, nb rfl⟩ rfl (M_obj hw) rfl hw (nb rfl) ⟨Nat.zero_le _, Nat.zero_le _⟩ dX12_rebuiltOf_62) ?_
      exact x_iretR C rfl dX12_rebuiltOf_65 (e_i hF)
    · have hF := hF.trans (if_pos c6)
      refine x_aload_n C dX12_rebuiltOf_34 rfl ?_
      refine x_aload_n C dX12_rebuiltOf_35 rfl ?_
      refine x_iload_n C dX12_rebuiltOf_36 rfl ?_
      refine x_iconst (5 : Int32) C dX12_rebuiltOf_37 rfl ?_
      refine x_goR (fun ls h => x_runV (As := [.int a1, .int (5 : Int32)]) [.ref b] h C ml_X12_305 (c_X12_ofInvoice l D cA s0 b μ a1 (5 : Int32) (ixin hn_a1 (by omega) (by decide)) (ixin (ixl (x := (5 : Int32)) 5 rfl) (by omega) (by decide))) ⟨rfl, rfl, nb rfl, nb rfl⟩ rfl (M_obj hw) rfl hw (nb rfl) ⟨Nat.zero_le _, Nat.zero_le _⟩ dX12_rebuiltOf_38) ?_
      refine x_aload_n C dX12_rebuiltOf_41 rfl ?_
      refine x_iload_n C dX12_rebuiltOf_42 rfl ?_
      refine x_goR (fun ls h => x_runV (As := [.int (f_X12_ofInvoice μ a1 (0 : Int32))]) [.int (f_X12_ofInvoice μ a1 (5 : Int32)), .ref b] h C ml_X12_317 (c_X12_contestedSet l D cA s0 b μ (f_X12_ofInvoice μ a1 (0 : Int32)) (ixin hn2 (by omega) (by decide))) ⟨rfl, rfl, nb rfl, nb rfl⟩ rfl (M_obj hw) rfl hw (nb rfl) ⟨Nat.zero_le _, Nat.zero_le _⟩ dX12_rebuiltOf_43) ?_
      refine x_iconst (-1 : Int32) C dX12_rebuiltOf_46 rfl ?_
      refine x_ixor C dX12_rebuiltOf_47 ?_
      refine x_iand C dX12_rebuiltOf_48 ?_
      refine x_iload C dX12_rebuiltOf_49 rfl ?_
      refine x_goR (fun ls h => x_runV (As := [.int ((f_X12_ofInvoice μ a1 (5 : Int32)) &&& ((f_X12_contestedSet μ (f_X12_ofInvoice μ a1 (0 : Int32))) ^^^ (-1 : Int32))), .int (f_X12_ofInvoice μ a1 (2 : Int32))]) [] h C ml_X12_330 (c_X12_layOf l D cA s0 b μ ((f_X12_ofInvoice μ a1 (5 : Int32)) &&& ((f_X12_contestedSet μ (f_X12_ofInvoice μ a1 (0 : Int32))) ^^^ (-1 : Int32))) (f_X12_ofInvoice μ a1 (2 : Int32)) (ixin hn4 (by omega) (by decide))) ⟨rfl, rfl, nb rfl, nb rfl⟩ rfl (M_obj hw) rfl hw (nb rfl) ⟨Nat.zero_le _, Nat.zero_le _⟩ dX12_rebuiltOf_51) ?_
      refine x_goto 65 C dX12_rebuiltOf_54 (by decide) ?_
      exact x_iretR C rfl dX12_rebuiltOf_65 (e_i hF)
  · have hF := hF.trans (if_neg (nbt c1))
    refine x_iconst (0 : Int32) C dX12_rebuiltOf_12 rfl ?_
    exact x_iretR C rfl dX12_rebuiltOf_13 (e_i hF)
def f_X12_isOld_L4 (μ : Mm) (a1 : Int32) : Nat → Bool → Int32 → Bool
  | 0, _, _ => false
  | n + 1, x2, x3 => (if (4 : Int32) ≤ x3 then x2 else (if x2 then (f_X12_isOld_L4 μ a1 n true (x3 + (1 : Int32))) else (if f_X12_has (f_X12_livingLines μ a1) x3 then (if (f_X12_lineIn μ a1 x3) = (f_X12_rebuiltOf μ a1 x3) then (f_X12_isOld_L4 μ a1 n false (x3 + (1 : Int32))) else (f_X12_isOld_L4 μ a1 n true (x3 + (1 : Int32)))) else (f_X12_isOld_L4 μ a1 n false (x3 + (1 : Int32))))))
def f_X12_isOld (μ : Mm) (a1 : Int32) : Bool := (f_X12_isOld_L4 μ a1 5 false (0 : Int32))
set_option maxRecDepth 20000 in
set_option maxHeartbeats 4000000 in
theorem c_X12_isOld (l : Launch) (D : va_G) (cA : Nat → ClassId) (s0 : State) (b : Nat) (μ : Mm) (hok : OkR (μ.1 1)) (a1 : Int32) (hv_a1 : vp_in a1 60) : Met l yX12_isOld (wsG yX12_isOld cX12_isOld 4 (some (FieldType.boolean))) { frames := 6, cells := 0, slots := 0, locals := 141 } (xP D cA s0 [.ref b, .int a1] (RM D cA b μ)) (xQr (some (.int (bI (f_X12_isOld μ a1))))) 0 0 xN := by
  refine x_start (own := RX12) [(0, .ref b), (1, .int a1)] rfl rfl (by decide) (nb rfl) ?_
  intro p e s m args below meth c C hw
  obtain ⟨F, hF⟩ : ∃ z, z = (f_X12_isOld μ a1) := ⟨_, rfl⟩
  rw [← hF]
  obtain ⟨hn_a1, hl_a1⟩ := vpn hv_a1 (by decide)
  have hL4 : ∀ (n : Nat) (x2 : Bool) (x3 : Int32) (hnx3 : x3 = nI (cl x3)) (hbx3 : cl x3 ≤ 4) (hmx3 : 4 < cl x3 + n), F = f_X12_isOld_L4 μ a1 n x2 x3 → xW p l e { frames := 6, cells := 0, slots := 0, locals := 141 } s m args below meth c 4 (MQ below (xQr (some (.int (bI F)))) args s 0 0 xN) s.heap [] 0 0 4 [(0, .ref b), (1, .int a1), (2, .int (bI x2)), (3, .int x3)] [] := by
    intro n
    induction n with
    | zero =>
      intro x2 x3 hnx3 hbx3 hmx3 hF
      exact False.elim (by omega)
    | succ n ih =>
      intro x2 x3 hnx3 hbx3 hmx3 hF
      have ih4 := ih
      refine x_iload_n C dX12_isOld_4 rfl ?_
      refine x_iconst (4 : Int32) C dX12_isOld_5 rfl ?_
      refine x_icmp_ge 52 C dX12_isOld_6 (by decide) (fun c1 => ?_) (fun c1 => ?_)
      · have hF := hF.trans (if_pos c1)
        have q2 := (nleI (ixl (x := (4 : Int32)) 4 rfl) hnx3 (by omega) (by omega)).mp c1
        refine x_iload_n C dX12_isOld_52 rfl ?_
        exact x_zretR C rfl dX12_isOld_53 (bI_nar _) (e_b hF)
      · have hF := hF.trans (if_neg c1)
        have q2 := mt (nleI (ixl (x := (4 : Int32)) 4 rfl) hnx3 (by omega) (by omega)).mpr c1
        refine x_iload_n C dX12_isOld_9 rfl ?_
        refine x_ifB_ne 40 C dX12_isOld_10 (by decide) (fun c3 => ?_) (fun c3 => ?_)
        · have hF := hF.trans (if_pos c3)
          refine x_iconst (1 : Int32) C dX12_isOld_40 rfl ?_
          refine x_goto 45 C dX12_isOld_41 (by decide) ?_
          refine x_istore_n [(2, .int (1 : Int32)), (0, .ref b), (1, .int a1), (3, .int x3)] C dX12_isOld_45 rfl (by decide) rfl ?_
          refine x_iinc (x3 + (1 : Int32)) [(3, .int (x3 + (1 : Int32))), (2, .int (1 : Int32)), (0, .ref b), (1, .int a1)] C dX12_isOld_46 rfl rfl (by decide) rfl ?_
          refine x_goto 4 C dX12_isOld_49 (by decide) ?_
          refine x_sub [(0, .ref b), (1, .int a1), (2, .int (1 : Int32)), (3, .int (x3 + (1 : Int32)))] [2, 3, 1, 0] rfl ?_
          exact ih4 true (x3 + (1 : Int32)) (natS (ixa hnx3 (ixl (x := (1 : Int32)) 1 rfl)) (by omega)).1 (by rw [(natS (ixa hnx3 (ixl (x := (1 : Int32)) 1 rfl)) (by omega)).2]; omega) (by rw [(natS (ixa hnx3 (ixl (x := (1 : Int32)) 1 rfl)) (by omega)).2]; omega)  hF
        · have hF := hF.trans (if_neg (nbt c3))
          refine x_aload_n C dX12_isOld_13 rfl ?_
          refine x_iload_n C dX12_isOld_14 rfl ?_
          refine x_goR (fun ls h => x_runV (As := [.int a1]) [] h C ml_X12_362 (c_X12_livingLines l D cA s0 b μ a1 (ixin hn_a1 (by omega) (by decide))) ⟨rfl, rfl, nb rfl, nb rfl⟩ rfl (M_obj hw) rfl hw (nb rfl) ⟨Nat.zero_le _, Nat.zero_le _⟩ dX12_isOld_15) ?_
          refine x_iload_n C dX12_isOld_18 rfl ?_
          refine x_goR (fun ls h => x_runS (As := [.int (f_X12_livingLines μ a1), .int x3]) [] h C ml_X12_308 (c_X12_has l D cA s0 (f_X12_livingLines μ a1) x3 ) ⟨rfl, rfl, nb rfl, nb rfl⟩ rfl trivial (nb rfl) ⟨Nat.zero_le _, Nat.zero_le _⟩ dX12_isOld_19) ?_
          refine x_ifB_eq 44 C dX12_isOld_22 (by decide) (fun c4 => ?_) (fun c4 => ?_)
          · have hF := hF.trans (if_neg (nbt c4))
            refine x_iconst (0 : Int32) C dX12_isOld_44 rfl ?_
            refine x_istore_n [(2, .int (0 : Int32)), (0, .ref b), (1, .int a1), (3, .int x3)] C dX12_isOld_45 rfl (by decide) rfl ?_
            refine x_iinc (x3 + (1 : Int32)) [(3, .int (x3 + (1 : Int32))), (2, .int (0 : Int32)), (0, .ref b), (1, .int a1)] C dX12_isOld_46 rfl rfl (by decide) rfl ?_
            refine x_goto 4 C dX12_isOld_49 (by decide) ?_
            refine x_sub [(0, .ref b), (1, .int a1), (2, .int (0 : Int32)), (3, .int (x3 + (1 : Int32)))] [2, 3, 1, 0] rfl ?_
            exact ih4 false (x3 + (1 : Int32)) (natS (ixa hnx3 (ixl (x := (1 : Int32)) 1 rfl)) (by omega)).1 (by rw [(natS (ixa hnx3 (ixl (x := (1 : Int32)) 1 rfl)) (by omega)).2]; omega) (by rw [(natS (ixa hnx3 (ixl (x := (1 : Int32)) 1 rfl)) (by omega)).2]; omega)  hF
          · have hF := hF.trans (if_pos c4)
            refine x_aload_n C dX12_isOld_25 rfl ?_
            refine x_iload_n C dX12_isOld_26 rfl ?_
            refine x_iload_n C dX12_isOld_27 rfl ?_
            refine x_goR (fun ls h => x_runV (As := [.int a1, .int x3]) [] h C ml_X12_365 (c_X12_lineIn l D cA s0 b μ a1 x3 (ixin hn_a1 (by omega) (by decide)) (ixin hnx3 (by omega) (by decide))) ⟨rfl, rfl, nb rfl, nb rfl⟩ rfl (M_obj hw) rfl hw (nb rfl) ⟨Nat.zero_le _, Nat.zero_le _⟩ dX12_isOld_28) ?_
            refine x_aload_n C dX12_isOld_31 rfl ?_
            refine x_iload_n C dX12_isOld_32 rfl ?_
            refine x_iload_n C dX12_isOld_33 rfl ?_
            refine x_goR (fun ls h => x_runV (As := [.int a1, .int x3]) [.int (f_X12_lineIn μ a1 x3)] h C ml_X12_377 (c_X12_rebuiltOf l D cA s0 b μ hok a1 x3 (ixin hn_a1 (by omega) (by decide))) ⟨rfl, rfl, nb rfl, nb rfl⟩ rfl (M_obj hw) rfl hw (nb rfl) ⟨Nat.zero_le _, Nat.zero_le _⟩ dX12_isOld_34) ?_
            refine x_icmp_eq 44 C dX12_isOld_37 (by decide) (fun c5 => ?_) (fun c5 => ?_)
            · have hF := hF.trans (if_pos c5)
              refine x_iconst (0 : Int32) C dX12_isOld_44 rfl ?_
              refine x_istore_n [(2, .int (0 : Int32)), (0, .ref b), (1, .int a1), (3, .int x3)] C dX12_isOld_45 rfl (by decide) rfl ?_
              refine x_iinc (x3 + (1 : Int32)) [(3, .int (x3 + (1 : Int32))), (2, .int (0 : Int32)), (0, .ref b), (1, .int a1)] C dX12_isOld_46 rfl rfl (by decide) rfl ?_
              refine x_goto 4 C dX12_isOld_49 (by decide) ?_
              refine x_sub [(0, .ref b), (1, .int a1), (2, .int (0 : Int32)), (3, .int (x3 + (1 : Int32)))] [2, 3, 1, 0] rfl ?_
              exact ih4 false (x3 + (1 : Int32)) (natS (ixa hnx3 (ixl (x := (1 : Int32)) 1 rfl)) (by omega)).1 (by rw [(natS (ixa hnx3 (ixl (x := (1 : Int32)) 1 rfl)) (by omega)).2]; omega) (by rw [(natS (ixa hnx3 (ixl (x := (1 : Int32)) 1 rfl)) (by omega)).2]; omega)  hF
            · have hF := hF.trans (if_neg c5)
              refine x_iconst (1 : Int32) C dX12_isOld_40 rfl ?_
              refine x_goto 45 C dX12_isOld_41 (by decide) ?_
              refine x_istore_n [(2, .int (1 : Int32)), (0, .ref b), (1, .int a1), (3, .int x3)] C dX12_isOld_45 rfl (by decide) rfl ?_
              refine x_iinc (x3 + (1 : Int32)) [(3, .int (x3 + (1 : Int32))), (2, .int (1 : Int32)), (0, .ref b), (1, .int a1)] C dX12_isOld_46 rfl rfl (by decide) rfl ?_
              refine x_goto 4 C dX12_isOld_49 (by decide) ?_
              refine x_sub [(0, .ref b), (1, .int a1), (2, .int (1 : Int32)), (3, .int (x3 + (1 : Int32)))] [2, 3, 1, 0] rfl ?_
              exact ih4 true (x3 + (1 : Int32)) (natS (ixa hnx3 (ixl (x := (1 : Int32)) 1 rfl)) (by omega)).1 (by rw [(natS (ixa hnx3 (ixl (x := (1 : Int32)) 1 rfl)) (by omega)).2]; omega) (by rw [(natS (ixa hnx3 (ixl (x := (1 : Int32)) 1 rfl)) (by omega)).2]; omega)  hF
  refine x_iconst (0 : Int32) C dX12_isOld_0 rfl ?_
  refine x_istore_n [(2, .int (0 : Int32)), (0, .ref b), (1, .int a1)] C dX12_isOld_1 rfl (by decide) rfl ?_
  refine x_iconst (0 : Int32) C dX12_isOld_2 rfl ?_
  refine x_istore_n [(3, .int (0 : Int32)), (2, .int (0 : Int32)), (0, .ref b), (1, .int a1)] C dX12_isOld_3 rfl (by decide) rfl ?_
  refine x_sub [(0, .ref b), (1, .int a1), (2, .int (0 : Int32)), (3, .int (0 : Int32))] [2, 3, 1, 0] rfl ?_
  exact hL4 5 false (0 : Int32) (natS (ixl (x := (0 : Int32)) 0 rfl) (by omega)).1 (by rw [(natS (ixl (x := (0 : Int32)) 0 rfl) (by omega)).2]; omega) (by rw [(natS (ixl (x := (0 : Int32)) 0 rfl) (by omega)).2]; omega)  hF
def f_X12_balanceOf_L11 (μ : Mm) (a1 : Int32) : Nat → Int64 → Int32 → Int64
  | 0, _, _ => 0
  | n + 1, x2, x4 => (if (μ.1 1 2) ≤ x4 then x2 else (if (f_X12_shipOf μ x4) = a1 then (f_X12_balanceOf_L11 μ a1 n (x2 + ((f_X12_netOf μ x4).toInt64)) (x4 + (1 : Int32))) else (f_X12_balanceOf_L11 μ a1 n (x2 + (0 : Int64)) (x4 + (1 : Int32)))))
def f_X12_balanceOf (μ : Mm) (a1 : Int32) : Int64 := (f_X12_balanceOf_L11 μ a1 61 (-(μ.2.1 3 (cl a1))) (0 : Int32))
set_option maxRecDepth 20000 in
set_option maxHeartbeats 4000000 in
theorem c_X12_balanceOf (l : Launch) (D : va_G) (cA : Nat → ClassId) (s0 : State) (b : Nat) (μ : Mm) (hok : OkR (μ.1 1)) (a1 : Int32) (hv_a1 : vp_in a1 8) : Met l yX12_balanceOf (wsG yX12_balanceOf cX12_balanceOf 5 (some (FieldType.long))) { frames := 3, cells := 0, slots := 0, locals := 67 } (xP D cA s0 [.ref b, .int a1] (RM D cA b μ)) (xQr (some (.long (f_X12_balanceOf μ a1)))) 0 0 xN := by
  refine x_start (own := RX12) [(0, .ref b), (1, .int a1)] rfl rfl (by decide) (nb rfl) ?_
  intro p e s m args below meth c C hw
  obtain ⟨F, hF⟩ : ∃ z, z = (f_X12_balanceOf μ a1) := ⟨_, rfl⟩
  rw [← hF]
  obtain ⟨hn_a1, hl_a1⟩ := vpn hv_a1 (by decide)
  have hL11 : ∀ (n : Nat) (x2 : Int64) (x4 : Int32) (hnx4 : x4 = nI (cl x4)) (hbx4 : cl x4 ≤ 60) (hmx4 : 60 < cl x4 + n), F = f_X12_balanceOf_L11 μ a1 n x2 x4 → xW p l e { frames := 3, cells := 0, slots := 0, locals := 67 } s m args below meth c 5 (MQ below (xQr (some (.long F))) args s 0 0 xN) s.heap [] 0 0 11 [(0, .ref b), (1, .int a1), (2, .long x2), (4, .int x4)] [] := by
    intro n
    induction n with
    | zero =>
      intro x2 x4 hnx4 hbx4 hmx4 hF
      exact False.elim (by omega)
    | succ n ih =>
      intro x2 x4 hnx4 hbx4 hmx4 hF
      have ih11 := ih
      refine x_iload C dX12_balanceOf_11 rfl ?_
      refine x_aload_n C dX12_balanceOf_13 rfl ?_
      refine x_get (.ref (b + 1)) C fl_X12_17 (M_obj hw) rfl dX12_balanceOf_14 ?_
      refine x_iconst (2 : Int32) C dX12_balanceOf_17 rfl ?_
      refine x_ialdN C (M_a1 hw) (ixl (x := (2 : Int32)) 2 rfl) (by omega) (by decide) dX12_balanceOf_18 ?_
      obtain ⟨hn1, hl2⟩ := vpn (OkR_2 hok) (by decide)
      refine x_icmp_ge 52 C dX12_balanceOf_19 (by decide) (fun c3 => ?_) (fun c3 => ?_)
      · have hF := hF.trans (if_pos c3)
        have q4 := (nleI hn1 hnx4 (by omega) (by omega)).mp c3
        refine x_lload_n C dX12_balanceOf_52 rfl ?_
        exact x_lretR C rfl dX12_balanceOf_53 (e_l hF)
      · have hF := hF.trans (if_neg c3)
        have q4 := mt (nleI hn1 hnx4 (by omega) (by omega)).mpr c3
        refine x_lload_n C dX12_balanceOf_22 rfl ?_
        refine x_aload_n C dX12_balanceOf_23 rfl ?_
        refine x_iload C dX12_balanceOf_24 rfl ?_
        refine x_goR (fun ls h => x_runV (As := [.int x4]) [.long x2] h C ml_X12_368 (c_X12_shipOf l D cA s0 b μ hok x4 (ixin hnx4 (by omega) (by decide))) ⟨rfl, rfl, nb rfl, nb rfl⟩ rfl (M_obj hw) rfl hw (nb rfl) ⟨Nat.zero_le _, Nat.zero_le _⟩ dX12_balanceOf_26) ?_
        obtain ⟨hn5, hl6⟩ := vpn (f_shipOf_in hok (ixin hnx4 (by omega) (by decide))) (by decide)
        refine x_iload_n C dX12_balanceOf_29 rfl ?_
        refine x_icmp_ne 43 C dX12_balanceOf_30 (by decide) (fun c7 => ?_) (fun c7 => ?_)
        · have hF := hF.trans (if_neg c7)
          have q8 := mt (neqI hn5 hn_a1 (by omega) (by omega)).mpr c7
          refine x_lconst (0 : Int64) C dX12_balanceOf_43 rfl ?_
          refine x_ladd C dX12_balanceOf_44 ?_
          refine x_lstore_n [(2, .long (x2 + (0 : Int64))), (0, .ref b), (1, .int a1), (4, .int x4)] C dX12_balanceOf_45 rfl (by decide) rfl ?_
          refine x_iinc (x4 + (1 : Int32)) [(4, .int (x4 + (1 : Int32))), (2, .long (x2 + (0 : Int64))), (0, .ref b), (1, .int a1)] C dX12_balanceOf_46 rfl rfl (by decide) rfl ?_
          refine x_goto 11 C dX12_balanceOf_49 (by decide) ?_
          refine x_sub [(0, .ref b), (1, .int a1), (2, .long (x2 + (0 : Int64))), (4, .int (x4 + (1 : Int32)))] [2, 3, 1, 0] rfl ?_
          exact ih11 (x2 + (0 : Int64)) (x4 + (1 : Int32)) (natS (ixa hnx4 (ixl (x := (1 : Int32)) 1 rfl)) (by omega)).1 (by rw [(natS (ixa hnx4 (ixl (x := (1 : Int32)) 1 rfl)) (by omega)).2]; omega) (by rw [(natS (ixa hnx4 (ixl (x := (1 : Int32)) 1 rfl)) (by omega)).2]; omega)  hF
        · have hF := hF.trans (if_pos c7)
          have q8 := (neqI hn5 hn_a1 (by omega) (by omega)).mp c7
          refine x_aload_n C dX12_balanceOf_33 rfl ?_
          refine x_iload C dX12_balanceOf_34 rfl ?_
          refine x_goR (fun ls h => x_runV (As := [.int x4]) [.long x2] h C ml_X12_371 (c_X12_netOf l D cA s0 b μ hok x4 (ixin hnx4 (by omega) (by decide))) ⟨rfl, rfl, nb rfl, nb rfl⟩ rfl (M_obj hw) rfl hw (nb rfl) ⟨Nat.zero_le _, Nat.zero_le _⟩ dX12_balanceOf_36) ?_
          refine x_i2l C dX12_balanceOf_39 ?_
          refine x_goto 44 C dX12_balanceOf_40 (by decide) ?_
          refine x_ladd C dX12_balanceOf_44 ?_
          refine x_lstore_n [(2, .long (x2 + ((f_X12_netOf μ x4).toInt64))), (0, .ref b), (1, .int a1), (4, .int x4)] C dX12_balanceOf_45 rfl (by decide) rfl ?_
          refine x_iinc (x4 + (1 : Int32)) [(4, .int (x4 + (1 : Int32))), (2, .long (x2 + ((f_X12_netOf μ x4).toInt64))), (0, .ref b), (1, .int a1)] C dX12_balanceOf_46 rfl rfl (by decide) rfl ?_
          refine x_goto 11 C dX12_balanceOf_49 (by decide) ?_
          refine x_sub [(0, .ref b), (1, .int a1), (2, .long (x2 + ((f_X12_netOf μ x4).toInt64))), (4, .int (x4 + (1 : Int32)))] [2, 3, 1, 0] rfl ?_
          exact ih11 (x2 + ((f_X12_netOf μ x4).toInt64)) (x4 + (1 : Int32)) (natS (ixa hnx4 (ixl (x := (1 : Int32)) 1 rfl)) (by omega)).1 (by rw [(natS (ixa hnx4 (ixl (x := (1 : Int32)) 1 rfl)) (by omega)).2]; omega) (by rw [(natS (ixa hnx4 (ixl (x := (1 : Int32)) 1 rfl)) (by omega)).2]; omega)  hF
  refine x_aload_n C dX12_balanceOf_0 rfl ?_
  refine x_get (.ref (b + 3)) C fl_X12_27 (M_obj hw) rfl dX12_balanceOf_1 ?_
  refine x_iload_n C dX12_balanceOf_4 rfl ?_
  refine x_laldN C (M_a3 hw) hn_a1 (by omega) (by decide) dX12_balanceOf_5 ?_
  refine x_lneg C dX12_balanceOf_6 ?_
  refine x_lstore_n [(2, .long (-(μ.2.1 3 (cl a1)))), (0, .ref b), (1, .int a1)] C dX12_balanceOf_7 rfl (by decide) rfl ?_
  refine x_iconst (0 : Int32) C dX12_balanceOf_8 rfl ?_
  refine x_istore [(4, .int (0 : Int32)), (2, .long (-(μ.2.1 3 (cl a1)))), (0, .ref b), (1, .int a1)] C dX12_balanceOf_9 (by decide) rfl ?_
  refine x_sub [(0, .ref b), (1, .int a1), (2, .long (-(μ.2.1 3 (cl a1)))), (4, .int (0 : Int32))] [2, 3, 1, 0] rfl ?_
  exact hL11 61 (-(μ.2.1 3 (cl a1))) (0 : Int32) (natS (ixl (x := (0 : Int32)) 0 rfl) (by omega)).1 (by rw [(natS (ixl (x := (0 : Int32)) 0 rfl) (by omega)).2]; omega) (by rw [(natS (ixl (x := (0 : Int32)) 0 rfl) (by omega)).2]; omega)  hF
def f_X12_totalFor_L4 (μ : Mm) (a1 : Int32) : Nat → Int32 → Int32 → Int32
  | 0, _, _ => 0
  | n + 1, x2, x3 => (if (μ.1 1 1) ≤ x3 then x2 else (if (f_X12_ofCall μ x3 (0 : Int32)) = a1 then (f_X12_totalFor_L4 μ a1 n (x2 + (f_X12_totalOf μ x3)) (x3 + (1 : Int32))) else (f_X12_totalFor_L4 μ a1 n (x2 + (0 : Int32)) (x3 + (1 : Int32)))))
def f_X12_totalFor (μ : Mm) (a1 : Int32) : Int32 := (f_X12_totalFor_L4 μ a1 42 (0 : Int32) (0 : Int32))
set_option maxRecDepth 20000 in
set_option maxHeartbeats 4000000 in
theorem c_X12_totalFor (l : Launch) (D : va_G) (cA : Nat → ClassId) (s0 : State) (b : Nat) (μ : Mm) (hok : OkR (μ.1 1)) (a1 : Int32) : Met l yX12_totalFor (wsG yX12_totalFor cX12_totalFor 4 (some (FieldType.int))) { frames := 7, cells := 0, slots := 0, locals := 160 } (xP D cA s0 [.ref b, .int a1] (RM D cA b μ)) (xQr (some (.int (f_X12_totalFor μ a1)))) 0 0 xN := by
  refine x_start (own := RX12) [(0, .ref b), (1, .int a1)] rfl rfl (by decide) (nb rfl) ?_
  intro p e s m args below meth c C hw
  obtain ⟨F, hF⟩ : ∃ z, z = (f_X12_totalFor μ a1) := ⟨_, rfl⟩
  rw [← hF]
  have hL4 : ∀ (n : Nat) (x2 : Int32) (x3 : Int32) (hnx3 : x3 = nI (cl x3)) (hbx3 : cl x3 ≤ 41) (hmx3 : 41 < cl x3 + n), F = f_X12_totalFor_L4 μ a1 n x2 x3 → xW p l e { frames := 7, cells := 0, slots := 0, locals := 160 } s m args below meth c 4 (MQ below (xQr (some (.int F))) args s 0 0 xN) s.heap [] 0 0 4 [(0, .ref b), (1, .int a1), (2, .int x2), (3, .int x3)] [] := by
    intro n
    induction n with
    | zero =>
      intro x2 x3 hnx3 hbx3 hmx3 hF
      exact False.elim (by omega)
    | succ n ih =>
      intro x2 x3 hnx3 hbx3 hmx3 hF
      have ih4 := ih
      refine x_iload_n C dX12_totalFor_4 rfl ?_
      refine x_aload_n C dX12_totalFor_5 rfl ?_
      refine x_get (.ref (b + 1)) C fl_X12_17 (M_obj hw) rfl dX12_totalFor_6 ?_
      refine x_iconst (1 : Int32) C dX12_totalFor_9 rfl ?_
      refine x_ialdN C (M_a1 hw) (ixl (x := (1 : Int32)) 1 rfl) (by omega) (by decide) dX12_totalFor_10 ?_
      obtain ⟨hn1, hl2⟩ := vpn (OkR_1 hok) (by decide)
      refine x_icmp_ge 42 C dX12_totalFor_11 (by decide) (fun c3 => ?_) (fun c3 => ?_)
      · have hF := hF.trans (if_pos c3)
        have q4 := (nleI hn1 hnx3 (by omega) (by omega)).mp c3
        refine x_iload_n C dX12_totalFor_42 rfl ?_
        exact x_iretR C rfl dX12_totalFor_43 (e_i hF)
      · have hF := hF.trans (if_neg c3)
        have q4 := mt (nleI hn1 hnx3 (by omega) (by omega)).mpr c3
        refine x_iload_n C dX12_totalFor_14 rfl ?_
        refine x_aload_n C dX12_totalFor_15 rfl ?_
        refine x_iload_n C dX12_totalFor_16 rfl ?_
        refine x_iconst (0 : Int32) C dX12_totalFor_17 rfl ?_
        refine x_goR (fun ls h => x_runV (As := [.int x3, .int (0 : Int32)]) [.int x2] h C ml_X12_248 (c_X12_ofCall l D cA s0 b μ x3 (0 : Int32) (ixin hnx3 (by omega) (by decide)) (ixin (ixl (x := (0 : Int32)) 0 rfl) (by omega) (by decide))) ⟨rfl, rfl, nb rfl, nb rfl⟩ rfl (M_obj hw) rfl hw (nb rfl) ⟨Nat.zero_le _, Nat.zero_le _⟩ dX12_totalFor_18) ?_
        obtain ⟨hn5, hl6⟩ := vpn (f_ofCall_ship hok (ixin hnx3 (by omega) (by decide))) (by decide)
        refine x_iload_n C dX12_totalFor_21 rfl ?_
        refine x_icmp_ne 33 C dX12_totalFor_22 (by decide) (fun c7 => ?_) (fun c7 => ?_)
        · have hF := hF.trans (if_neg c7)
          refine x_iconst (0 : Int32) C dX12_totalFor_33 rfl ?_
          refine x_iadd C dX12_totalFor_34 ?_
          refine x_istore_n [(2, .int (x2 + (0 : Int32))), (0, .ref b), (1, .int a1), (3, .int x3)] C dX12_totalFor_35 rfl (by decide) rfl ?_
          refine x_iinc (x3 + (1 : Int32)) [(3, .int (x3 + (1 : Int32))), (2, .int (x2 + (0 : Int32))), (0, .ref b), (1, .int a1)] C dX12_totalFor_36 rfl rfl (by decide) rfl ?_
          refine x_goto 4 C dX12_totalFor_39 (by decide) ?_
          refine x_sub [(0, .ref b), (1, .int a1), (2, .int (x2 + (0 : Int32))), (3, .int (x3 + (1 : Int32)))] [2, 3, 1, 0] rfl ?_
          exact ih4 (x2 + (0 : Int32)) (x3 + (1 : Int32)) (natS (ixa hnx3 (ixl (x := (1 : Int32)) 1 rfl)) (by omega)).1 (by rw [(natS (ixa hnx3 (ixl (x := (1 : Int32)) 1 rfl)) (by omega)).2]; omega) (by rw [(natS (ixa hnx3 (ixl (x := (1 : Int32)) 1 rfl)) (by omega)).2]; omega)  hF
        · have hF := hF.trans (if_pos c7)
          refine x_aload_n C dX12_totalFor_25 rfl ?_
          refine x_iload_n C dX12_totalFor_26 rfl ?_
          refine x_goR (fun ls h => x_runV (As := [.int x3]) [.int x2] h C ml_X12_359 (c_X12_totalOf l D cA s0 b μ hok x3 (ixin hnx3 (by omega) (by decide))) ⟨rfl, rfl, nb rfl, nb rfl⟩ rfl (M_obj hw) rfl hw (nb rfl) ⟨Nat.zero_le _, Nat.zero_le _⟩ dX12_totalFor_27) ?_
          refine x_goto 34 C dX12_totalFor_30 (by decide) ?_
          refine x_iadd C dX12_totalFor_34 ?_
          refine x_istore_n [(2, .int (x2 + (f_X12_totalOf μ x3))), (0, .ref b), (1, .int a1), (3, .int x3)] C dX12_totalFor_35 rfl (by decide) rfl ?_
          refine x_iinc (x3 + (1 : Int32)) [(3, .int (x3 + (1 : Int32))), (2, .int (x2 + (f_X12_totalOf μ x3))), (0, .ref b), (1, .int a1)] C dX12_totalFor_36 rfl rfl (by decide) rfl ?_
          refine x_goto 4 C dX12_totalFor_39 (by decide) ?_
          refine x_sub [(0, .ref b), (1, .int a1), (2, .int (x2 + (f_X12_totalOf μ x3))), (3, .int (x3 + (1 : Int32)))] [2, 3, 1, 0] rfl ?_
          exact ih4 (x2 + (f_X12_totalOf μ x3)) (x3 + (1 : Int32)) (natS (ixa hnx3 (ixl (x := (1 : Int32)) 1 rfl)) (by omega)).1 (by rw [(natS (ixa hnx3 (ixl (x := (1 : Int32)) 1 rfl)) (by omega)).2]; omega) (by rw [(natS (ixa hnx3 (ixl (x := (1 : Int32)) 1 rfl)) (by omega)).2]; omega)  hF
  refine x_iconst (0 : Int32) C dX12_totalFor_0 rfl ?_
  refine x_istore_n [(2, .int (0 : Int32)), (0, .ref b), (1, .int a1)] C dX12_totalFor_1 rfl (by decide) rfl ?_
  refine x_iconst (0 : Int32) C dX12_totalFor_2 rfl ?_
  refine x_istore_n [(3, .int (0 : Int32)), (2, .int (0 : Int32)), (0, .ref b), (1, .int a1)] C dX12_totalFor_3 rfl (by decide) rfl ?_
  refine x_sub [(0, .ref b), (1, .int a1), (2, .int (0 : Int32)), (3, .int (0 : Int32))] [2, 3, 1, 0] rfl ?_
  exact hL4 42 (0 : Int32) (0 : Int32) (natS (ixl (x := (0 : Int32)) 0 rfl) (by omega)).1 (by rw [(natS (ixl (x := (0 : Int32)) 0 rfl) (by omega)).2]; omega) (by rw [(natS (ixl (x := (0 : Int32)) 0 rfl) (by omega)).2]; omega)  hF
def f_X12_areDays (a1 : Int32) (a2 : Int32) : Bool := (if f_X12_in a1.toInt64 (0 : Int64) (3599 : Int64) then (if f_X12_in a2.toInt64 a1.toInt64 ((a1 + (29 : Int32)).toInt64) then true else false) else false)
set_option maxRecDepth 20000 in
set_option maxHeartbeats 4000000 in
theorem c_X12_areDays (l : Launch) (D : va_G) (cA : Nat → ClassId) (s0 : State) (a1 : Int32) (a2 : Int32) : Met l yX12_areDays (wsG yX12_areDays cX12_areDays 2 (some (FieldType.boolean))) { frames := 1, cells := 0, slots := 0, locals := 25 } (xP D cA s0 [.int a1, .int a2] (fun _ => True)) (xQr (some (.int (bI (f_X12_areDays a1 a2))))) 0 0 xN := by
  refine x_start (own := RX12) [(0, .int a1), (1, .int a2)] rfl rfl (by decide) (nb rfl) ?_
  intro p e s m args below meth c C hw
  obtain ⟨F, hF⟩ : ∃ z, z = (f_X12_areDays a1 a2) := ⟨_, rfl⟩
  rw [← hF]
  refine x_iload_n C dX12_areDays_0 rfl ?_
  refine x_i2l C dX12_areDays_1 ?_
  refine x_lconst (0 : Int64) C dX12_areDays_2 rfl ?_
  refine x_ldc2 (3599 : Int64) C cl_X12_393 dX12_areDays_3 ?_
  refine x_goR (fun ls h => x_runS (As := [.long a1.toInt64, .long (0 : Int64), .long (3599 : Int64)]) [] h C ml_X12_47 (c_X12_in l D cA s0 a1.toInt64 (0 : Int64) (3599 : Int64) ) ⟨rfl, rfl, nb rfl, nb rfl⟩ rfl trivial (nb rfl) ⟨Nat.zero_le _, Nat.zero_le _⟩ dX12_areDays_6) ?_
  refine x_ifB_eq 31 C dX12_areDays_9 (by decide) (fun c1 => ?_) (fun c1 => ?_)
  · have hF := hF.trans (if_neg (nbt c1))
    refine x_iconst (0 : Int32) C dX12_areDays_31 rfl ?_
    exact x_zretR C rfl dX12_areDays_32 rfl (e_b0 hF)
  · have hF := hF.trans (if_pos c1)
    refine x_iload_n C dX12_areDays_12 rfl ?_
    refine x_i2l C dX12_areDays_13 ?_
    refine x_iload_n C dX12_areDays_14 rfl ?_
    refine x_i2l C dX12_areDays_15 ?_
    refine x_iload_n C dX12_areDays_16 rfl ?_
    refine x_bipush (29 : Int32) C dX12_areDays_17 rfl ?_
    refine x_iadd C dX12_areDays_19 ?_
    refine x_i2l C dX12_areDays_20 ?_
    refine x_goR (fun ls h => x_runS (As := [.long a2.toInt64, .long a1.toInt64, .long ((a1 + (29 : Int32)).toInt64)]) [] h C ml_X12_47 (c_X12_in l D cA s0 a2.toInt64 a1.toInt64 ((a1 + (29 : Int32)).toInt64) ) ⟨rfl, rfl, nb rfl, nb rfl⟩ rfl trivial (nb rfl) ⟨Nat.zero_le _, Nat.zero_le _⟩ dX12_areDays_21) ?_
    refine x_ifB_eq 31 C dX12_areDays_24 (by decide) (fun c2 => ?_) (fun c2 => ?_)
    · have hF := hF.trans (if_neg (nbt c2))
      refine x_iconst (0 : Int32) C dX12_areDays_31 rfl ?_
      exact x_zretR C rfl dX12_areDays_32 rfl (e_b0 hF)
    · have hF := hF.trans (if_pos c2)
      refine x_iconst (1 : Int32) C dX12_areDays_27 rfl ?_
      refine x_goto 32 C dX12_areDays_28 (by decide) ?_
      exact x_zretR C rfl dX12_areDays_32 rfl (e_b1 hF)
def f_X12_canCancel (μ : Mm) (a1 : Int32) : Bool := (if (f_X12_ofCall μ a1 (4 : Int32)) = 0 then (if (f_X12_billedSet μ a1) = 0 then (if (f_X12_billedDaySet μ a1) = 0 then true else false) else false) else false)
set_option maxRecDepth 20000 in
set_option maxHeartbeats 4000000 in
theorem c_X12_canCancel (l : Launch) (D : va_G) (cA : Nat → ClassId) (s0 : State) (b : Nat) (μ : Mm) (hok : OkR (μ.1 1)) (a1 : Int32) (hv_a1 : vp_in a1 41) : Met l yX12_canCancel (wsG yX12_canCancel cX12_canCancel 2 (some (FieldType.boolean))) { frames := 2, cells := 0, slots := 0, locals := 45 } (xP D cA s0 [.ref b, .int a1] (RM D cA b μ)) (xQr (some (.int (bI (f_X12_canCancel μ a1))))) 0 0 xN := by
  refine x_start (own := RX12) [(0, .ref b), (1, .int a1)] rfl rfl (by decide) (nb rfl) ?_
  intro p e s m args below meth c C hw
  obtain ⟨F, hF⟩ : ∃ z, z = (f_X12_canCancel μ a1) := ⟨_, rfl⟩
  rw [← hF]
  obtain ⟨hn_a1, hl_a1⟩ := vpn hv_a1 (by decide)
  refine x_aload_n C dX12_canCancel_0 rfl ?_
  refine x_iload_n C dX12_canCancel_1 rfl ?_
  refine x_iconst (4 : Int32) C dX12_canCancel_2 rfl ?_
  refine x_goR (fun ls h => x_runV (As := [.int a1, .int (4 : Int32)]) [] h C ml_X12_248 (c_X12_ofCall l D cA s0 b μ a1 (4 : Int32) (ixin hn_a1 (by omega) (by decide)) (ixin (ixl (x := (4 : Int32)) 4 rfl) (by omega) (by decide))) ⟨rfl, rfl, nb rfl, nb rfl⟩ rfl (M_obj hw) rfl hw (nb rfl) ⟨Nat.zero_le _, Nat.zero_le _⟩ dX12_canCancel_3) ?_
  refine x_if_ne 29 C dX12_canCancel_6 (by decide) (fun c1 => ?_) (fun c1 => ?_)
  · have hF := hF.trans (if_neg c1)
    refine x_iconst (0 : Int32) C dX12_canCancel_29 rfl ?_
    exact x_zretR C rfl dX12_canCancel_30 rfl (e_b0 hF)
  · have hF := hF.trans (if_pos c1)
    refine x_aload_n C dX12_canCancel_9 rfl ?_
    refine x_iload_n C dX12_canCancel_10 rfl ?_
    refine x_goR (fun ls h => x_runV (As := [.int a1]) [] h C ml_X12_350 (c_X12_billedSet l D cA s0 b μ hok a1 ) ⟨rfl, rfl, nb rfl, nb rfl⟩ rfl (M_obj hw) rfl hw (nb rfl) ⟨Nat.zero_le _, Nat.zero_le _⟩ dX12_canCancel_11) ?_
    refine x_if_ne 29 C dX12_canCancel_14 (by decide) (fun c2 => ?_) (fun c2 => ?_)
    · have hF := hF.trans (if_neg c2)
      refine x_iconst (0 : Int32) C dX12_canCancel_29 rfl ?_
      exact x_zretR C rfl dX12_canCancel_30 rfl (e_b0 hF)
    · have hF := hF.trans (if_pos c2)
      refine x_aload_n C dX12_canCancel_17 rfl ?_
      refine x_iload_n C dX12_canCancel_18 rfl ?_
      refine x_goR (fun ls h => x_runV (As := [.int a1]) [] h C ml_X12_314 (c_X12_billedDaySet l D cA s0 b μ hok a1 ) ⟨rfl, rfl, nb rfl, nb rfl⟩ rfl (M_obj hw) rfl hw (nb rfl) ⟨Nat.zero_le _, Nat.zero_le _⟩ dX12_canCancel_19) ?_
      refine x_if_ne 29 C dX12_canCancel_22 (by decide) (fun c3 => ?_) (fun c3 => ?_)
      · have hF := hF.trans (if_neg c3)
        refine x_iconst (0 : Int32) C dX12_canCancel_29 rfl ?_
        exact x_zretR C rfl dX12_canCancel_30 rfl (e_b0 hF)
      · have hF := hF.trans (if_pos c3)
        refine x_iconst (1 : Int32) C dX12_canCancel_25 rfl ?_
        refine x_goto 30 C dX12_canCancel_26 (by decide) ?_
        exact x_zretR C rfl dX12_canCancel_30 rfl (e_b1 hF)
def f_X12_canBill (μ : Mm) (a1 : Int32) : Bool := (if (f_X12_ofCall μ a1 (4 : Int32)) = (1 : Int32) then false else (if (μ.1 1 2) = (60 : Int32) then false else (if (f_X12_billedSet μ a1) = (7 : Int32) then (if (f_X12_billableSet μ a1) = 0 then false else true) else true)))
set_option maxRecDepth 20000 in
set_option maxHeartbeats 4000000 in
theorem c_X12_canBill (l : Launch) (D : va_G) (cA : Nat → ClassId) (s0 : State) (b : Nat) (μ : Mm) (hok : OkR (μ.1 1)) (a1 : Int32) (hv_a1 : vp_in a1 41) : Met l yX12_canBill (wsG yX12_canBill cX12_canBill 2 (some (FieldType.boolean))) { frames := 4, cells := 0, slots := 0, locals := 85 } (xP D cA s0 [.ref b, .int a1] (RM D cA b μ)) (xQr (some (.int (bI (f_X12_canBill μ a1))))) 0 0 xN := by
  refine x_start (own := RX12) [(0, .ref b), (1, .int a1)] rfl rfl (by decide) (nb rfl) ?_
  intro p e s m args below meth c C hw
  obtain ⟨F, hF⟩ : ∃ z, z = (f_X12_canBill μ a1) := ⟨_, rfl⟩
  rw [← hF]
  obtain ⟨hn_a1, hl_a1⟩ := vpn hv_a1 (by decide)
  refine x_aload_n C dX12_canBill_0 rfl ?_
  refine x_iload_n C dX12_canBill_1 rfl ?_
  refine x_iconst (4 : Int32) C dX12_canBill_2 rfl ?_
  refine x_goR (fun ls h => x_runV (As := [.int a1, .int (4 : Int32)]) [] h C ml_X12_248 (c_X12_ofCall l D cA s0 b μ a1 (4 : Int32) (ixin hn_a1 (by omega) (by decide)) (ixin (ixl (x := (4 : Int32)) 4 rfl) (by omega) (by decide))) ⟨rfl, rfl, nb rfl, nb rfl⟩ rfl (M_obj hw) rfl hw (nb rfl) ⟨Nat.zero_le _, Nat.zero_le _⟩ dX12_canBill_3) ?_
  refine x_iconst (1 : Int32) C dX12_canBill_6 rfl ?_
  refine x_icmp_eq 21 C dX12_canBill_7 (by decide) (fun c1 => ?_) (fun c1 => ?_)
  · have hF := hF.trans (if_pos c1)
    refine x_iconst (0 : Int32) C dX12_canBill_21 rfl ?_
    exact x_zretR C rfl dX12_canBill_22 rfl (e_b0 hF)
  · have hF := hF.trans (if_neg c1)
    refine x_aload_n C dX12_canBill_10 rfl ?_
    refine x_get (.ref (b + 1)) C fl_X12_17 (M_obj hw) rfl dX12_canBill_11 ?_
    refine x_iconst (2 : Int32) C dX12_canBill_14 rfl ?_
    refine x_ialdN C (M_a1 hw) (ixl (x := (2 : Int32)) 2 rfl) (by omega) (by decide) dX12_canBill_15 ?_
    obtain ⟨hn2, hl3⟩ := vpn (OkR_2 hok) (by decide)
    refine x_bipush (60 : Int32) C dX12_canBill_16 rfl ?_
    refine x_icmp_ne 23 C dX12_canBill_18 (by decide) (fun c4 => ?_) (fun c4 => ?_)
    · have hF := hF.trans (if_neg c4)
      have q5 := mt (neqI hn2 (ixl (x := (60 : Int32)) 60 rfl) (by omega) (by omega)).mpr c4
      refine x_aload_n C dX12_canBill_23 rfl ?_
      refine x_iload_n C dX12_canBill_24 rfl ?_
      refine x_goR (fun ls h => x_runV (As := [.int a1]) [] h C ml_X12_350 (c_X12_billedSet l D cA s0 b μ hok a1 ) ⟨rfl, rfl, nb rfl, nb rfl⟩ rfl (M_obj hw) rfl hw (nb rfl) ⟨Nat.zero_le _, Nat.zero_le _⟩ dX12_canBill_25) ?_
      refine x_bipush (7 : Int32) C dX12_canBill_28 rfl ?_
      refine x_icmp_ne 41 C dX12_canBill_30 (by decide) (fun c6 => ?_) (fun c6 => ?_)
      · have hF := hF.trans (if_neg c6)
        refine x_iconst (1 : Int32) C dX12_canBill_41 rfl ?_
        refine x_goto 46 C dX12_canBill_42 (by decide) ?_
        exact x_zretR C rfl dX12_canBill_46 rfl (e_b1 hF)
      · have hF := hF.trans (if_pos c6)
        refine x_aload_n C dX12_canBill_33 rfl ?_
        refine x_iload_n C dX12_canBill_34 rfl ?_
        refine x_goR (fun ls h => x_runV (As := [.int a1]) [] h C ml_X12_353 (c_X12_billableSet l D cA s0 b μ hok a1 (ixin hn_a1 (by omega) (by decide))) ⟨rfl, rfl, nb rfl, nb rfl⟩ rfl (M_obj hw) rfl hw (nb rfl) ⟨Nat.zero_le _, Nat.zero_le _⟩ dX12_canBill_35) ?_
        refine x_if_eq 45 C dX12_canBill_38 (by decide) (fun c7 => ?_) (fun c7 => ?_)
        · have hF := hF.trans (if_pos c7)
          refine x_iconst (0 : Int32) C dX12_canBill_45 rfl ?_
          exact x_zretR C rfl dX12_canBill_46 rfl (e_b0 hF)
        · have hF := hF.trans (if_neg c7)
          refine x_iconst (1 : Int32) C dX12_canBill_41 rfl ?_
          refine x_goto 46 C dX12_canBill_42 (by decide) ?_
          exact x_zretR C rfl dX12_canBill_46 rfl (e_b1 hF)
    · have hF := hF.trans (if_pos c4)
      have q5 := (neqI hn2 (ixl (x := (60 : Int32)) 60 rfl) (by omega) (by omega)).mp c4
      refine x_iconst (0 : Int32) C dX12_canBill_21 rfl ?_
      exact x_zretR C rfl dX12_canBill_22 rfl (e_b0 hF)
def f_X12_canChange (μ : Mm) : Bool := (if (20 : Int32) ≤ (f_X12_version μ) then false else true)
set_option maxRecDepth 20000 in
set_option maxHeartbeats 4000000 in
theorem c_X12_canChange (l : Launch) (D : va_G) (cA : Nat → ClassId) (s0 : State) (b : Nat) (μ : Mm) : Met l yX12_canChange (wsG yX12_canChange cX12_canChange 1 (some (FieldType.boolean))) { frames := 1, cells := 0, slots := 0, locals := 20 } (xP D cA s0 [.ref b] (RM D cA b μ)) (xQr (some (.int (bI (f_X12_canChange μ))))) 0 0 xN := by
  refine x_start (own := RX12) [(0, .ref b)] rfl rfl (by decide) (nb rfl) ?_
  intro p e s m args below meth c C hw
  obtain ⟨F, hF⟩ : ∃ z, z = (f_X12_canChange μ) := ⟨_, rfl⟩
  rw [← hF]
  refine x_aload_n C dX12_canChange_0 rfl ?_
  refine x_goR (fun ls h => x_runV (As := []) [] h C ml_X12_256 (c_X12_version l D cA s0 b μ ) ⟨rfl, rfl, nb rfl, nb rfl⟩ rfl (M_obj hw) rfl hw (nb rfl) ⟨Nat.zero_le _, Nat.zero_le _⟩ dX12_canChange_1) ?_
  refine x_bipush (20 : Int32) C dX12_canChange_4 rfl ?_
  refine x_icmp_ge 13 C dX12_canChange_6 (by decide) (fun c1 => ?_) (fun c1 => ?_)
  · have hF := hF.trans (if_pos c1)
    refine x_iconst (0 : Int32) C dX12_canChange_13 rfl ?_
    exact x_zretR C rfl dX12_canChange_14 rfl (e_b0 hF)
  · have hF := hF.trans (if_neg c1)
    refine x_iconst (1 : Int32) C dX12_canChange_9 rfl ?_
    refine x_goto 14 C dX12_canChange_10 (by decide) ?_
    exact x_zretR C rfl dX12_canChange_14 rfl (e_b1 hF)
def f_X12_isDayIn (μ : Mm) (a1 : Int32) (a2 : Int32) : Bool := (if f_X12_in a2.toInt64 (0 : Int64) (29 : Int64) then (if f_X12_has a1 a2 then true else false) else false)
set_option maxRecDepth 20000 in
set_option maxHeartbeats 4000000 in
theorem c_X12_isDayIn (l : Launch) (D : va_G) (cA : Nat → ClassId) (s0 : State) (b : Nat) (μ : Mm) (a1 : Int32) (a2 : Int32) : Met l yX12_isDayIn (wsG yX12_isDayIn cX12_isDayIn 3 (some (FieldType.boolean))) { frames := 1, cells := 0, slots := 0, locals := 25 } (xP D cA s0 [.ref b, .int a1, .int a2] (RM D cA b μ)) (xQr (some (.int (bI (f_X12_isDayIn μ a1 a2))))) 0 0 xN := by
  refine x_start (own := RX12) [(0, .ref b), (1, .int a1), (2, .int a2)] rfl rfl (by decide) (nb rfl) ?_
  intro p e s m args below meth c C hw
  obtain ⟨F, hF⟩ : ∃ z, z = (f_X12_isDayIn μ a1 a2) := ⟨_, rfl⟩
  rw [← hF]
  refine x_iload_n C dX12_isDayIn_0 rfl ?_
  refine x_i2l C dX12_isDayIn_1 ?_
  refine x_lconst (0 : Int64) C dX12_isDayIn_2 rfl ?_
  refine x_ldc2 (29 : Int64) C cl_X12_425 dX12_isDayIn_3 ?_
  refine x_goR (fun ls h => x_runS (As := [.long a2.toInt64, .long (0 : Int64), .long (29 : Int64)]) [] h C ml_X12_47 (c_X12_in l D cA s0 a2.toInt64 (0 : Int64) (29 : Int64) ) ⟨rfl, rfl, nb rfl, nb rfl⟩ rfl trivial (nb rfl) ⟨Nat.zero_le _, Nat.zero_le _⟩ dX12_isDayIn_6) ?_
  refine x_ifB_eq 24 C dX12_isDayIn_9 (by decide) (fun c1 => ?_) (fun c1 => ?_)
  · have hF := hF.trans (if_neg (nbt c1))
    refine x_iconst (0 : Int32) C dX12_isDayIn_24 rfl ?_
    exact x_zretR C rfl dX12_isDayIn_25 rfl (e_b0 hF)
  · have hF := hF.trans (if_pos c1)
    refine x_iload_n C dX12_isDayIn_12 rfl ?_
    refine x_iload_n C dX12_isDayIn_13 rfl ?_
    refine x_goR (fun ls h => x_runS (As := [.int a1, .int a2]) [] h C ml_X12_308 (c_X12_has l D cA s0 a1 a2 ) ⟨rfl, rfl, nb rfl, nb rfl⟩ rfl trivial (nb rfl) ⟨Nat.zero_le _, Nat.zero_le _⟩ dX12_isDayIn_14) ?_
    refine x_ifB_eq 24 C dX12_isDayIn_17 (by decide) (fun c2 => ?_) (fun c2 => ?_)
    · have hF := hF.trans (if_neg (nbt c2))
      refine x_iconst (0 : Int32) C dX12_isDayIn_24 rfl ?_
      exact x_zretR C rfl dX12_isDayIn_25 rfl (e_b0 hF)
    · have hF := hF.trans (if_pos c2)
      refine x_iconst (1 : Int32) C dX12_isDayIn_20 rfl ?_
      refine x_goto 25 C dX12_isDayIn_21 (by decide) ?_
      exact x_zretR C rfl dX12_isDayIn_25 rfl (e_b1 hF)
