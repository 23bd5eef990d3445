/-! The constructors of History, of the class and of the model. -/
def HisE (cA : Nat → ClassId) (nr a c o : Nat) : va_E := if o = 0 then .inr (3, [.ref (a + 1), .int 0, .int 0]) else if o = 1 then .inl (cA 8, 6, .inr (.inr (.inr (.inr (pf a 2 327 c))))) else RowEnd cA nr (a + (2 + 327 * ((o - 2) / 327))) ((o - 2) % 327)
set_option maxRecDepth 20000 in
set_option maxHeartbeats 4000000 in
theorem k_X3_init (l : Launch) (D : va_G) (cA : Nat → ClassId) (s0 : State) (a : Nat) (nr : Nat) (hAO : xAOs s0) : Met l yX3_init (wsG yX3_init cX3_init 2 none) { frames := 5, cells := 1963, slots := 12198, locals := 100 } (xP D cA s0 [.ref a] (fun H => Lay D (fun _ => (.inr (3, [.null, .int 0, .int 0]))) a 1 H)) (xQm none (fun H => Lay D (HisE cA nr a 6) a 1964 H) (xA0 a)) 1963 12198 (xA0 a) := by
  refine i_start (own := RX3) [(0, .ref a)] rfl rfl (by decide) (nb rfl) ?_
  intro p e s m args below meth c C hin hw
  have X : ∀ (x : Nat), a ≤ a + x := fun x => by omega
  have hl : ∀ (d cc0 : Nat), cc0 + d = 6 → ∀ (H : Heap) (locs : List Loc), Lay D (HisE cA nr a cc0) a (2 + 327 * cc0) H → va_S (xA0 a) s.heap H locs → xW p l e { frames := 5, cells := 1963, slots := 12198, locals := 100 } s m args below meth c 2 (MQ below (xQm none (fun H => Lay D (HisE cA nr a 6) a 1964 H) (xA0 a)) args s 1963 12198 (xA0 a)) H locs (1 + 327 * cc0) (6 + 2032 * cc0) 15 [(1, .int (nI cc0)), (0, .ref a)] [] := by
    intro d
    induction d with
    | zero =>
      intro cc0 hc H locs hL hS
      have hc : cc0 = 6 := by omega
      subst hc
      refine x_iload_n C dX3_init_15 rfl ?_
      refine x_bipush (6 : Int32) C dX3_init_16 rfl ?_
      refine x_icmp_ge 40 C dX3_init_18 (by decide) (fun _ => ?_) (fun z => absurd (by decide) z)
      exact x_vretM2 C rfl dX3_init_40 rfl hL hS (nb rfl) (nb rfl)
    | succ d ih =>
      intro cc0 hc H locs hL hS
      have hz0 := hL.1
      refine x_iload_n C dX3_init_15 rfl ?_
      refine x_bipush (6 : Int32) C dX3_init_16 rfl ?_
      refine x_icmp_ge 40 C dX3_init_18 (by decide) (fun z => absurd ((nleI (a := 6) (b := cc0) rfl rfl (by decide) (by omega)).mp z) (by omega)) (fun _ => ?_)
      refine x_aload_n C dX3_init_21 rfl ?_
      refine x_get (.ref (a + 1)) C fl_X3_11 (hL.zero (by omega) rfl) rfl dX3_init_22 ?_
      refine x_iload_n C dX3_init_25 rfl ?_
      refine x_new C cf_X5 kl_X3_9 in_5 ii_5 df_5 (by show _ ≤ 1963; omega) (by show _ ≤ 12198; omega) dX3_init_26 (fun H1 h1 hz ho => ?_)
      refine x_dup C dX3_init_29 rfl ?_
      refine x_goM (fun ls h => x_runI (As := []) [.ref H.size, .int (nI cc0), .ref (a + 1)] h C mi_X3_17 (k_X5_init l D cA s0 H.size nr hAO) ⟨rfl, rfl, nb rfl, nb rfl⟩ rfl (Lay.one h1 hz) (nb rfl) ⟨by show _ ≤ 1963; omega, by show _ ≤ 12198; omega⟩ dX3_init_30) (hS.grow hz ho) (fun q hq => by unfold xA0 at hq ⊢; omega) (fun H2 locs2 hw2 hz2 hk2 hS2 => ?_)
      have hk3 : ∀ q : Nat, q < a + (2 + 327 * cc0) → H2[q]? = H[q]? := fun q hq => (hk2 q (by omega) (by unfold xA0; omega)).trans (ho q (by omega))
      have hw3 : Lay D _ (a + (2 + 327 * cc0)) 327 H2 := hz0 ▸ hw2
      have hL2 := hL.app hw3 hk3
      have hv := hw2.zero (by decide) rfl
      refine x_astq (t := 8) (k := cc0) C (hL2.at 1 (by omega) (show _ = _ from if_pos (by omega))) rfl hv (cf_X5).1 rfl (by omega) (by decide) dX3_init_33 hS2 (X 1) (fun H3 locs3 h3 ho3 hz3 hS3 => ?_)
      have hL3 := hL2.set 1 h3 ho3 hz3
      refine x_iinc (nI (cc0 + 1)) [(1, .int (nI (cc0 + 1))), (0, .ref a)] C dX3_init_34 rfl (by rw [nI_succ]; rfl) (by decide) rfl ?_
      refine x_goto 15 C dX3_init_37 (by decide) ?_
      refine x_widen (k := 1 + 327 * (cc0 + 1)) (n := 6 + 2032 * (cc0 + 1)) (by omega) (by omega) ?_
      refine ih (cc0 + 1) (by omega) H3 locs3 ?_ hS3
      rw [show 2 + 327 * (cc0 + 1) = 2 + 327 * cc0 + 327 by omega]
      refine hL3.congr (fun o ho => ?_)
      by_cases q : o = 1
      · rw [if_pos q, q]
        show Sum.inl (cA 8, 6, Sum.inr (Sum.inr (Sum.inr (Sum.inr (va_up (pf a 2 327 cc0) cc0 (some H.size)))))) = Sum.inl (cA 8, 6, Sum.inr (Sum.inr (Sum.inr (Sum.inr (pf a 2 327 (cc0 + 1))))))
        rw [pf_up hz0]
      · rw [if_neg q]
        by_cases q2 : o < 2 + 327 * cc0
        · rw [if_pos q2]
          unfold HisE
          by_cases q0 : o = 0
          · rw [if_pos q0, if_pos q0]
          · rw [if_neg q0, if_neg q0, if_neg q, if_neg q]
        · rw [if_neg q2]
          unfold HisE
          rw [if_neg (by omega), if_neg (by omega), show (o - 2) / 327 = cc0 by omega, show (o - 2) % 327 = o - (2 + 327 * cc0) by omega]
  have hL := hw
  have hS : va_S (xA0 a) s.heap s.heap [] := va_S.rf
  refine x_aload_n C dX3_init_0 rfl ?_
  refine x_obj C oi_X3_3 oi_i oi_c (nb rfl) (nb rfl) dX3_init_1 ?_
  refine x_aload_n C dX3_init_4 rfl ?_
  refine x_bipush (6 : Int32) C dX3_init_5 rfl ?_
  refine x_newaQ (N := 6) (t := 8) C hAO.2.2.2.2.2 rfl kl_X3_9 rfl (by decide) (nb rfl) (nb rfl) dX3_init_7 (fun H1 h1 hz ho => ?_)
  have hS := hS.grow hz ho
  have ea := hL.1
  have hL := hL.push h1 hz ho
  rw [ea]
  refine x_putF C fl_X3_11 (hL.zero (by decide) rfl) rfl hin rfl rfl rfl (nb rfl) dX3_init_10 hS (Nat.le_refl _) (fun H2 locs2 h2 ho2 hz2 hS => ?_)
  have hL := hL.set 0 h2 ho2 hz2
  refine x_iconst (0 : Int32) C dX3_init_13 rfl ?_
  refine x_istore_n [(1, .int (nI 0)), (0, .ref a)] C dX3_init_14 rfl (by decide) rfl ?_
  refine hl 6 0 (by decide) _ _ (hL.congr ?_) hS
  intro o ho
  match o, ho with
  | 0, _ => rfl
  | 1, _ => rfl
  | o + 2, h => exact absurd h (by omega)
/-- the class's cells, its own fields fs -/
def CE (cA : Nat → ClassId) (nr a : Nat) (fs : List Value) (o : Nat) : va_E :=
  if o = 0 then .inr (11, fs) else if o < 4 then BytE cA (a + 1) 800 (o - 1) else if o < 7 then BytE cA (a + 4) 1400 (o - 4) else if o < 334 then RowEnd cA nr (a + 7) (o - 7) else if o < 661 then RowEnd cA nr (a + 334) (o - 334)
  else if o < 662 then .inr (7, [.ref (a + 1), .ref (a + 334), .int 0, .int 0, .int 0, .int 0, .int 0, .int 0, .int 0, .int 0, .int (-1)]) else if o < 2626 then HisE cA nr (a + 662) 6 (o - 662) else if o < 2627 then .inr (0, [.ref (a + 7)]) else .inr (8, [.ref (a + 7), .ref (a + 2626), .ref (a + 4)])
theorem x_heap {p : Program} {l : Launch} {e : Env} {R : Room} {s : State} {m : MethodId} {args : Array Value} {below : List Frame} {meth : Method} {c : Code} {nL : Nat} {Q : State → Prop} {H H' : Heap} {locs : List Loc} {cells slots : Nat} {pc : Nat} {lv : List (Nat × Value)} {st : List Value} (h : H' = H) (kk : xW p l e R s m args below meth c nL Q H' locs cells slots pc lv st) : xW p l e R s m args below meth c nL Q H locs cells slots pc lv st := h ▸ kk
set_option maxRecDepth 20000 in
set_option maxHeartbeats 4000000 in
theorem k_X11_init (l : Launch) (D : va_G) (cA : Nat → ClassId) (s0 : State) (a : Nat) (nr : Nat) (hAO : xAOs s0) : Met l yX11_init (wsG yX11_init cX11_init 1 none) { frames := 6, cells := 2627, slots := 18524, locals := 140 } (xP D cA s0 [.ref a] (fun H => Lay D (fun _ => (.inr (11, [.null, .null, .null, .null, .null, .null, .null, .null]))) a 1 H)) (xQm none (fun H => Lay D (CE cA nr a [.ref (a + 1), .ref (a + 4), .ref (a + 7), .ref (a + 334), .ref (a + 661), .ref (a + 662), .ref (a + 2626), .ref (a + 2627)]) a 2628 H) (xA0 a)) 2627 18524 (xA0 a) := by
  refine i_start (own := RX11) [(0, .ref a)] rfl rfl (by decide) (nb rfl) ?_
  intro p e s m args below meth c C hin hw
  have hL : Lay D (CE cA nr a [.null, .null, .null, .null, .null, .null, .null, .null]) a 1 s.heap := hw.congr (fun o ho => by
    have : o = 0 := by omega
    subst this
    rfl)
  have hS : va_S (xA0 a) s.heap s.heap [] := va_S.rf
  refine x_aload_n C dX11_init_0 rfl ?_
  refine x_obj C oi_X11_1 oi_i oi_c (nb rfl) (nb rfl) dX11_init_1 ?_
  obtain ⟨H0, hH0⟩ : ∃ z, z = s.heap := ⟨_, rfl⟩
  have hL : Lay D (CE cA nr a [.null, .null, .null, .null, .null, .null, .null, .null]) a 1 H0 := by rw [hH0]; exact hL
  have hS : va_S (xA0 a) s.heap H0 [] := by rw [hH0]; exact hS
  refine x_heap hH0 ?_
  refine x_aload_n C dX11_init_4 rfl ?_
  have ez := hL.1
  refine x_new C cf_X1 kl_X11_7 in_1 ii_1 df_1 (nb rfl) (nb rfl) dX11_init_5 (fun H1 h1 hz ho => ?_)
  have hL1 := hL.push h1 hz ho
  refine x_dup C dX11_init_8 rfl ?_
  refine x_sipush (800 : Int32) C dX11_init_9 rfl ?_
  refine x_topi (nI 800) rfl ?_
  refine x_goM (fun ls h => x_runI (As := [.int (nI 800)]) [.ref H0.size, .ref a] h C mi_X11_11 (k_X1_init l D cA s0 H0.size 800 (by decide)) ⟨rfl, rfl, nb rfl, nb rfl⟩ rfl (Lay.one h1 hz) (nb rfl) ⟨nb rfl, nb rfl⟩ dX11_init_12) (hS.grow hz ho) (fun q hq => by unfold xA0 at hq ⊢; omega) (fun H2 locs2 hw2 hz2 hk2 hS2 => ?_)
  have hk3 : ∀ q : Nat, q < a + 1 → H2[q]? = H0[q]? := fun q hq => (hk2 q (by omega) (by unfold xA0; omega)).trans (ho q (by omega))
  have hw3 : Lay D _ (a + 1) 3 H2 := ez ▸ hw2
  have hL2 := hL.app hw3 hk3
  rw [ez]
  refine x_putF C fl_X11_14 (hL2.zero (by decide) rfl) rfl hin rfl rfl rfl (nb rfl) dX11_init_15 hS2 (Nat.le_refl _) (fun H3 locs3 h3 ho3 hz3 hS => ?_)
  have hL3 := hL2.set 0 h3 ho3 hz3
  have hL : Lay D (CE cA nr a [.ref (a + 1), .null, .null, .null, .null, .null, .null, .null]) a 4 H3 := hL3.congr (fun o ho => by
    unfold CE
    repeat' split
    all_goals first | rfl | (exfalso; omega) | (congr 1; omega))
  clear hL1 hL2 hL3 hw2 hw3 hk2 hk3 h1 h3
  generalize H3 = H0 at hL hS ⊢
  refine x_widen (k := 3) (n := 822) (nb rfl) (nb rfl) ?_
  refine x_aload_n C dX11_init_18 rfl ?_
  have ez := hL.1
  refine x_new C cf_X1 kl_X11_7 in_1 ii_1 df_1 (nb rfl) (nb rfl) dX11_init_19 (fun H1 h1 hz ho => ?_)
  have hL1 := hL.push h1 hz ho
  refine x_dup C dX11_init_22 rfl ?_
  refine x_sipush (1400 : Int32) C dX11_init_23 rfl ?_
  refine x_topi (nI 1400) rfl ?_
  refine x_goM (fun ls h => x_runI (As := [.int (nI 1400)]) [.ref H0.size, .ref a] h C mi_X11_11 (k_X1_init l D cA s0 H0.size 1400 (by decide)) ⟨rfl, rfl, nb rfl, nb rfl⟩ rfl (Lay.one h1 hz) (nb rfl) ⟨nb rfl, nb rfl⟩ dX11_init_26) (hS.grow hz ho) (fun q hq => by unfold xA0 at hq ⊢; omega) (fun H2 locs2 hw2 hz2 hk2 hS2 => ?_)
  have hk3 : ∀ q : Nat, q < a + 4 → H2[q]? = H0[q]? := fun q hq => (hk2 q (by omega) (by unfold xA0; omega)).trans (ho q (by omega))
  have hw3 : Lay D _ (a + 4) 3 H2 := ez ▸ hw2
  have hL2 := hL.app hw3 hk3
  rw [ez]
  refine x_putF C fl_X11_18 (hL2.zero (by decide) rfl) rfl hin rfl rfl rfl (nb rfl) dX11_init_29 hS2 (Nat.le_refl _) (fun H3 locs3 h3 ho3 hz3 hS => ?_)
  have hL3 := hL2.set 0 h3 ho3 hz3
  have hL : Lay D (CE cA nr a [.ref (a + 1), .ref (a + 4), .null, .null, .null, .null, .null, .null]) a 7 H3 := hL3.congr (fun o ho => by
    unfold CE
    repeat' split
    all_goals first | rfl | (exfalso; omega) | (congr 1; omega))
  clear hL1 hL2 hL3 hw2 hw3 hk2 hk3 h1 h3
  generalize H3 = H0 at hL hS ⊢
  refine x_widen (k := 6) (n := 2244) (nb rfl) (nb rfl) ?_
  refine x_aload_n C dX11_init_32 rfl ?_
  have ez := hL.1
  refine x_new C cf_X5 kl_X11_21 in_5 ii_5 df_5 (nb rfl) (nb rfl) dX11_init_33 (fun H1 h1 hz ho => ?_)
  have hL1 := hL.push h1 hz ho
  refine x_dup C dX11_init_36 rfl ?_
  refine x_goM (fun ls h => x_runI (As := []) [.ref H0.size, .ref a] h C mi_X11_23 (k_X5_init l D cA s0 H0.size nr hAO) ⟨rfl, rfl, nb rfl, nb rfl⟩ rfl (Lay.one h1 hz) (nb rfl) ⟨nb rfl, nb rfl⟩ dX11_init_37) (hS.grow hz ho) (fun q hq => by unfold xA0 at hq ⊢; omega) (fun H2 locs2 hw2 hz2 hk2 hS2 => ?_)
  have hk3 : ∀ q : Nat, q < a + 7 → H2[q]? = H0[q]? := fun q hq => (hk2 q (by omega) (by unfold xA0; omega)).trans (ho q (by omega))
  have hw3 : Lay D _ (a + 7) 327 H2 := ez ▸ hw2
  have hL2 := hL.app hw3 hk3
  rw [ez]
  refine x_putF C fl_X11_24 (hL2.zero (by decide) rfl) rfl hin rfl rfl rfl (nb rfl) dX11_init_40 hS2 (Nat.le_refl _) (fun H3 locs3 h3 ho3 hz3 hS => ?_)
  have hL3 := hL2.set 0 h3 ho3 hz3
  have hL : Lay D (CE cA nr a [.ref (a + 1), .ref (a + 4), .ref (a + 7), .null, .null, .null, .null, .null]) a 334 H3 := hL3.congr (fun o ho => by
    unfold CE
    repeat' split
    all_goals first | rfl | (exfalso; omega) | (congr 1; omega))
  clear hL1 hL2 hL3 hw2 hw3 hk2 hk3 h1 h3
  generalize H3 = H0 at hL hS ⊢
  refine x_widen (k := 333) (n := 4276) (nb rfl) (nb rfl) ?_
  refine x_aload_n C dX11_init_43 rfl ?_
  have ez := hL.1
  refine x_new C cf_X5 kl_X11_21 in_5 ii_5 df_5 (nb rfl) (nb rfl) dX11_init_44 (fun H1 h1 hz ho => ?_)
  have hL1 := hL.push h1 hz ho
  refine x_dup C dX11_init_47 rfl ?_
  refine x_goM (fun ls h => x_runI (As := []) [.ref H0.size, .ref a] h C mi_X11_23 (k_X5_init l D cA s0 H0.size nr hAO) ⟨rfl, rfl, nb rfl, nb rfl⟩ rfl (Lay.one h1 hz) (nb rfl) ⟨nb rfl, nb rfl⟩ dX11_init_48) (hS.grow hz ho) (fun q hq => by unfold xA0 at hq ⊢; omega) (fun H2 locs2 hw2 hz2 hk2 hS2 => ?_)
  have hk3 : ∀ q : Nat, q < a + 334 → H2[q]? = H0[q]? := fun q hq => (hk2 q (by omega) (by unfold xA0; omega)).trans (ho q (by omega))
  have hw3 : Lay D _ (a + 334) 327 H2 := ez ▸ hw2
  have hL2 := hL.app hw3 hk3
  rw [ez]
  refine x_putF C fl_X11_28 (hL2.zero (by decide) rfl) rfl hin rfl rfl rfl (nb rfl) dX11_init_51 hS2 (Nat.le_refl _) (fun H3 locs3 h3 ho3 hz3 hS => ?_)
  have hL3 := hL2.set 0 h3 ho3 hz3
  have hL : Lay D (CE cA nr a [.ref (a + 1), .ref (a + 4), .ref (a + 7), .ref (a + 334), .null, .null, .null, .null]) a 661 H3 := hL3.congr (fun o ho => by
    unfold CE
    repeat' split
    all_goals first | rfl | (exfalso; omega) | (congr 1; omega))
  clear hL1 hL2 hL3 hw2 hw3 hk2 hk3 h1 h3
  generalize H3 = H0 at hL hS ⊢
  refine x_widen (k := 660) (n := 6308) (nb rfl) (nb rfl) ?_
  refine x_aload_n C dX11_init_54 rfl ?_
  have ez := hL.1
  refine x_new C cf_X7 kl_X11_31 in_7 ii_7 df_7 (nb rfl) (nb rfl) dX11_init_55 (fun H1 h1 hz ho => ?_)
  have hL1 := hL.push h1 hz ho
  refine x_dup C dX11_init_58 rfl ?_
  refine x_aload_n C dX11_init_59 rfl ?_
  refine x_get (.ref (a + 1)) C fl_X11_14 (hL1.zero (by decide) rfl) rfl dX11_init_60 ?_
  refine x_aload_n C dX11_init_63 rfl ?_
  refine x_get (.ref (a + 334)) C fl_X11_28 (hL1.zero (by decide) rfl) rfl dX11_init_64 ?_
  refine x_goM (fun ls h => x_runI (As := [.ref (a + 1), .ref (a + 334)]) [.ref H0.size, .ref a] h C mi_X11_33 (k_X7_init l D cA s0 H0.size (a + 1) (a + 334)) ⟨rfl, rfl, nb rfl, nb rfl⟩ rfl (Lay.one h1 hz) (nb rfl) ⟨nb rfl, nb rfl⟩ dX11_init_67) (hS.grow hz ho) (fun q hq => by unfold xA0 at hq ⊢; omega) (fun H2 locs2 hw2 hz2 hk2 hS2 => ?_)
  have hk3 : ∀ q : Nat, q < a + 661 → H2[q]? = H0[q]? := fun q hq => (hk2 q (by omega) (by unfold xA0; omega)).trans (ho q (by omega))
  have hw3 : Lay D _ (a + 661) 1 H2 := ez ▸ hw2
  have hL2 := hL.app hw3 hk3
  rw [ez]
  refine x_putF C fl_X11_36 (hL2.zero (by decide) rfl) rfl hin rfl rfl rfl (nb rfl) dX11_init_70 hS2 (Nat.le_refl _) (fun H3 locs3 h3 ho3 hz3 hS => ?_)
  have hL3 := hL2.set 0 h3 ho3 hz3
  have hL : Lay D (CE cA nr a [.ref (a + 1), .ref (a + 4), .ref (a + 7), .ref (a + 334), .ref (a + 661), .null, .null, .null]) a 662 H3 := hL3.congr (fun o ho => by
    unfold CE
    repeat' split
    all_goals first | rfl | (exfalso; omega) | (congr 1; omega))
  clear hL1 hL2 hL3 hw2 hw3 hk2 hk3 h1 h3
  generalize H3 = H0 at hL hS ⊢
  refine x_widen (k := 661) (n := 6319) (nb rfl) (nb rfl) ?_
  refine x_aload_n C dX11_init_73 rfl ?_
  have ez := hL.1
  refine x_new C cf_X3 kl_X11_40 in_3 ii_3 df_3 (nb rfl) (nb rfl) dX11_init_74 (fun H1 h1 hz ho => ?_)
  have hL1 := hL.push h1 hz ho
  refine x_dup C dX11_init_77 rfl ?_
  refine x_goM (fun ls h => x_runI (As := []) [.ref H0.size, .ref a] h C mi_X11_42 (k_X3_init l D cA s0 H0.size nr hAO) ⟨rfl, rfl, nb rfl, nb rfl⟩ rfl (Lay.one h1 hz) (nb rfl) ⟨nb rfl, nb rfl⟩ dX11_init_78) (hS.grow hz ho) (fun q hq => by unfold xA0 at hq ⊢; omega) (fun H2 locs2 hw2 hz2 hk2 hS2 => ?_)
  have hk3 : ∀ q : Nat, q < a + 662 → H2[q]? = H0[q]? := fun q hq => (hk2 q (by omega) (by unfold xA0; omega)).trans (ho q (by omega))
  have hw3 : Lay D _ (a + 662) 1964 H2 := ez ▸ hw2
  have hL2 := hL.app hw3 hk3
  rw [ez]
  refine x_putF C fl_X11_43 (hL2.zero (by decide) rfl) rfl hin rfl rfl rfl (nb rfl) dX11_init_81 hS2 (Nat.le_refl _) (fun H3 locs3 h3 ho3 hz3 hS => ?_)
  have hL3 := hL2.set 0 h3 ho3 hz3
  have hL : Lay D (CE cA nr a [.ref (a + 1), .ref (a + 4), .ref (a + 7), .ref (a + 334), .ref (a + 661), .ref (a + 662), .null, .null]) a 2626 H3 := hL3.congr (fun o ho => by
    unfold CE
    repeat' split
    all_goals first | rfl | (exfalso; omega) | (congr 1; omega))
  clear hL1 hL2 hL3 hw2 hw3 hk2 hk3 h1 h3
  generalize H3 = H0 at hL hS ⊢
  refine x_widen (k := 2625) (n := 18520) (nb rfl) (nb rfl) ?_
  refine x_aload_n C dX11_init_84 rfl ?_
  have ez := hL.1
  refine x_new C cf_X0 kl_X11_47 in_0 ii_0 df_0 (nb rfl) (nb rfl) dX11_init_85 (fun H1 h1 hz ho => ?_)
  have hL1 := hL.push h1 hz ho
  refine x_dup C dX11_init_88 rfl ?_
  refine x_aload_n C dX11_init_89 rfl ?_
  refine x_get (.ref (a + 7)) C fl_X11_24 (hL1.zero (by decide) rfl) rfl dX11_init_90 ?_
  refine x_goM (fun ls h => x_runI (As := [.ref (a + 7)]) [.ref H0.size, .ref a] h C mi_X11_49 (k_X0_init l D cA s0 H0.size (a + 7)) ⟨rfl, rfl, nb rfl, nb rfl⟩ rfl (Lay.one h1 hz) (nb rfl) ⟨nb rfl, nb rfl⟩ dX11_init_93) (hS.grow hz ho) (fun q hq => by unfold xA0 at hq ⊢; omega) (fun H2 locs2 hw2 hz2 hk2 hS2 => ?_)
  have hk3 : ∀ q : Nat, q < a + 2626 → H2[q]? = H0[q]? := fun q hq => (hk2 q (by omega) (by unfold xA0; omega)).trans (ho q (by omega))
  have hw3 : Lay D _ (a + 2626) 1 H2 := ez ▸ hw2
  have hL2 := hL.app hw3 hk3
  rw [ez]
  refine x_putF C fl_X11_52 (hL2.zero (by decide) rfl) rfl hin rfl rfl rfl (nb rfl) dX11_init_96 hS2 (Nat.le_refl _) (fun H3 locs3 h3 ho3 hz3 hS => ?_)
  have hL3 := hL2.set 0 h3 ho3 hz3
  have hL : Lay D (CE cA nr a [.ref (a + 1), .ref (a + 4), .ref (a + 7), .ref (a + 334), .ref (a + 661), .ref (a + 662), .ref (a + 2626), .null]) a 2627 H3 := hL3.congr (fun o ho => by
    unfold CE
    repeat' split
    all_goals first | rfl | (exfalso; omega) | (congr 1; omega))
  clear hL1 hL2 hL3 hw2 hw3 hk2 hk3 h1 h3
  generalize H3 = H0 at hL hS ⊢
  refine x_widen (k := 2626) (n := 18521) (nb rfl) (nb rfl) ?_
  refine x_aload_n C dX11_init_99 rfl ?_
  have ez := hL.1
  refine x_new C cf_X8 kl_X11_56 in_8 ii_8 df_8 (nb rfl) (nb rfl) dX11_init_100 (fun H1 h1 hz ho => ?_)
  have hL1 := hL.push h1 hz ho
  refine x_dup C dX11_init_103 rfl ?_
  refine x_aload_n C dX11_init_104 rfl ?_
  refine x_get (.ref (a + 7)) C fl_X11_24 (hL1.zero (by decide) rfl) rfl dX11_init_105 ?_
  refine x_aload_n C dX11_init_108 rfl ?_
  refine x_get (.ref (a + 2626)) C fl_X11_52 (hL1.zero (by decide) rfl) rfl dX11_init_109 ?_
  refine x_aload_n C dX11_init_112 rfl ?_
  refine x_get (.ref (a + 4)) C fl_X11_18 (hL1.zero (by decide) rfl) rfl dX11_init_113 ?_
  refine x_goM (fun ls h => x_runI (As := [.ref (a + 7), .ref (a + 2626), .ref (a + 4)]) [.ref H0.size, .ref a] h C mi_X11_58 (k_X8_init l D cA s0 H0.size (a + 7) (a + 2626) (a + 4)) ⟨rfl, rfl, nb rfl, nb rfl⟩ rfl (Lay.one h1 hz) (nb rfl) ⟨nb rfl, nb rfl⟩ dX11_init_116) (hS.grow hz ho) (fun q hq => by unfold xA0 at hq ⊢; omega) (fun H2 locs2 hw2 hz2 hk2 hS2 => ?_)
  have hk3 : ∀ q : Nat, q < a + 2627 → H2[q]? = H0[q]? := fun q hq => (hk2 q (by omega) (by unfold xA0; omega)).trans (ho q (by omega))
  have hw3 : Lay D _ (a + 2627) 1 H2 := ez ▸ hw2
  have hL2 := hL.app hw3 hk3
  rw [ez]
  refine x_putF C fl_X11_61 (hL2.zero (by decide) rfl) rfl hin rfl rfl rfl (nb rfl) dX11_init_119 hS2 (Nat.le_refl _) (fun H3 locs3 h3 ho3 hz3 hS => ?_)
  have hL3 := hL2.set 0 h3 ho3 hz3
  have hL : Lay D (CE cA nr a [.ref (a + 1), .ref (a + 4), .ref (a + 7), .ref (a + 334), .ref (a + 661), .ref (a + 662), .ref (a + 2626), .ref (a + 2627)]) a 2628 H3 := hL3.congr (fun o ho => by
    unfold CE
    repeat' split
    all_goals first | rfl | (exfalso; omega) | (congr 1; omega))
  clear hL1 hL2 hL3 hw2 hw3 hk2 hk3 h1 h3
  generalize H3 = H0 at hL hS ⊢
  refine x_widen (k := 2627) (n := 18524) (nb rfl) (nb rfl) ?_
  exact x_vretM2 C rfl dX11_init_122 rfl hL hS (nb rfl) (nb rfl)
def ME (cA : Nat → ClassId) (fs : List Value) (net : Nat → Int32) (o : Nat) : va_E := if o = 0 then .inr (12, fs) else if o = 1 then .inl (cA 0, 1377, .inl net) else if o = 2 then .inl (cA 0, 1377, .inl (fun _ => 0)) else if o = 3 then .inl (cA 1, 8, .inr (.inl (fun _ => 0))) else if o = 4 then .inl (cA 2, 800, .inl (fun _ => 0)) else if o = 5 then .inl (cA 0, 8262, .inl (fun _ => 0)) else if o = 6 then .inl (cA 1, 48, .inr (.inl (fun _ => 0))) else .inl (cA 2, 3000, .inl (fun _ => 0))
set_option maxRecDepth 20000 in
set_option maxHeartbeats 4000000 in
theorem k_X12_init (l : Launch) (D : va_G) (cA : Nat → ClassId) (s0 : State) (a : Nat) : Met l yX12_init (wsG yX12_init cX12_init 1 none) { frames := 1, cells := 7, slots := 14872, locals := 20 } (xP D cA s0 [.ref a] (fun H => Lay D (fun _ => (.inr (12, [.int 0, .null, .null, .null, .null, .null, .int 0, .int 0, .int 0, .int 0, .int 0, .int 0, .int 0, .int 0, .int 0, .int 0, .int 0, .null, .null, .int 0, .null, .int 0]))) a 1 H)) (xQm none (fun H => Lay D (ME cA [.int 0, .ref (a + 1), .ref (a + 2), .ref (a + 1), .ref (a + 3), .ref (a + 4), .int 0, .int 0, .int 0, .int 0, .int 0, .int 0, .int 0, .int (-1), .int 0, .int 0, .int 0, .ref (a + 5), .ref (a + 6), .int 0, .ref (a + 7), .int 0] (upd (fun _ => 0) 32 30)) a 8 H) (xA0 a)) 7 14872 (xA0 a) := by
  refine i_start (own := RX12) [(0, .ref a)] rfl rfl (by decide) (nb rfl) ?_
  intro p e s m args below meth c C hin hw
  have hL : Lay D (ME cA [.int 0, .null, .null, .null, .null, .null, .int 0, .int 0, .int 0, .int 0, .int 0, .int 0, .int 0, .int 0, .int 0, .int 0, .int 0, .null, .null, .int 0, .null, .int 0] (fun _ => 0)) a 1 s.heap := hw.congr (fun o ho => by
    have : o = 0 := by omega
    subst this
    rfl)
  have hS : va_S (xA0 a) s.heap s.heap [] := va_S.rf
  refine x_aload_n C dX12_init_0 rfl ?_
  refine x_obj C oi_X12_11 oi_i oi_c (nb rfl) (nb rfl) dX12_init_1 ?_
  refine x_aload_n C dX12_init_4 rfl ?_
  refine x_sipush (1377 : Int32) C dX12_init_5 rfl ?_
  refine x_newaI (N := 1377) C ar_int rfl (by decide) (nb rfl) (nb rfl) dX12_init_8 (fun H1 h1 hz ho => ?_)
  have hS := hS.grow hz ho
  have ea := hL.1
  have hL1 := hL.push h1 hz ho
  rw [ea]
  refine x_putF C fl_X12_17 (hL1.zero (by decide) rfl) rfl hin rfl rfl rfl (nb rfl) dX12_init_10 hS (Nat.le_refl _) (fun H2 locs2 h2 ho2 hz2 hS => ?_)
  have hL : Lay D (ME cA [.int 0, .ref (a + 1), .null, .null, .null, .null, .int 0, .int 0, .int 0, .int 0, .int 0, .int 0, .int 0, .int 0, .int 0, .int 0, .int 0, .null, .null, .int 0, .null, .int 0] (fun _ => 0)) a 2 H2 := (hL1.set 0 h2 ho2 hz2).congr (fun o ho => by
    unfold ME
    repeat' split
    all_goals first | rfl | (exfalso; omega))
  refine x_aload_n C dX12_init_13 rfl ?_
  refine x_sipush (1377 : Int32) C dX12_init_14 rfl ?_
  refine x_newaI (N := 1377) C ar_int rfl (by decide) (nb rfl) (nb rfl) dX12_init_17 (fun H1 h1 hz ho => ?_)
  have hS := hS.grow hz ho
  have ea := hL.1
  have hL1 := hL.push h1 hz ho
  rw [ea]
  refine x_putF C fl_X12_21 (hL1.zero (by decide) rfl) rfl hin rfl rfl rfl (nb rfl) dX12_init_19 hS (Nat.le_refl _) (fun H2 locs2 h2 ho2 hz2 hS => ?_)
  have hL : Lay D (ME cA [.int 0, .ref (a + 1), .ref (a + 2), .null, .null, .null, .int 0, .int 0, .int 0, .int 0, .int 0, .int 0, .int 0, .int 0, .int 0, .int 0, .int 0, .null, .null, .int 0, .null, .int 0] (fun _ => 0)) a 3 H2 := (hL1.set 0 h2 ho2 hz2).congr (fun o ho => by
    unfold ME
    repeat' split
    all_goals first | rfl | (exfalso; omega))
  refine x_aload_n C dX12_init_22 rfl ?_
  refine x_aload_n C dX12_init_23 rfl ?_
  refine x_get (.ref (a + 1)) C fl_X12_17 (hL.zero (by decide) rfl) rfl dX12_init_24 ?_
  refine x_put0 C fl_X12_24 (hL.zero (by decide) rfl) rfl rfl rfl (nb rfl) dX12_init_27 hS (Nat.le_refl _) (fun H2 locs2 h2 ho2 hz2 hS => ?_)
  have hL : Lay D (ME cA [.int 0, .ref (a + 1), .ref (a + 2), .ref (a + 1), .null, .null, .int 0, .int 0, .int 0, .int 0, .int 0, .int 0, .int 0, .int 0, .int 0, .int 0, .int 0, .null, .null, .int 0, .null, .int 0] (fun _ => 0)) a 3 H2 := (hL.set 0 h2 ho2 hz2).congr (fun o ho => by
    unfold ME
    repeat' split
    all_goals first | rfl | (exfalso; omega))
  refine x_aload_n C dX12_init_30 rfl ?_
  refine x_bipush (8 : Int32) C dX12_init_31 rfl ?_
  refine x_newaL (N := 8) C ar_long rfl (by decide) (nb rfl) (nb rfl) dX12_init_33 (fun H1 h1 hz ho => ?_)
  have hS := hS.grow hz ho
  have ea := hL.1
  have hL1 := hL.push h1 hz ho
  rw [ea]
  refine x_putF C fl_X12_27 (hL1.zero (by decide) rfl) rfl hin rfl rfl rfl (nb rfl) dX12_init_35 hS (Nat.le_refl _) (fun H2 locs2 h2 ho2 hz2 hS => ?_)
  have hL : Lay D (ME cA [.int 0, .ref (a + 1), .ref (a + 2), .ref (a + 1), .ref (a + 3), .null, .int 0, .int 0, .int 0, .int 0, .int 0, .int 0, .int 0, .int 0, .int 0, .int 0, .int 0, .null, .null, .int 0, .null, .int 0] (fun _ => 0)) a 4 H2 := (hL1.set 0 h2 ho2 hz2).congr (fun o ho => by
    unfold ME
    repeat' split
    all_goals first | rfl | (exfalso; omega))
  refine x_aload_n C dX12_init_38 rfl ?_
  refine x_sipush (800 : Int32) C dX12_init_39 rfl ?_
  refine x_newaB (N := 800) C ar_byte rfl (by decide) (nb rfl) (nb rfl) dX12_init_42 (fun H1 h1 hz ho => ?_)
  have hS := hS.grow hz ho
  have ea := hL.1
  have hL1 := hL.push h1 hz ho
  rw [ea]
  refine x_putF C fl_X12_31 (hL1.zero (by decide) rfl) rfl hin rfl rfl rfl (nb rfl) dX12_init_44 hS (Nat.le_refl _) (fun H2 locs2 h2 ho2 hz2 hS => ?_)
  have hL : Lay D (ME cA [.int 0, .ref (a + 1), .ref (a + 2), .ref (a + 1), .ref (a + 3), .ref (a + 4), .int 0, .int 0, .int 0, .int 0, .int 0, .int 0, .int 0, .int 0, .int 0, .int 0, .int 0, .null, .null, .int 0, .null, .int 0] (fun _ => 0)) a 5 H2 := (hL1.set 0 h2 ho2 hz2).congr (fun o ho => by
    unfold ME
    repeat' split
    all_goals first | rfl | (exfalso; omega))
  refine x_aload_n C dX12_init_47 rfl ?_
  refine x_iconst (-1 : Int32) C dX12_init_48 rfl ?_
  refine x_put0 C fl_X12_35 (hL.zero (by decide) rfl) rfl rfl rfl (nb rfl) dX12_init_49 hS (Nat.le_refl _) (fun H2 locs2 h2 ho2 hz2 hS => ?_)
  have hL : Lay D (ME cA [.int 0, .ref (a + 1), .ref (a + 2), .ref (a + 1), .ref (a + 3), .ref (a + 4), .int 0, .int 0, .int 0, .int 0, .int 0, .int 0, .int 0, .int (-1), .int 0, .int 0, .int 0, .null, .null, .int 0, .null, .int 0] (fun _ => 0)) a 5 H2 := (hL.set 0 h2 ho2 hz2).congr (fun o ho => by
    unfold ME
    repeat' split
    all_goals first | rfl | (exfalso; omega))
  refine x_aload_n C dX12_init_52 rfl ?_
  refine x_sipush (8262 : Int32) C dX12_init_53 rfl ?_
  refine x_newaI (N := 8262) C ar_int rfl (by decide) (nb rfl) (nb rfl) dX12_init_56 (fun H1 h1 hz ho => ?_)
  have hS := hS.grow hz ho
  have ea := hL.1
  have hL1 := hL.push h1 hz ho
  rw [ea]
  refine x_putF C fl_X12_38 (hL1.zero (by decide) rfl) rfl hin rfl rfl rfl (nb rfl) dX12_init_58 hS (Nat.le_refl _) (fun H2 locs2 h2 ho2 hz2 hS => ?_)
  have hL : Lay D (ME cA [.int 0, .ref (a + 1), .ref (a + 2), .ref (a + 1), .ref (a + 3), .ref (a + 4), .int 0, .int 0, .int 0, .int 0, .int 0, .int 0, .int 0, .int (-1), .int 0, .int 0, .int 0, .ref (a + 5), .null, .int 0, .null, .int 0] (fun _ => 0)) a 6 H2 := (hL1.set 0 h2 ho2 hz2).congr (fun o ho => by
    unfold ME
    repeat' split
    all_goals first | rfl | (exfalso; omega))
  refine x_aload_n C dX12_init_61 rfl ?_
  refine x_bipush (48 : Int32) C dX12_init_62 rfl ?_
  refine x_newaL (N := 48) C ar_long rfl (by decide) (nb rfl) (nb rfl) dX12_init_64 (fun H1 h1 hz ho => ?_)
  have hS := hS.grow hz ho
  have ea := hL.1
  have hL1 := hL.push h1 hz ho
  rw [ea]
  refine x_putF C fl_X12_41 (hL1.zero (by decide) rfl) rfl hin rfl rfl rfl (nb rfl) dX12_init_66 hS (Nat.le_refl _) (fun H2 locs2 h2 ho2 hz2 hS => ?_)
  have hL : Lay D (ME cA [.int 0, .ref (a + 1), .ref (a + 2), .ref (a + 1), .ref (a + 3), .ref (a + 4), .int 0, .int 0, .int 0, .int 0, .int 0, .int 0, .int 0, .int (-1), .int 0, .int 0, .int 0, .ref (a + 5), .ref (a + 6), .int 0, .null, .int 0] (fun _ => 0)) a 7 H2 := (hL1.set 0 h2 ho2 hz2).congr (fun o ho => by
    unfold ME
    repeat' split
    all_goals first | rfl | (exfalso; omega))
  refine x_aload_n C dX12_init_69 rfl ?_
  refine x_sipush (3000 : Int32) C dX12_init_70 rfl ?_
  refine x_newaB (N := 3000) C ar_byte rfl (by decide) (nb rfl) (nb rfl) dX12_init_73 (fun H1 h1 hz ho => ?_)
  have hS := hS.grow hz ho
  have ea := hL.1
  have hL1 := hL.push h1 hz ho
  rw [ea]
  refine x_putF C fl_X12_44 (hL1.zero (by decide) rfl) rfl hin rfl rfl rfl (nb rfl) dX12_init_75 hS (Nat.le_refl _) (fun H2 locs2 h2 ho2 hz2 hS => ?_)
  have hL : Lay D (ME cA [.int 0, .ref (a + 1), .ref (a + 2), .ref (a + 1), .ref (a + 3), .ref (a + 4), .int 0, .int 0, .int 0, .int 0, .int 0, .int 0, .int 0, .int (-1), .int 0, .int 0, .int 0, .ref (a + 5), .ref (a + 6), .int 0, .ref (a + 7), .int 0] (fun _ => 0)) a 8 H2 := (hL1.set 0 h2 ho2 hz2).congr (fun o ho => by
    unfold ME
    repeat' split
    all_goals first | rfl | (exfalso; omega))
  refine x_aload_n C dX12_init_78 rfl ?_
  refine x_get (.ref (a + 1)) C fl_X12_17 (hL.zero (by decide) rfl) rfl dX12_init_79 ?_
  refine x_bipush (32 : Int32) C dX12_init_82 rfl ?_
  refine x_bipush (30 : Int32) C dX12_init_84 rfl ?_
  refine x_iast0 C (hL.at 1 (by decide) rfl) (vp_in_nI (by decide) (by decide)) dX12_init_86 hS (show a ≤ a + 1 by omega) (fun H2 locs2 h2 ho2 hz2 hS => ?_)
  have hL : Lay D (ME cA [.int 0, .ref (a + 1), .ref (a + 2), .ref (a + 1), .ref (a + 3), .ref (a + 4), .int 0, .int 0, .int 0, .int 0, .int 0, .int 0, .int 0, .int (-1), .int 0, .int 0, .int 0, .ref (a + 5), .ref (a + 6), .int 0, .ref (a + 7), .int 0] (upd (fun _ => 0) 32 30)) a 8 H2 := (hL.set 1 h2 ho2 hz2).congr (fun o ho => by
    unfold ME
    repeat' split
    all_goals first | rfl | (exfalso; omega))
  exact x_vretM2 C rfl dX12_init_87 rfl hL hS (nb rfl) (nb rfl)
