noncomputable def g_X12_remember_L120 (ν : Mm) : Nat → Mm → Int32 → Option (Mm)
  | 0, _, _ => none
  | n + 1, μ0, x1 => (if (8 : Int32) ≤ x1 then bnd (some (uI μ0 0 19 ((μ0.1 0 19) + (1 : Int32)))) (fun μ4 => some μ4) else asr (vp_in x1 8) (asr (vp_in (((8 : Int32) * (μ0.1 0 19)) + x1) 48) (bnd (some (uP μ0 6 (cl (((8 : Int32) * (μ0.1 0 19)) + x1)) (μ0.2.1 3 (cl x1)))) (fun μ12 => (g_X12_remember_L120 ν n μ12 (x1 + (1 : Int32)))))))
noncomputable def g_X12_remember_L84 (ν : Mm) : Nat → Mm → Int32 → Option (Mm)
  | 0, _, _ => none
  | n + 1, μ0, x1 => (if (1377 : Int32) ≤ x1 then (g_X12_remember_L120 ν 10000 μ0 (0 : Int32)) else asr (vp_in x1 1377) (asr (vp_in (((1377 : Int32) * (μ0.1 0 19)) + x1) 8262) (bnd (some (uI μ0 5 (cl (((1377 : Int32) * (μ0.1 0 19)) + x1)) (μ0.1 1 (cl x1)))) (fun μ20 => (g_X12_remember_L84 ν n μ20 (x1 + (1 : Int32)))))))
noncomputable def g_X12_remember_L45 (ν : Mm) : Nat → Mm → Int32 → Option (Mm)
  | 0, _, _ => none
  | n + 1, μ0, x1 => (if (48 : Int32) ≤ x1 then bnd (some (uI μ0 0 19 ((μ0.1 0 19) - (1 : Int32)))) (fun μ24 => (g_X12_remember_L84 ν 10000 μ24 (0 : Int32))) else asr (vp_in x1 48) (asr (vp_in (x1 - (8 : Int32)) 48) (bnd (some (uP μ0 6 (cl (x1 - (8 : Int32))) (μ0.2.1 6 (cl x1)))) (fun μ32 => (g_X12_remember_L45 ν n μ32 (x1 + (1 : Int32)))))))
noncomputable def g_X12_remember_L13 (ν : Mm) : Nat → Mm → Int32 → Option (Mm)
  | 0, _, _ => none
  | n + 1, μ0, x1 => (if (8262 : Int32) ≤ x1 then (g_X12_remember_L45 ν 10000 μ0 (8 : Int32)) else asr (vp_in x1 8262) (asr (vp_in (x1 - (1377 : Int32)) 8262) (bnd (some (uI μ0 5 (cl (x1 - (1377 : Int32))) (μ0.1 5 (cl x1)))) (fun μ40 => (g_X12_remember_L13 ν n μ40 (x1 + (1 : Int32)))))))
noncomputable def g_X12_remember (ν : Mm) : Option (Mm) := (if (ν.1 0 19) = (6 : Int32) then (g_X12_remember_L13 ν 10000 ν (1377 : Int32)) else (g_X12_remember_L84 ν 10000 ν (0 : Int32)))
set_option maxRecDepth 20000 in
set_option maxHeartbeats 4000000 in
theorem k_X12_remember (l : Launch) (D : va_G) (cA : Nat → ClassId) (s0 : State) (z : Nat) (b : Nat) (ν : Mm) (sz : Nat) (hG : xG l D cA s0) (r : Mm) (hF : g_X12_remember ν = some r) : Met l yX12_remember (wsG yX12_remember cX12_remember 2 none) { frames := 0, cells := 0, slots := 0, locals := 0 } (xP D cA s0 [.ref b] (fun H => H.size = sz ∧ RX D cA s0 z b ν H)) (xQm none (fun H => RX D cA s0 z b r H) (xA b 8 sz)) 0 0 (xA b 8 sz) := by
  refine x_start (own := RX12) [(0, .ref b)] rfl rfl (by decide) (nb rfl) ?_
  intro p e s m args below meth c C hw
  obtain ⟨hsz, hw⟩ := hw
  subst hsz
  have hS : va_S (xA b 8 s.heap.size) s.heap s.heap [] := va_S.rf
  have h_L120 : ∀ (n : Nat) (μ0 : Mm) (x1 : Int32) (H : Heap) (locs : List Loc) (hw : RX D cA s0 z b μ0 H) (hS : va_S (xA b 8 s.heap.size) s.heap H locs), g_X12_remember_L120 ν n μ0 x1 = some r → xW p l e { frames := 0, cells := 0, slots := 0, locals := 0 } s m args below meth c 2 (MQ below (xQm none (fun H => RX D cA s0 z b r H) (xA b 8 s.heap.size)) args s 0 0 (xA b 8 s.heap.size)) H locs 0 0 120 [(0, .ref b), (1, .int x1)] [] := by
    intro n
    induction n with
    | zero =>
      intro μ0 x1 H locs hw hS hF
      exact no_some hF
    | succ n ih =>
      intro μ0 x1 H locs hw hS hF
      have ih120 := ih
      refine x_iload_n C dX12_remember_120 rfl ?_
      refine x_bipush (8 : Int32) C dX12_remember_121 rfl ?_
      refine x_icmp_ge 152 C dX12_remember_123 (by decide) (fun c3 => ?_) (fun c3 => ?_)
      · have hF := ite_t hF c3
        refine x_aload_n C dX12_remember_152 rfl ?_
        refine x_dup C dX12_remember_153 rfl ?_
        refine x_get (.int (μ0.1 0 19)) C fl_X12_442 (M_obj hw.2.2.2.2) rfl dX12_remember_154 ?_
        refine x_iconst (1 : Int32) C dX12_remember_157 rfl ?_
        refine x_iadd C dX12_remember_158 ?_
        refine m_putI (kk0 := 19) C fl_X12_442 hw rfl rfl rfl rfl (nb rfl) dX12_remember_159 hS (fun H locs hw hS => ?_)
        obtain ⟨μ4, hm5, hF⟩ := bnd_e hF
        have hw : RX D cA s0 z b μ4 H := rv_m (W := fun m => RX D cA s0 z b m _) hm5 hw
        exact x_vretM2 C rfl dX12_remember_162 rfl (rv_m (W := fun m => RX D cA s0 z b m _) hF hw) hS (nb rfl) (nb rfl)
      · have hF := ite_f hF c3
        refine x_aload_n C dX12_remember_126 rfl ?_
        refine x_get (.ref (b + 6)) C fl_X12_41 (M_obj hw.2.2.2.2) rfl dX12_remember_127 ?_
        refine x_bipush (8 : Int32) C dX12_remember_130 rfl ?_
        refine x_aload_n C dX12_remember_132 rfl ?_
        refine x_get (.int (μ0.1 0 19)) C fl_X12_442 (M_obj hw.2.2.2.2) rfl dX12_remember_133 ?_
        refine x_imul C dX12_remember_136 ?_
        refine x_iload_n C dX12_remember_137 rfl ?_
        refine x_iadd C dX12_remember_138 ?_
        refine x_aload_n C dX12_remember_139 rfl ?_
        refine x_get (.ref (b + 3)) C fl_X12_27 (M_obj hw.2.2.2.2) rfl dX12_remember_140 ?_
        refine x_iload_n C dX12_remember_143 rfl ?_
        obtain ⟨h6, hF⟩ := asr_e hF
        obtain ⟨hn7, hl8⟩ := vpn h6 (by decide)
        refine x_laldN C (M_a3 hw.2.2.2.2) hn7 hl8 (by decide) dX12_remember_144 ?_
        obtain ⟨h9, hF⟩ := asr_e hF
        obtain ⟨hn10, hl11⟩ := vpn h9 (by decide)
        refine m_last 6 C hw (by decide) (fun _ => rfl) hn10 hl11 (by decide) dX12_remember_145 hS (fun H locs hw hS => ?_)
        obtain ⟨μ12, hm13, hF⟩ := bnd_e hF
        have hw : RX D cA s0 z b μ12 H := rv_m (W := fun m => RX D cA s0 z b m _) hm13 hw
        refine x_iinc (x1 + (1 : Int32)) [(1, .int (x1 + (1 : Int32))), (0, .ref b)] C dX12_remember_146 rfl rfl (by decide) rfl ?_
        refine x_goto 120 C dX12_remember_149 (by decide) ?_
        refine x_sub [(0, .ref b), (1, .int (x1 + (1 : Int32)))] [1, 0] rfl ?_
        exact ih120 μ12 (x1 + (1 : Int32)) _ _ hw hS hF
  have h_L84 : ∀ (n : Nat) (μ0 : Mm) (x1 : Int32) (H : Heap) (locs : List Loc) (hw : RX D cA s0 z b μ0 H) (hS : va_S (xA b 8 s.heap.size) s.heap H locs), g_X12_remember_L84 ν n μ0 x1 = some r → xW p l e { frames := 0, cells := 0, slots := 0, locals := 0 } s m args below meth c 2 (MQ below (xQm none (fun H => RX D cA s0 z b r H) (xA b 8 s.heap.size)) args s 0 0 (xA b 8 s.heap.size)) H locs 0 0 84 [(0, .ref b), (1, .int x1)] [] := by
    intro n
    induction n with
    | zero =>
      intro μ0 x1 H locs hw hS hF
      exact no_some hF
    | succ n ih =>
      intro μ0 x1 H locs hw hS hF
      have ih84 := ih
      refine x_iload_n C dX12_remember_84 rfl ?_
      refine x_sipush (1377 : Int32) C dX12_remember_85 rfl ?_
      refine x_icmp_ge 118 C dX12_remember_88 (by decide) (fun c2 => ?_) (fun c2 => ?_)
      · have hF := ite_t hF c2
        refine x_iconst (0 : Int32) C dX12_remember_118 rfl ?_
        refine x_istore_n [(1, .int (0 : Int32)), (0, .ref b)] C dX12_remember_119 rfl (by decide) rfl ?_
        refine x_sub [(0, .ref b), (1, .int (0 : Int32))] [1, 0] rfl ?_
        exact h_L120 10000 μ0 (0 : Int32) _ _ hw hS hF
      · have hF := ite_f hF c2
        refine x_aload_n C dX12_remember_91 rfl ?_
        refine x_get (.ref (b + 5)) C fl_X12_38 (M_obj hw.2.2.2.2) rfl dX12_remember_92 ?_
        refine x_sipush (1377 : Int32) C dX12_remember_95 rfl ?_
        refine x_aload_n C dX12_remember_98 rfl ?_
        refine x_get (.int (μ0.1 0 19)) C fl_X12_442 (M_obj hw.2.2.2.2) rfl dX12_remember_99 ?_
        refine x_imul C dX12_remember_102 ?_
        refine x_iload_n C dX12_remember_103 rfl ?_
        refine x_iadd C dX12_remember_104 ?_
        refine x_aload_n C dX12_remember_105 rfl ?_
        refine x_get (.ref (b + 1)) C fl_X12_17 (M_obj hw.2.2.2.2) rfl dX12_remember_106 ?_
        refine x_iload_n C dX12_remember_109 rfl ?_
        obtain ⟨h14, hF⟩ := asr_e hF
        obtain ⟨hn15, hl16⟩ := vpn h14 (by decide)
        refine x_ialdN C (M_a1 hw.2.2.2.2) hn15 hl16 (by decide) dX12_remember_110 ?_
        obtain ⟨h17, hF⟩ := asr_e hF
        obtain ⟨hn18, hl19⟩ := vpn h17 (by decide)
        refine m_iast 5 C hw (by decide) (fun _ => rfl) hn18 hl19 (by decide) dX12_remember_111 hS (fun H locs hw hS => ?_)
        obtain ⟨μ20, hm21, hF⟩ := bnd_e hF
        have hw : RX D cA s0 z b μ20 H := rv_m (W := fun m => RX D cA s0 z b m _) hm21 hw
        refine x_iinc (x1 + (1 : Int32)) [(1, .int (x1 + (1 : Int32))), (0, .ref b)] C dX12_remember_112 rfl rfl (by decide) rfl ?_
        refine x_goto 84 C dX12_remember_115 (by decide) ?_
        refine x_sub [(0, .ref b), (1, .int (x1 + (1 : Int32)))] [1, 0] rfl ?_
        exact ih84 μ20 (x1 + (1 : Int32)) _ _ hw hS hF
  have h_L45 : ∀ (n : Nat) (μ0 : Mm) (x1 : Int32) (H : Heap) (locs : List Loc) (hw : RX D cA s0 z b μ0 H) (hS : va_S (xA b 8 s.heap.size) s.heap H locs), g_X12_remember_L45 ν n μ0 x1 = some r → xW p l e { frames := 0, cells := 0, slots := 0, locals := 0 } s m args below meth c 2 (MQ below (xQm none (fun H => RX D cA s0 z b r H) (xA b 8 s.heap.size)) args s 0 0 (xA b 8 s.heap.size)) H locs 0 0 45 [(0, .ref b), (1, .int x1)] [] := by
    intro n
    induction n with
    | zero =>
      intro μ0 x1 H locs hw hS hF
      exact no_some hF
    | succ n ih =>
      intro μ0 x1 H locs hw hS hF
      have ih45 := ih
      refine x_iload_n C dX12_remember_45 rfl ?_
      refine x_bipush (48 : Int32) C dX12_remember_46 rfl ?_
      refine x_icmp_ge 72 C dX12_remember_48 (by decide) (fun c23 => ?_) (fun c23 => ?_)
      · have hF := ite_t hF c23
        refine x_aload_n C dX12_remember_72 rfl ?_
        refine x_dup C dX12_remember_73 rfl ?_
        refine x_get (.int (μ0.1 0 19)) C fl_X12_442 (M_obj hw.2.2.2.2) rfl dX12_remember_74 ?_
        refine x_iconst (1 : Int32) C dX12_remember_77 rfl ?_
        refine x_isub C dX12_remember_78 ?_
        refine m_putI (kk0 := 19) C fl_X12_442 hw rfl rfl rfl rfl (nb rfl) dX12_remember_79 hS (fun H locs hw hS => ?_)
        obtain ⟨μ24, hm25, hF⟩ := bnd_e hF
        have hw : RX D cA s0 z b μ24 H := rv_m (W := fun m => RX D cA s0 z b m _) hm25 hw
        refine x_iconst (0 : Int32) C dX12_remember_82 rfl ?_
        refine x_istore_n [(1, .int (0 : Int32)), (0, .ref b)] C dX12_remember_83 rfl (by decide) rfl ?_
        refine x_sub [(0, .ref b), (1, .int (0 : Int32))] [1, 0] rfl ?_
        exact h_L84 10000 μ24 (0 : Int32) _ _ hw hS hF
      · have hF := ite_f hF c23
        refine x_aload_n C dX12_remember_51 rfl ?_
        refine x_get (.ref (b + 6)) C fl_X12_41 (M_obj hw.2.2.2.2) rfl dX12_remember_52 ?_
        refine x_iload_n C dX12_remember_55 rfl ?_
        refine x_bipush (8 : Int32) C dX12_remember_56 rfl ?_
        refine x_isub C dX12_remember_58 ?_
        refine x_aload_n C dX12_remember_59 rfl ?_
        refine x_get (.ref (b + 6)) C fl_X12_41 (M_obj hw.2.2.2.2) rfl dX12_remember_60 ?_
        refine x_iload_n C dX12_remember_63 rfl ?_
        obtain ⟨h26, hF⟩ := asr_e hF
        obtain ⟨hn27, hl28⟩ := vpn h26 (by decide)
        refine x_laldN C (M_a6 hw.2.2.2.2) hn27 hl28 (by decide) dX12_remember_64 ?_
        obtain ⟨h29, hF⟩ := asr_e hF
        obtain ⟨hn30, hl31⟩ := vpn h29 (by decide)
        refine m_last 6 C hw (by decide) (fun _ => rfl) hn30 hl31 (by decide) dX12_remember_65 hS (fun H locs hw hS => ?_)
        obtain ⟨μ32, hm33, hF⟩ := bnd_e hF
        have hw : RX D cA s0 z b μ32 H := rv_m (W := fun m => RX D cA s0 z b m _) hm33 hw
        refine x_iinc (x1 + (1 : Int32)) [(1, .int (x1 + (1 : Int32))), (0, .ref b)] C dX12_remember_66 rfl rfl (by decide) rfl ?_
        refine x_goto 45 C dX12_remember_69 (by decide) ?_
        refine x_sub [(0, .ref b), (1, .int (x1 + (1 : Int32)))] [1, 0] rfl ?_
        exact ih45 μ32 (x1 + (1 : Int32)) _ _ hw hS hF
  have h_L13 : ∀ (n : Nat) (μ0 : Mm) (x1 : Int32) (H : Heap) (locs : List Loc) (hw : RX D cA s0 z b μ0 H) (hS : va_S (xA b 8 s.heap.size) s.heap H locs), g_X12_remember_L13 ν n μ0 x1 = some r → xW p l e { frames := 0, cells := 0, slots := 0, locals := 0 } s m args below meth c 2 (MQ below (xQm none (fun H => RX D cA s0 z b r H) (xA b 8 s.heap.size)) args s 0 0 (xA b 8 s.heap.size)) H locs 0 0 13 [(0, .ref b), (1, .int x1)] [] := by
    intro n
    induction n with
    | zero =>
      intro μ0 x1 H locs hw hS hF
      exact no_some hF
    | succ n ih =>
      intro μ0 x1 H locs hw hS hF
      have ih13 := ih
      refine x_iload_n C dX12_remember_13 rfl ?_
      refine x_sipush (8262 : Int32) C dX12_remember_14 rfl ?_
      refine x_icmp_ge 42 C dX12_remember_17 (by decide) (fun c22 => ?_) (fun c22 => ?_)
      · have hF := ite_t hF c22
        refine x_bipush (8 : Int32) C dX12_remember_42 rfl ?_
        refine x_istore_n [(1, .int (8 : Int32)), (0, .ref b)] C dX12_remember_44 rfl (by decide) rfl ?_
        refine x_sub [(0, .ref b), (1, .int (8 : Int32))] [1, 0] rfl ?_
        exact h_L45 10000 μ0 (8 : Int32) _ _ hw hS hF
      · have hF := ite_f hF c22
        refine x_aload_n C dX12_remember_20 rfl ?_
        refine x_get (.ref (b + 5)) C fl_X12_38 (M_obj hw.2.2.2.2) rfl dX12_remember_21 ?_
        refine x_iload_n C dX12_remember_24 rfl ?_
        refine x_sipush (1377 : Int32) C dX12_remember_25 rfl ?_
        refine x_isub C dX12_remember_28 ?_
        refine x_aload_n C dX12_remember_29 rfl ?_
        refine x_get (.ref (b + 5)) C fl_X12_38 (M_obj hw.2.2.2.2) rfl dX12_remember_30 ?_
        refine x_iload_n C dX12_remember_33 rfl ?_
        obtain ⟨h34, hF⟩ := asr_e hF
        obtain ⟨hn35, hl36⟩ := vpn h34 (by decide)
        refine x_ialdN C (M_a5 hw.2.2.2.2) hn35 hl36 (by decide) dX12_remember_34 ?_
        obtain ⟨h37, hF⟩ := asr_e hF
        obtain ⟨hn38, hl39⟩ := vpn h37 (by decide)
        refine m_iast 5 C hw (by decide) (fun _ => rfl) hn38 hl39 (by decide) dX12_remember_35 hS (fun H locs hw hS => ?_)
        obtain ⟨μ40, hm41, hF⟩ := bnd_e hF
        have hw : RX D cA s0 z b μ40 H := rv_m (W := fun m => RX D cA s0 z b m _) hm41 hw
        refine x_iinc (x1 + (1 : Int32)) [(1, .int (x1 + (1 : Int32))), (0, .ref b)] C dX12_remember_36 rfl rfl (by decide) rfl ?_
        refine x_goto 13 C dX12_remember_39 (by decide) ?_
        refine x_sub [(0, .ref b), (1, .int (x1 + (1 : Int32)))] [1, 0] rfl ?_
        exact ih13 μ40 (x1 + (1 : Int32)) _ _ hw hS hF
  refine x_aload_n C dX12_remember_0 rfl ?_
  refine x_get (.int (ν.1 0 19)) C fl_X12_442 (M_obj hw.2.2.2.2) rfl dX12_remember_1 ?_
  refine x_bipush (6 : Int32) C dX12_remember_4 rfl ?_
  refine x_icmp_ne 82 C dX12_remember_6 (by decide) (fun c1 => ?_) (fun c1 => ?_)
  · have hF := ite_f hF c1
    refine x_iconst (0 : Int32) C dX12_remember_82 rfl ?_
    refine x_istore_n [(1, .int (0 : Int32)), (0, .ref b)] C dX12_remember_83 rfl (by decide) rfl ?_
    refine x_sub [(0, .ref b), (1, .int (0 : Int32))] [1, 0] rfl ?_
    exact h_L84 10000 ν (0 : Int32) _ _ hw hS hF
  · have hF := ite_t hF c1
    refine x_sipush (1377 : Int32) C dX12_remember_9 rfl ?_
    refine x_istore_n [(1, .int (1377 : Int32)), (0, .ref b)] C dX12_remember_12 rfl (by decide) rfl ?_
    refine x_sub [(0, .ref b), (1, .int (1377 : Int32))] [1, 0] rfl ?_
    exact h_L13 10000 ν (1377 : Int32) _ _ hw hS hF
noncomputable def g_X12_load_L160 (ν : Mm) : Nat → Mm → Int32 → Option (Int32 × Mm)
  | 0, _, _ => none
  | n + 1, μ0, x1 => (if (8 : Int32) ≤ x1 then some (μ0.1 1 0, μ0) else asr (vp_in x1 8) (bnd (some (uP μ0 3 (cl x1) (0 : Int64))) (fun μ45 => (g_X12_load_L160 ν n μ45 (x1 + (1 : Int32))))))
noncomputable def g_X12_load_L133 (ν : Mm) : Nat → Mm → Int32 → Option (Int32 × Mm)
  | 0, _, _ => none
  | n + 1, μ0, x1 => (if (1377 : Int32) ≤ x1 then (g_X12_load_L160 ν 10000 μ0 (0 : Int32)) else asr (vp_in x1 1377) (bnd (some (uI μ0 1 (cl x1) (μ0.1 2 (cl x1)))) (fun μ50 => (g_X12_load_L133 ν n μ50 (x1 + (1 : Int32))))))
noncomputable def g_X12_load_J109 (ν : Mm) (μ0 : Mm) : Option (Int32 × Mm) := bnd (some (uN μ0 0 3 1)) (fun μ32 => bnd (some (f_X12_good μ32)) (fun q34 => (if q34 = true then bnd (g_X12_remember μ32) (fun q38 => (g_X12_load_L133 ν 10000 q38 (0 : Int32))) else some ((-4 : Int32), μ32))))
noncomputable def g_X12_load_L91 (ν : Mm) : Nat → Mm → Option (Int32 × Mm)
  | 0, _ => none
  | n + 1, μ0 => bnd (g_X12_parseStatement μ0) (fun q26 => bnd (some (f_X12_good q26)) (fun q28 => (if q28 = true then (if (q26.1 0 10) = 0 then (g_X12_load_J109 ν q26) else (g_X12_load_L91 ν n q26)) else (g_X12_load_J109 ν q26))))
noncomputable def g_X12_load_L50 (ν : Mm) : Nat → Mm → Int32 → Option (Int32 × Mm)
  | 0, _, _ => none
  | n + 1, μ0, x1 => (if (1377 : Int32) ≤ x1 then bnd (some (uI μ0 2 32 (30 : Int32))) (fun μ20 => bnd (some (uN μ20 0 3 2)) (fun μ22 => bnd (g_X12_scan μ22) (fun q24 => (g_X12_load_L91 ν 10000 q24)))) else asr (vp_in x1 1377) (bnd (some (uI μ0 2 (cl x1) (0 : Int32))) (fun μ56 => (g_X12_load_L50 ν n μ56 (x1 + (1 : Int32))))))
noncomputable def g_X12_load (ν : Mm) : Option (Int32 × Mm) := bnd (some (uI ν 0 0 (0 : Int32))) (fun μ1 => bnd (some (uI μ1 0 7 (μ1.1 0 6))) (fun μ3 => bnd (some (uI μ3 0 6 (0 : Int32))) (fun μ5 => bnd (some (uI μ5 0 8 (0 : Int32))) (fun μ7 => bnd (some (uI μ7 0 12 (0 : Int32))) (fun μ9 => bnd (some (uI μ9 0 13 (-1 : Int32))) (fun μ11 => bnd (some (uI μ11 0 14 (0 : Int32))) (fun μ13 => bnd (some (uI μ13 0 15 (0 : Int32))) (fun μ15 => bnd (some (uI μ15 0 16 (0 : Int32))) (fun μ17 => (g_X12_load_L50 ν 10000 μ17 (0 : Int32)))))))))))
set_option maxRecDepth 20000 in
set_option maxHeartbeats 4000000 in
theorem k_X12_load (l : Launch) (D : va_G) (cA : Nat → ClassId) (s0 : State) (z : Nat) (b : Nat) (ν : Mm) (sz : Nat) (hG : xG l D cA s0) (r : Int32 × Mm) (hF : g_X12_load ν = some r) : Met l yX12_load (wsG yX12_load cX12_load 2 (some (FieldType.int))) { frames := 10, cells := 0, slots := 0, locals := 218 } (xP D cA s0 [.ref b] (fun H => H.size = sz ∧ RX D cA s0 z b ν H)) (xQm (some (.int r.1)) (fun H => RX D cA s0 z b r.2 H) (xA b 8 sz)) 0 0 (xA b 8 sz) := by
  refine x_start (own := RX12) [(0, .ref b)] rfl rfl (by decide) (nb rfl) ?_
  intro p e s m args below meth c C hw
  obtain ⟨hsz, hw⟩ := hw
  subst hsz
  have hS : va_S (xA b 8 s.heap.size) s.heap s.heap [] := va_S.rf
  have h_L160 : ∀ (n : Nat) (μ0 : Mm) (x1 : Int32) (H : Heap) (locs : List Loc) (hw : RX D cA s0 z b μ0 H) (hS : va_S (xA b 8 s.heap.size) s.heap H locs), g_X12_load_L160 ν n μ0 x1 = some r → xW p l e { frames := 10, cells := 0, slots := 0, locals := 218 } s m args below meth c 2 (MQ below (xQm (some (.int r.1)) (fun H => RX D cA s0 z b r.2 H) (xA b 8 s.heap.size)) args s 0 0 (xA b 8 s.heap.size)) H locs 0 0 160 [(0, .ref b), (1, .int x1)] [] := by
    intro n
    induction n with
    | zero =>
      intro μ0 x1 H locs hw hS hF
      exact no_some hF
    | succ n ih =>
      intro μ0 x1 H locs hw hS hF
      have ih160 := ih
      refine x_iload_n C dX12_load_160 rfl ?_
      refine x_bipush (8 : Int32) C dX12_load_161 rfl ?_
      refine x_icmp_ge 179 C dX12_load_163 (by decide) (fun c41 => ?_) (fun c41 => ?_)
      · have hF := ite_t hF c41
        refine x_aload_n C dX12_load_179 rfl ?_
        refine x_get (.ref (b + 1)) C fl_X12_17 (M_obj hw.2.2.2.2) rfl dX12_load_180 ?_
        refine x_iconst (0 : Int32) C dX12_load_183 rfl ?_
        refine x_ialdN C (M_a1 hw.2.2.2.2) (ixl (x := (0 : Int32)) 0 rfl) (by decide) (by decide) dX12_load_184 ?_
        exact x_iretM2 C rfl dX12_load_185  (rm_i hF) (rm_m (W := fun m => RX D cA s0 z b m _) hF hw) hS (nb rfl) (nb rfl)
      · have hF := ite_f hF c41
        refine x_aload_n C dX12_load_166 rfl ?_
        refine x_get (.ref (b + 3)) C fl_X12_27 (M_obj hw.2.2.2.2) rfl dX12_load_167 ?_
        refine x_iload_n C dX12_load_170 rfl ?_
        refine x_lconst (0 : Int64) C dX12_load_171 rfl ?_
        obtain ⟨h42, hF⟩ := asr_e hF
        obtain ⟨hn43, hl44⟩ := vpn h42 (by decide)
        refine m_last 3 C hw (by decide) (fun _ => rfl) hn43 hl44 (by decide) dX12_load_172 hS (fun H locs hw hS => ?_)
        obtain ⟨μ45, hm46, hF⟩ := bnd_e hF
        have hw : RX D cA s0 z b μ45 H := rv_m (W := fun m => RX D cA s0 z b m _) hm46 hw
        refine x_iinc (x1 + (1 : Int32)) [(1, .int (x1 + (1 : Int32))), (0, .ref b)] C dX12_load_173 rfl rfl (by decide) rfl ?_
        refine x_goto 160 C dX12_load_176 (by decide) ?_
        refine x_sub [(0, .ref b), (1, .int (x1 + (1 : Int32)))] [1, 0] rfl ?_
        exact ih160 μ45 (x1 + (1 : Int32)) _ _ hw hS hF
  have h_L133 : ∀ (n : Nat) (μ0 : Mm) (x1 : Int32) (H : Heap) (locs : List Loc) (hw : RX D cA s0 z b μ0 H) (hS : va_S (xA b 8 s.heap.size) s.heap H locs), g_X12_load_L133 ν n μ0 x1 = some r → xW p l e { frames := 10, cells := 0, slots := 0, locals := 218 } s m args below meth c 2 (MQ below (xQm (some (.int r.1)) (fun H => RX D cA s0 z b r.2 H) (xA b 8 s.heap.size)) args s 0 0 (xA b 8 s.heap.size)) H locs 0 0 133 [(0, .ref b), (1, .int x1)] [] := by
    intro n
    induction n with
    | zero =>
      intro μ0 x1 H locs hw hS hF
      exact no_some hF
    | succ n ih =>
      intro μ0 x1 H locs hw hS hF
      have ih133 := ih
      refine x_iload_n C dX12_load_133 rfl ?_
      refine x_sipush (1377 : Int32) C dX12_load_134 rfl ?_
      refine x_icmp_ge 158 C dX12_load_137 (by decide) (fun c40 => ?_) (fun c40 => ?_)
      · have hF := ite_t hF c40
        refine x_iconst (0 : Int32) C dX12_load_158 rfl ?_
        refine x_istore_n [(1, .int (0 : Int32)), (0, .ref b)] C dX12_load_159 rfl (by decide) rfl ?_
        refine x_sub [(0, .ref b), (1, .int (0 : Int32))] [1, 0] rfl ?_
        exact h_L160 10000 μ0 (0 : Int32) _ _ hw hS hF
      · have hF := ite_f hF c40
        refine x_aload_n C dX12_load_140 rfl ?_
        refine x_get (.ref (b + 1)) C fl_X12_17 (M_obj hw.2.2.2.2) rfl dX12_load_141 ?_
        refine x_iload_n C dX12_load_144 rfl ?_
        refine x_aload_n C dX12_load_145 rfl ?_
        refine x_get (.ref (b + 2)) C fl_X12_21 (M_obj hw.2.2.2.2) rfl dX12_load_146 ?_
        refine x_iload_n C dX12_load_149 rfl ?_
        obtain ⟨h47, hF⟩ := asr_e hF
        obtain ⟨hn48, hl49⟩ := vpn h47 (by decide)
        refine x_ialdN C (M_a2 hw.2.2.2.2) hn48 hl49 (by decide) dX12_load_150 ?_
        refine m_iast 1 C hw (by decide) (fun _ => rfl) hn48 hl49 (by decide) dX12_load_151 hS (fun H locs hw hS => ?_)
        obtain ⟨μ50, hm51, hF⟩ := bnd_e hF
        have hw : RX D cA s0 z b μ50 H := rv_m (W := fun m => RX D cA s0 z b m _) hm51 hw
        refine x_iinc (x1 + (1 : Int32)) [(1, .int (x1 + (1 : Int32))), (0, .ref b)] C dX12_load_152 rfl rfl (by decide) rfl ?_
        refine x_goto 133 C dX12_load_155 (by decide) ?_
        refine x_sub [(0, .ref b), (1, .int (x1 + (1 : Int32)))] [1, 0] rfl ?_
        exact ih133 μ50 (x1 + (1 : Int32)) _ _ hw hS hF
  have h_J109 : ∀ (μ0 : Mm) (H : Heap) (locs : List Loc) (hw : RX D cA s0 z b μ0 H) (hS : va_S (xA b 8 s.heap.size) s.heap H locs), g_X12_load_J109 ν μ0 = some r → xW p l e { frames := 10, cells := 0, slots := 0, locals := 218 } s m args below meth c 2 (MQ below (xQm (some (.int r.1)) (fun H => RX D cA s0 z b r.2 H) (xA b 8 s.heap.size)) args s 0 0 (xA b 8 s.heap.size)) H locs 0 0 109 [(0, .ref b)] [] := by
    intro μ0 H locs hw hS hF
    refine x_aload_n C dX12_load_109 rfl ?_
    refine x_aload_n C dX12_load_110 rfl ?_
    refine x_get (.ref (b + 1)) C fl_X12_17 (M_obj hw.2.2.2.2) rfl dX12_load_111 ?_
    refine m_putRow (x := 1) C fl_X12_24 hw dX12_load_114 hS (fun H locs hw hS => ?_)
    obtain ⟨μ32, hm33, hF⟩ := bnd_e hF
    have hw : RX D cA s0 z b μ32 H := rv_m (W := fun m => RX D cA s0 z b m _) hm33 hw
    refine x_aload_n C dX12_load_117 rfl ?_
    obtain ⟨q34, hq35, hF⟩ := bnd_e hF
    have hq35 := Option.some.inj hq35
    have K36 := c_X12_good l D cA s0 b μ32 
    rw [hq35] at K36
    refine x_goR (fun ls h => x_runV (As := []) [] h C ml_X12_73 K36 ⟨rfl, rfl, nb rfl, nb rfl⟩ rfl (M_obj hw.2.2.2.2) rfl hw.2.2.2.2 (nb rfl) ⟨Nat.zero_le _, Nat.zero_le _⟩ dX12_load_118) ?_
    refine x_ifB_ne 127 C dX12_load_121 (by decide) (fun c37 => ?_) (fun c37 => ?_)
    · have hF := ite_t hF c37
      refine x_aload_n C dX12_load_127 rfl ?_
      obtain ⟨q38, hq39, hF⟩ := bnd_e hF
      refine x_goM (fun ls h => x_runV (As := []) [] h C ml_X12_231 (k_X12_remember l D cA s0 z b μ32 _ hG q38 hq39) ⟨rfl, rfl, nb rfl, nb rfl⟩ rfl (M_obj hw.2.2.2.2) rfl ⟨rfl, hw⟩ (nb rfl) ⟨Nat.zero_le _, Nat.zero_le _⟩ dX12_load_128) hS (xA_le hS) (fun H locs hw hz hk hS => ?_)
      have hw : RX D cA s0 z b q38 H := hw
      refine x_iconst (0 : Int32) C dX12_load_131 rfl ?_
      refine x_istore_n [(1, .int (0 : Int32)), (0, .ref b)] C dX12_load_132 rfl (by decide) rfl ?_
      refine x_sub [(0, .ref b), (1, .int (0 : Int32))] [1, 0] rfl ?_
      exact h_L133 10000 q38 (0 : Int32) _ _ hw hS hF
    · have hF := ite_f hF (nbt c37)
      refine x_bipush (-4 : Int32) C dX12_load_124 rfl ?_
      exact x_iretM2 C rfl dX12_load_126  (rm_i hF) (rm_m (W := fun m => RX D cA s0 z b m _) hF hw) hS (nb rfl) (nb rfl)
  have h_L91 : ∀ (n : Nat) (μ0 : Mm) (H : Heap) (locs : List Loc) (hw : RX D cA s0 z b μ0 H) (hS : va_S (xA b 8 s.heap.size) s.heap H locs), g_X12_load_L91 ν n μ0 = some r → xW p l e { frames := 10, cells := 0, slots := 0, locals := 218 } s m args below meth c 2 (MQ below (xQm (some (.int r.1)) (fun H => RX D cA s0 z b r.2 H) (xA b 8 s.heap.size)) args s 0 0 (xA b 8 s.heap.size)) H locs 0 0 91 [(0, .ref b)] [] := by
    intro n
    induction n with
    | zero =>
      intro μ0 H locs hw hS hF
      exact no_some hF
    | succ n ih =>
      intro μ0 H locs hw hS hF
      have ih91 := ih
      refine x_aload_n C dX12_load_91 rfl ?_
      obtain ⟨q26, hq27, hF⟩ := bnd_e hF
      refine x_goM (fun ls h => x_runV (As := []) [] h C ml_X12_228 (k_X12_parseStatement l D cA s0 z b μ0 _ hG q26 hq27) ⟨rfl, rfl, nb rfl, nb rfl⟩ rfl (M_obj hw.2.2.2.2) rfl ⟨rfl, hw⟩ (nb rfl) ⟨Nat.zero_le _, Nat.zero_le _⟩ dX12_load_92) hS (xA_le hS) (fun H locs hw hz hk hS => ?_)
      have hw : RX D cA s0 z b q26 H := hw
      refine x_aload_n C dX12_load_95 rfl ?_
      obtain ⟨q28, hq29, hF⟩ := bnd_e hF
      have hq29 := Option.some.inj hq29
      have K30 := c_X12_good l D cA s0 b q26 
      rw [hq29] at K30
      refine x_goR (fun ls h => x_runV (As := []) [] h C ml_X12_73 K30 ⟨rfl, rfl, nb rfl, nb rfl⟩ rfl (M_obj hw.2.2.2.2) rfl hw.2.2.2.2 (nb rfl) ⟨Nat.zero_le _, Nat.zero_le _⟩ dX12_load_96) ?_
      refine x_ifB_eq 109 C dX12_load_99 (by decide) (fun c31 => ?_) (fun c31 => ?_)
      · have hF := ite_f hF (nbt c31)
        exact h_J109 q26 _ _ hw hS hF
      · have hF := ite_t hF c31
        refine x_aload_n C dX12_load_102 rfl ?_
        refine x_get (.int (q26.1 0 10)) C fl_X12_90 (M_obj hw.2.2.2.2) rfl dX12_load_103 ?_
        refine x_if_ne 91 C dX12_load_106 (by decide) (fun c52 => ?_) (fun c52 => ?_)
        · have hF := ite_f hF c52
          exact ih91 q26 _ _ hw hS hF
        · have hF := ite_t hF c52
          exact h_J109 q26 _ _ hw hS hF
  have h_L50 : ∀ (n : Nat) (μ0 : Mm) (x1 : Int32) (H : Heap) (locs : List Loc) (hw : RX D cA s0 z b μ0 H) (hS : va_S (xA b 8 s.heap.size) s.heap H locs), g_X12_load_L50 ν n μ0 x1 = some r → xW p l e { frames := 10, cells := 0, slots := 0, locals := 218 } s m args below meth c 2 (MQ below (xQm (some (.int r.1)) (fun H => RX D cA s0 z b r.2 H) (xA b 8 s.heap.size)) args s 0 0 (xA b 8 s.heap.size)) H locs 0 0 50 [(0, .ref b), (1, .int x1)] [] := by
    intro n
    induction n with
    | zero =>
      intro μ0 x1 H locs hw hS hF
      exact no_some hF
    | succ n ih =>
      intro μ0 x1 H locs hw hS hF
      have ih50 := ih
      refine x_iload_n C dX12_load_50 rfl ?_
      refine x_sipush (1377 : Int32) C dX12_load_51 rfl ?_
      refine x_icmp_ge 70 C dX12_load_54 (by decide) (fun c19 => ?_) (fun c19 => ?_)
      · have hF := ite_t hF c19
        refine x_aload_n C dX12_load_70 rfl ?_
        refine x_get (.ref (b + 2)) C fl_X12_21 (M_obj hw.2.2.2.2) rfl dX12_load_71 ?_
        refine x_bipush (32 : Int32) C dX12_load_74 rfl ?_
        refine x_bipush (30 : Int32) C dX12_load_76 rfl ?_
        refine m_iast 2 C hw (by decide) (fun _ => rfl) (ixl (x := (32 : Int32)) 32 rfl) (by decide) (by decide) dX12_load_78 hS (fun H locs hw hS => ?_)
        obtain ⟨μ20, hm21, hF⟩ := bnd_e hF
        have hw : RX D cA s0 z b μ20 H := rv_m (W := fun m => RX D cA s0 z b m _) hm21 hw
        refine x_aload_n C dX12_load_79 rfl ?_
        refine x_aload_n C dX12_load_80 rfl ?_
        refine x_get (.ref (b + 2)) C fl_X12_21 (M_obj hw.2.2.2.2) rfl dX12_load_81 ?_
        refine m_putRow (x := 2) C fl_X12_24 hw dX12_load_84 hS (fun H locs hw hS => ?_)
        obtain ⟨μ22, hm23, hF⟩ := bnd_e hF
        have hw : RX D cA s0 z b μ22 H := rv_m (W := fun m => RX D cA s0 z b m _) hm23 hw
        refine x_aload_n C dX12_load_87 rfl ?_
        obtain ⟨q24, hq25, hF⟩ := bnd_e hF
        refine x_goM (fun ls h => x_runV (As := []) [] h C ml_X12_111 (k_X12_scan l D cA s0 z b μ22 _ hG q24 hq25) ⟨rfl, rfl, nb rfl, nb rfl⟩ rfl (M_obj hw.2.2.2.2) rfl ⟨rfl, hw⟩ (nb rfl) ⟨Nat.zero_le _, Nat.zero_le _⟩ dX12_load_88) hS (xA_le hS) (fun H locs hw hz hk hS => ?_)
        have hw : RX D cA s0 z b q24 H := hw
        refine x_sub [(0, .ref b)] [0] rfl ?_
        exact h_L91 10000 q24 _ _ hw hS hF
      · have hF := ite_f hF c19
        refine x_aload_n C dX12_load_57 rfl ?_
        refine x_get (.ref (b + 2)) C fl_X12_21 (M_obj hw.2.2.2.2) rfl dX12_load_58 ?_
        refine x_iload_n C dX12_load_61 rfl ?_
        refine x_iconst (0 : Int32) C dX12_load_62 rfl ?_
        obtain ⟨h53, hF⟩ := asr_e hF
        obtain ⟨hn54, hl55⟩ := vpn h53 (by decide)
        refine m_iast 2 C hw (by decide) (fun _ => rfl) hn54 hl55 (by decide) dX12_load_63 hS (fun H locs hw hS => ?_)
        obtain ⟨μ56, hm57, hF⟩ := bnd_e hF
        have hw : RX D cA s0 z b μ56 H := rv_m (W := fun m => RX D cA s0 z b m _) hm57 hw
        refine x_iinc (x1 + (1 : Int32)) [(1, .int (x1 + (1 : Int32))), (0, .ref b)] C dX12_load_64 rfl rfl (by decide) rfl ?_
        refine x_goto 50 C dX12_load_67 (by decide) ?_
        refine x_sub [(0, .ref b), (1, .int (x1 + (1 : Int32)))] [1, 0] rfl ?_
        exact ih50 μ56 (x1 + (1 : Int32)) _ _ hw hS hF
  refine x_aload_n C dX12_load_0 rfl ?_
  refine x_iconst (0 : Int32) C dX12_load_1 rfl ?_
  refine m_putI (kk0 := 0) C fl_X12_3 hw rfl rfl rfl rfl (nb rfl) dX12_load_2 hS (fun H locs hw hS => ?_)
  obtain ⟨μ1, hm2, hF⟩ := bnd_e hF
  have hw : RX D cA s0 z b μ1 H := rv_m (W := fun m => RX D cA s0 z b m _) hm2 hw
  refine x_aload_n C dX12_load_5 rfl ?_
  refine x_aload_n C dX12_load_6 rfl ?_
  refine x_get (.int (μ1.1 0 6)) C fl_X12_59 (M_obj hw.2.2.2.2) rfl dX12_load_7 ?_
  refine m_putI (kk0 := 7) C fl_X12_80 hw rfl rfl rfl rfl (nb rfl) dX12_load_10 hS (fun H locs hw hS => ?_)
  obtain ⟨μ3, hm4, hF⟩ := bnd_e hF
  have hw : RX D cA s0 z b μ3 H := rv_m (W := fun m => RX D cA s0 z b m _) hm4 hw
  refine x_aload_n C dX12_load_13 rfl ?_
  refine x_iconst (0 : Int32) C dX12_load_14 rfl ?_
  refine m_putI (kk0 := 6) C fl_X12_59 hw rfl rfl rfl rfl (nb rfl) dX12_load_15 hS (fun H locs hw hS => ?_)
  obtain ⟨μ5, hm6, hF⟩ := bnd_e hF
  have hw : RX D cA s0 z b μ5 H := rv_m (W := fun m => RX D cA s0 z b m _) hm6 hw
  refine x_aload_n C dX12_load_18 rfl ?_
  refine x_iconst (0 : Int32) C dX12_load_19 rfl ?_
  refine m_putI (kk0 := 8) C fl_X12_83 hw rfl rfl rfl rfl (nb rfl) dX12_load_20 hS (fun H locs hw hS => ?_)
  obtain ⟨μ7, hm8, hF⟩ := bnd_e hF
  have hw : RX D cA s0 z b μ7 H := rv_m (W := fun m => RX D cA s0 z b m _) hm8 hw
  refine x_aload_n C dX12_load_23 rfl ?_
  refine x_iconst (0 : Int32) C dX12_load_24 rfl ?_
  refine m_putI (kk0 := 12) C fl_X12_70 hw rfl rfl rfl rfl (nb rfl) dX12_load_25 hS (fun H locs hw hS => ?_)
  obtain ⟨μ9, hm10, hF⟩ := bnd_e hF
  have hw : RX D cA s0 z b μ9 H := rv_m (W := fun m => RX D cA s0 z b m _) hm10 hw
  refine x_aload_n C dX12_load_28 rfl ?_
  refine x_iconst (-1 : Int32) C dX12_load_29 rfl ?_
  refine m_putI (kk0 := 13) C fl_X12_35 hw rfl rfl rfl rfl (nb rfl) dX12_load_30 hS (fun H locs hw hS => ?_)
  obtain ⟨μ11, hm12, hF⟩ := bnd_e hF
  have hw : RX D cA s0 z b μ11 H := rv_m (W := fun m => RX D cA s0 z b m _) hm12 hw
  refine x_aload_n C dX12_load_33 rfl ?_
  refine x_iconst (0 : Int32) C dX12_load_34 rfl ?_
  refine m_putZ (kk0 := 14) C fl_X12_180 hw rfl rfl rfl rfl rfl (nb rfl) dX12_load_35 hS (fun H locs hw hS => ?_)
  obtain ⟨μ13, hm14, hF⟩ := bnd_e hF
  have hw : RX D cA s0 z b μ13 H := rv_m (W := fun m => RX D cA s0 z b m _) hm14 hw
  refine x_aload_n C dX12_load_38 rfl ?_
  refine x_iconst (0 : Int32) C dX12_load_39 rfl ?_
  refine m_putZ (kk0 := 15) C fl_X12_188 hw rfl rfl rfl rfl rfl (nb rfl) dX12_load_40 hS (fun H locs hw hS => ?_)
  obtain ⟨μ15, hm16, hF⟩ := bnd_e hF
  have hw : RX D cA s0 z b μ15 H := rv_m (W := fun m => RX D cA s0 z b m _) hm16 hw
  refine x_aload_n C dX12_load_43 rfl ?_
  refine x_iconst (0 : Int32) C dX12_load_44 rfl ?_
  refine m_putZ (kk0 := 16) C fl_X12_191 hw rfl rfl rfl rfl rfl (nb rfl) dX12_load_45 hS (fun H locs hw hS => ?_)
  obtain ⟨μ17, hm18, hF⟩ := bnd_e hF
  have hw : RX D cA s0 z b μ17 H := rv_m (W := fun m => RX D cA s0 z b m _) hm18 hw
  refine x_iconst (0 : Int32) C dX12_load_48 rfl ?_
  refine x_istore_n [(1, .int (0 : Int32)), (0, .ref b)] C dX12_load_49 rfl (by decide) rfl ?_
  refine x_sub [(0, .ref b), (1, .int (0 : Int32))] [1, 0] rfl ?_
  exact h_L50 10000 μ17 (0 : Int32) _ _ hw hS hF
noncomputable def g_X12_errorCode (ν : Mm) : Option (Int32 × Mm) := bnd (some (uI ν 0 0 (0 : Int32))) (fun μ1 => some (μ1.1 0 12, μ1))
set_option maxRecDepth 20000 in
set_option maxHeartbeats 4000000 in
theorem k_X12_errorCode (l : Launch) (D : va_G) (cA : Nat → ClassId) (s0 : State) (z : Nat) (b : Nat) (ν : Mm) (sz : Nat) (hG : xG l D cA s0) (r : Int32 × Mm) (hF : g_X12_errorCode ν = some r) : Met l yX12_errorCode (wsG yX12_errorCode cX12_errorCode 1 (some (FieldType.int))) { frames := 0, cells := 0, slots := 0, locals := 0 } (xP D cA s0 [.ref b] (fun H => H.size = sz ∧ RX D cA s0 z b ν H)) (xQm (some (.int r.1)) (fun H => RX D cA s0 z b r.2 H) (xA b 8 sz)) 0 0 (xA b 8 sz) := by
  refine x_start (own := RX12) [(0, .ref b)] rfl rfl (by decide) (nb rfl) ?_
  intro p e s m args below meth c C hw
  obtain ⟨hsz, hw⟩ := hw
  subst hsz
  have hS : va_S (xA b 8 s.heap.size) s.heap s.heap [] := va_S.rf
  refine x_aload_n C dX12_errorCode_0 rfl ?_
  refine x_iconst (0 : Int32) C dX12_errorCode_1 rfl ?_
  refine m_putI (kk0 := 0) C fl_X12_3 hw rfl rfl rfl rfl (nb rfl) dX12_errorCode_2 hS (fun H locs hw hS => ?_)
  obtain ⟨μ1, hm2, hF⟩ := bnd_e hF
  have hw : RX D cA s0 z b μ1 H := rv_m (W := fun m => RX D cA s0 z b m _) hm2 hw
  refine x_aload_n C dX12_errorCode_5 rfl ?_
  refine x_get (.int (μ1.1 0 12)) C fl_X12_70 (M_obj hw.2.2.2.2) rfl dX12_errorCode_6 ?_
  exact x_iretM2 C rfl dX12_errorCode_9  (rm_i hF) (rm_m (W := fun m => RX D cA s0 z b m _) hF hw) hS (nb rfl) (nb rfl)
noncomputable def g_X12_errorPosition (ν : Mm) : Option (Int32 × Mm) := bnd (some (uI ν 0 0 (0 : Int32))) (fun μ1 => some (μ1.1 0 13, μ1))
set_option maxRecDepth 20000 in
set_option maxHeartbeats 4000000 in
theorem k_X12_errorPosition (l : Launch) (D : va_G) (cA : Nat → ClassId) (s0 : State) (z : Nat) (b : Nat) (ν : Mm) (sz : Nat) (hG : xG l D cA s0) (r : Int32 × Mm) (hF : g_X12_errorPosition ν = some r) : Met l yX12_errorPosition (wsG yX12_errorPosition cX12_errorPosition 1 (some (FieldType.int))) { frames := 0, cells := 0, slots := 0, locals := 0 } (xP D cA s0 [.ref b] (fun H => H.size = sz ∧ RX D cA s0 z b ν H)) (xQm (some (.int r.1)) (fun H => RX D cA s0 z b r.2 H) (xA b 8 sz)) 0 0 (xA b 8 sz) := by
  refine x_start (own := RX12) [(0, .ref b)] rfl rfl (by decide) (nb rfl) ?_
  intro p e s m args below meth c C hw
  obtain ⟨hsz, hw⟩ := hw
  subst hsz
  have hS : va_S (xA b 8 s.heap.size) s.heap s.heap [] := va_S.rf
  refine x_aload_n C dX12_errorPosition_0 rfl ?_
  refine x_iconst (0 : Int32) C dX12_errorPosition_1 rfl ?_
  refine m_putI (kk0 := 0) C fl_X12_3 hw rfl rfl rfl rfl (nb rfl) dX12_errorPosition_2 hS (fun H locs hw hS => ?_)
  obtain ⟨μ1, hm2, hF⟩ := bnd_e hF
  have hw : RX D cA s0 z b μ1 H := rv_m (W := fun m => RX D cA s0 z b m _) hm2 hw
  refine x_aload_n C dX12_errorPosition_5 rfl ?_
  refine x_get (.int (μ1.1 0 13)) C fl_X12_35 (M_obj hw.2.2.2.2) rfl dX12_errorPosition_6 ?_
  exact x_iretM2 C rfl dX12_errorPosition_9  (rm_i hF) (rm_m (W := fun m => RX D cA s0 z b m _) hF hw) hS (nb rfl) (nb rfl)
noncomputable def g_X12_find_L38 (ν : Mm) : Nat → Mm → Int32 → Int32 → Option (Int32 × Mm)
  | 0, _, _, _ => none
  | n + 1, μ0, x1, x2 => (if (μ0.1 0 8) ≤ x2 then (if x1 = 0 then some ((-1 : Int32), μ0) else bnd (g_X12_named μ0) (fun q12 => some (q12, μ0))) else (if x1 = 0 then (if x1 = 0 then some ((-1 : Int32), μ0) else bnd (g_X12_named μ0) (fun q16 => some (q16, μ0))) else asr (vp_in x2 800) (bnd (some (f_X12_in ((μ0.1 4 (cl x2)).toInt64) (97 : Int64) (122 : Int64))) (fun q21 => (g_X12_find_L38 ν n μ0 (bI q21) (x2 + (1 : Int32)))))))
noncomputable def g_X12_find (ν : Mm) : Option (Int32 × Mm) := bnd (some (uI ν 0 0 (0 : Int32))) (fun μ1 => bnd (some (uI μ1 0 9 (0 : Int32))) (fun μ3 => bnd (some (uI μ3 0 8 (μ3.1 0 6))) (fun μ5 => bnd (some (uI μ5 0 6 (0 : Int32))) (fun μ7 => (if (μ7.1 0 8) ≤ 0 then (g_X12_find_L38 ν 10000 μ7 (0 : Int32) (0 : Int32)) else (g_X12_find_L38 ν 10000 μ7 (1 : Int32) (0 : Int32)))))))
set_option maxRecDepth 20000 in
set_option maxHeartbeats 4000000 in
theorem k_X12_find (l : Launch) (D : va_G) (cA : Nat → ClassId) (s0 : State) (z : Nat) (b : Nat) (ν : Mm) (sz : Nat) (hG : xG l D cA s0) (r : Int32 × Mm) (hF : g_X12_find ν = some r) : Met l yX12_find (wsG yX12_find cX12_find 3 (some (FieldType.int))) { frames := 2, cells := 0, slots := 0, locals := 44 } (xP D cA s0 [.ref b] (fun H => H.size = sz ∧ RX D cA s0 z b ν H)) (xQm (some (.int r.1)) (fun H => RX D cA s0 z b r.2 H) (xA b 8 sz)) 0 0 (xA b 8 sz) := by
  refine x_start (own := RX12) [(0, .ref b)] rfl rfl (by decide) (nb rfl) ?_
  intro p e s m args below meth c C hw
  obtain ⟨hsz, hw⟩ := hw
  subst hsz
  have hS : va_S (xA b 8 s.heap.size) s.heap s.heap [] := va_S.rf
  have h_L38 : ∀ (n : Nat) (μ0 : Mm) (x1 : Int32) (x2 : Int32) (H : Heap) (locs : List Loc) (hw : RX D cA s0 z b μ0 H) (hS : va_S (xA b 8 s.heap.size) s.heap H locs), g_X12_find_L38 ν n μ0 x1 x2 = some r → xW p l e { frames := 2, cells := 0, slots := 0, locals := 44 } s m args below meth c 3 (MQ below (xQm (some (.int r.1)) (fun H => RX D cA s0 z b r.2 H) (xA b 8 s.heap.size)) args s 0 0 (xA b 8 s.heap.size)) H locs 0 0 38 [(0, .ref b), (1, .int x1), (2, .int x2)] [] := by
    intro n
    induction n with
    | zero =>
      intro μ0 x1 x2 H locs hw hS hF
      exact no_some hF
    | succ n ih =>
      intro μ0 x1 x2 H locs hw hS hF
      have ih38 := ih
      refine x_iload_n C dX12_find_38 rfl ?_
      refine x_aload_n C dX12_find_39 rfl ?_
      refine x_get (.int (μ0.1 0 8)) C fl_X12_83 (M_obj hw.2.2.2.2) rfl dX12_find_40 ?_
      refine x_icmp_ge 73 C dX12_find_43 (by decide) (fun c10 => ?_) (fun c10 => ?_)
      · have hF := ite_t hF c10
        refine x_iload_n C dX12_find_73 rfl ?_
        refine x_if_eq 84 C dX12_find_74 (by decide) (fun c11 => ?_) (fun c11 => ?_)
        · have hF := ite_t hF c11
          refine x_iconst (-1 : Int32) C dX12_find_84 rfl ?_
          exact x_iretM2 C rfl dX12_find_85  (rm_i hF) (rm_m (W := fun m => RX D cA s0 z b m _) hF hw) hS (nb rfl) (nb rfl)
        · have hF := ite_f hF c11
          refine x_aload_n C dX12_find_77 rfl ?_
          obtain ⟨q12, hq13, hF⟩ := bnd_e hF
          refine x_goR (fun ls h => x_runV (As := []) [] h C ml_X12_197 (k_X12_named l D cA s0 z b μ0 hG q12 hq13) ⟨rfl, rfl, nb rfl, nb rfl⟩ rfl (M_obj hw.2.2.2.2) rfl hw (nb rfl) ⟨Nat.zero_le _, Nat.zero_le _⟩ dX12_find_78) ?_
          refine x_goto 85 C dX12_find_81 (by decide) ?_
          exact x_iretM2 C rfl dX12_find_85  (rm_i hF) (rm_m (W := fun m => RX D cA s0 z b m _) hF hw) hS (nb rfl) (nb rfl)
      · have hF := ite_f hF c10
        refine x_iload_n C dX12_find_46 rfl ?_
        refine x_if_eq 73 C dX12_find_47 (by decide) (fun c14 => ?_) (fun c14 => ?_)
        · have hF := ite_t hF c14
          refine x_iload_n C dX12_find_73 rfl ?_
          refine x_if_eq 84 C dX12_find_74 (by decide) (fun c15 => ?_) (fun c15 => ?_)
          · have hF := ite_t hF c15
            refine x_iconst (-1 : Int32) C dX12_find_84 rfl ?_
            exact x_iretM2 C rfl dX12_find_85  (rm_i hF) (rm_m (W := fun m => RX D cA s0 z b m _) hF hw) hS (nb rfl) (nb rfl)
          · have hF := ite_f hF c15
            refine x_aload_n C dX12_find_77 rfl ?_
            obtain ⟨q16, hq17, hF⟩ := bnd_e hF
            refine x_goR (fun ls h => x_runV (As := []) [] h C ml_X12_197 (k_X12_named l D cA s0 z b μ0 hG q16 hq17) ⟨rfl, rfl, nb rfl, nb rfl⟩ rfl (M_obj hw.2.2.2.2) rfl hw (nb rfl) ⟨Nat.zero_le _, Nat.zero_le _⟩ dX12_find_78) ?_
            refine x_goto 85 C dX12_find_81 (by decide) ?_
            exact x_iretM2 C rfl dX12_find_85  (rm_i hF) (rm_m (W := fun m => RX D cA s0 z b m _) hF hw) hS (nb rfl) (nb rfl)
        · have hF := ite_f hF c14
          refine x_aload_n C dX12_find_50 rfl ?_
          refine x_get (.ref (b + 4)) C fl_X12_31 (M_obj hw.2.2.2.2) rfl dX12_find_51 ?_
          refine x_iload_n C dX12_find_54 rfl ?_
          obtain ⟨h18, hF⟩ := asr_e hF
          obtain ⟨hn19, hl20⟩ := vpn h18 (by decide)
          refine x_baldN C (M_a4 hw.2.2.2.2) hn19 hl20 (by decide) dX12_find_55 ?_
          refine x_i2l C dX12_find_56 ?_
          refine x_ldc2 (97 : Int64) C cl_X12_93 dX12_find_57 ?_
          refine x_ldc2 (122 : Int64) C cl_X12_95 dX12_find_60 ?_
          obtain ⟨q21, hq22, hF⟩ := bnd_e hF
          have hq22 := Option.some.inj hq22
          have K23 := c_X12_in l D cA s0 ((μ0.1 4 (cl x2)).toInt64) (97 : Int64) (122 : Int64) 
          rw [hq22] at K23
          refine x_goR (fun ls h => x_runS (As := [.long ((μ0.1 4 (cl x2)).toInt64), .long (97 : Int64), .long (122 : Int64)]) [] h C ml_X12_47 K23 ⟨rfl, rfl, nb rfl, nb rfl⟩ rfl trivial (nb rfl) ⟨Nat.zero_le _, Nat.zero_le _⟩ dX12_find_63) ?_
          refine x_istore_n [(1, .int (bI q21)), (0, .ref b), (2, .int x2)] C dX12_find_66 rfl (by decide) rfl ?_
          refine x_iinc (x2 + (1 : Int32)) [(2, .int (x2 + (1 : Int32))), (1, .int (bI q21)), (0, .ref b)] C dX12_find_67 rfl rfl (by decide) rfl ?_
          refine x_goto 38 C dX12_find_70 (by decide) ?_
          refine x_sub [(0, .ref b), (1, .int (bI q21)), (2, .int (x2 + (1 : Int32)))] [2, 1, 0] rfl ?_
          exact ih38 μ0 (bI q21) (x2 + (1 : Int32)) _ _ hw hS hF
  refine x_aload_n C dX12_find_0 rfl ?_
  refine x_iconst (0 : Int32) C dX12_find_1 rfl ?_
  refine m_putI (kk0 := 0) C fl_X12_3 hw rfl rfl rfl rfl (nb rfl) dX12_find_2 hS (fun H locs hw hS => ?_)
  obtain ⟨μ1, hm2, hF⟩ := bnd_e hF
  have hw : RX D cA s0 z b μ1 H := rv_m (W := fun m => RX D cA s0 z b m _) hm2 hw
  refine x_aload_n C dX12_find_5 rfl ?_
  refine x_iconst (0 : Int32) C dX12_find_6 rfl ?_
  refine m_putI (kk0 := 9) C fl_X12_77 hw rfl rfl rfl rfl (nb rfl) dX12_find_7 hS (fun H locs hw hS => ?_)
  obtain ⟨μ3, hm4, hF⟩ := bnd_e hF
  have hw : RX D cA s0 z b μ3 H := rv_m (W := fun m => RX D cA s0 z b m _) hm4 hw
  refine x_aload_n C dX12_find_10 rfl ?_
  refine x_aload_n C dX12_find_11 rfl ?_
  refine x_get (.int (μ3.1 0 6)) C fl_X12_59 (M_obj hw.2.2.2.2) rfl dX12_find_12 ?_
  refine m_putI (kk0 := 8) C fl_X12_83 hw rfl rfl rfl rfl (nb rfl) dX12_find_15 hS (fun H locs hw hS => ?_)
  obtain ⟨μ5, hm6, hF⟩ := bnd_e hF
  have hw : RX D cA s0 z b μ5 H := rv_m (W := fun m => RX D cA s0 z b m _) hm6 hw
  refine x_aload_n C dX12_find_18 rfl ?_
  refine x_iconst (0 : Int32) C dX12_find_19 rfl ?_
  refine m_putI (kk0 := 6) C fl_X12_59 hw rfl rfl rfl rfl (nb rfl) dX12_find_20 hS (fun H locs hw hS => ?_)
  obtain ⟨μ7, hm8, hF⟩ := bnd_e hF
  have hw : RX D cA s0 z b μ7 H := rv_m (W := fun m => RX D cA s0 z b m _) hm8 hw
  refine x_aload_n C dX12_find_23 rfl ?_
  refine x_get (.int (μ7.1 0 8)) C fl_X12_83 (M_obj hw.2.2.2.2) rfl dX12_find_24 ?_
  refine x_if_le 34 C dX12_find_27 (by decide) (fun c9 => ?_) (fun c9 => ?_)
  · have hF := ite_t hF c9
    refine x_iconst (0 : Int32) C dX12_find_34 rfl ?_
    refine x_istore_n [(1, .int (0 : Int32)), (0, .ref b)] C dX12_find_35 rfl (by decide) rfl ?_
    refine x_iconst (0 : Int32) C dX12_find_36 rfl ?_
    refine x_istore_n [(2, .int (0 : Int32)), (1, .int (0 : Int32)), (0, .ref b)] C dX12_find_37 rfl (by decide) rfl ?_
    refine x_sub [(0, .ref b), (1, .int (0 : Int32)), (2, .int (0 : Int32))] [2, 1, 0] rfl ?_
    exact h_L38 10000 μ7 (0 : Int32) (0 : Int32) _ _ hw hS hF
  · have hF := ite_f hF c9
    refine x_iconst (1 : Int32) C dX12_find_30 rfl ?_
    refine x_goto 35 C dX12_find_31 (by decide) ?_
    refine x_istore_n [(1, .int (1 : Int32)), (0, .ref b)] C dX12_find_35 rfl (by decide) rfl ?_
    refine x_iconst (0 : Int32) C dX12_find_36 rfl ?_
    refine x_istore_n [(2, .int (0 : Int32)), (1, .int (1 : Int32)), (0, .ref b)] C dX12_find_37 rfl (by decide) rfl ?_
    refine x_sub [(0, .ref b), (1, .int (1 : Int32)), (2, .int (0 : Int32))] [2, 1, 0] rfl ?_
    exact h_L38 10000 μ7 (1 : Int32) (0 : Int32) _ _ hw hS hF
noncomputable def g_X12_quote_L76 (ν : Mm) (a1 : Int32) (a2 : Int32) (a3 : Int32) (a4 : Int32) : Nat → Mm → Int32 → Int32 → Int32 → Option (Int32 × Mm)
  | 0, _, _, _, _ => none
  | n + 1, μ0, x5, x6, x7 => (if (3 : Int32) ≤ x7 then some (x6, μ0) else asr (vp_in a1 8) (bnd (some (f_X12_ofShip μ0 a1 (0 : Int32))) (fun q37 => bnd (some (f_X12_version μ0)) (fun q40 => asr (OkR (μ0.1 1)) (asr (vp_in q40 21) (bnd (some (f_X12_lineOf μ0 q37 x5 a4 x7 q40)) (fun q45 => (g_X12_quote_L76 ν a1 a2 a3 a4 n μ0 x5 (x6 + q45) (x7 + (1 : Int32))))))))))
noncomputable def g_X12_quote_J27 (ν : Mm) (a1 : Int32) (a2 : Int32) (a3 : Int32) (a4 : Int32) (μ0 : Mm) (y0 : Bool) (y1 : Bool) : Option (Int32 × Mm) := bnd (some (f_X12_passes2 μ0 y1 y0)) (fun q8 => (if q8.1 = true then asr (OkR (q8.2.1 1)) (bnd (some (f_X12_rankWith q8.2 a1 a2 (40 : Int32))) (fun q13 => bnd (some (f_X12_version q8.2)) (fun q16 => asr (vp_in q16 21) (bnd (some (f_X12_ofVersion q8.2 q16 (10 : Int32))) (fun q20 => asr (vp_in q20 31) (asr (vp_in ((a3 - a2) + (1 : Int32)) 31) (bnd (some (f_X12_daysFrom q20 ((a3 - a2) + (1 : Int32)))) (fun q25 => bnd (some (f_X12_version q8.2)) (fun q28 => asr (vp_in q28 21) (bnd (some (f_X12_layOf q8.2 q25 q28)) (fun q32 => (g_X12_quote_L76 ν a1 a2 a3 a4 10000 q8.2 q13 q32 (0 : Int32))))))))))))) else some ((0 : Int32), q8.2)))
noncomputable def g_X12_quote_J26 (ν : Mm) (a1 : Int32) (a2 : Int32) (a3 : Int32) (a4 : Int32) (μ0 : Mm) (y0 : Bool) : Option (Int32 × Mm) := (g_X12_quote_J27 ν a1 a2 a3 a4 μ0 false y0)
noncomputable def g_X12_quote (ν : Mm) (a1 : Int32) (a2 : Int32) (a3 : Int32) (a4 : Int32) : Option (Int32 × Mm) := bnd (some (f_X12_isShip ν a1)) (fun q1 => bnd (some (f_X12_areDays a2 a3)) (fun q4 => (if q4 = true then bnd (some (f_X12_isWaste a4)) (fun q48 => (if q48 = true then (g_X12_quote_J27 ν a1 a2 a3 a4 ν true q1) else (g_X12_quote_J26 ν a1 a2 a3 a4 ν q1))) else (g_X12_quote_J26 ν a1 a2 a3 a4 ν q1))))
set_option maxRecDepth 20000 in
set_option maxHeartbeats 4000000 in
theorem k_X12_quote (l : Launch) (D : va_G) (cA : Nat → ClassId) (s0 : State) (z : Nat) (b : Nat) (ν : Mm) (sz : Nat) (hG : xG l D cA s0) (a1 : Int32) (a2 : Int32) (a3 : Int32) (a4 : Int32) (r : Int32 × Mm) (hF : g_X12_quote ν a1 a2 a3 a4 = some r) : Met l yX12_quote (wsG yX12_quote cX12_quote 8 (some (FieldType.int))) { frames := 4, cells := 0, slots := 0, locals := 94 } (xP D cA s0 [.ref b, .int a1, .int a2, .int a3, .int a4] (fun H => H.size = sz ∧ RX D cA s0 z b ν H)) (xQm (some (.int r.1)) (fun H => RX D cA s0 z b r.2 H) (xA b 8 sz)) 0 0 (xA b 8 sz) := by
  refine x_start (own := RX12) [(0, .ref b), (1, .int a1), (2, .int a2), (3, .int a3), (4, .int a4)] rfl rfl (by decide) (nb rfl) ?_
  intro p e s m args below meth c C hw
  obtain ⟨hsz, hw⟩ := hw
  subst hsz
  have hS : va_S (xA b 8 s.heap.size) s.heap s.heap [] := va_S.rf
  have h_L76 : ∀ (n : Nat) (μ0 : Mm) (x5 : Int32) (x6 : Int32) (x7 : Int32) (H : Heap) (locs : List Loc) (hw : RX D cA s0 z b μ0 H) (hS : va_S (xA b 8 s.heap.size) s.heap H locs), g_X12_quote_L76 ν a1 a2 a3 a4 n μ0 x5 x6 x7 = some r → xW p l e { frames := 4, cells := 0, slots := 0, locals := 94 } s m args below meth c 8 (MQ below (xQm (some (.int r.1)) (fun H => RX D cA s0 z b r.2 H) (xA b 8 s.heap.size)) args s 0 0 (xA b 8 s.heap.size)) H locs 0 0 76 [(0, .ref b), (1, .int a1), (4, .int a4), (5, .int x5), (6, .int x6), (7, .int x7)] [] := by
    intro n
    induction n with
    | zero =>
      intro μ0 x5 x6 x7 H locs hw hS hF
      exact no_some hF
    | succ n ih =>
      intro μ0 x5 x6 x7 H locs hw hS hF
      have ih76 := ih
      refine x_iload C dX12_quote_76 rfl ?_
      refine x_iconst (3 : Int32) C dX12_quote_78 rfl ?_
      refine x_icmp_ge 113 C dX12_quote_79 (by decide) (fun c35 => ?_) (fun c35 => ?_)
      · have hF := ite_t hF c35
        refine x_iload C dX12_quote_113 rfl ?_
        exact x_iretM2 C rfl dX12_quote_115  (rm_i hF) (rm_m (W := fun m => RX D cA s0 z b m _) hF hw) hS (nb rfl) (nb rfl)
      · have hF := ite_f hF c35
        refine x_iload C dX12_quote_82 rfl ?_
        refine x_aload_n C dX12_quote_84 rfl ?_
        refine x_aload_n C dX12_quote_85 rfl ?_
        refine x_iload_n C dX12_quote_86 rfl ?_
        refine x_iconst (0 : Int32) C dX12_quote_87 rfl ?_
        obtain ⟨h36, hF⟩ := asr_e hF
        obtain ⟨q37, hq38, hF⟩ := bnd_e hF
        have hq38 := Option.some.inj hq38
        have K39 := c_X12_ofShip l D cA s0 b μ0 a1 (0 : Int32) h36 (ixin (ixl (x := (0 : Int32)) 0 rfl) (by decide) (by decide))
        rw [hq38] at K39
        refine x_goR (fun ls h => x_runV (As := [.int a1, .int (0 : Int32)]) [.ref b, .int x6] h C ml_X12_285 K39 ⟨rfl, rfl, nb rfl, nb rfl⟩ rfl (M_obj hw.2.2.2.2) rfl hw.2.2.2.2 (nb rfl) ⟨Nat.zero_le _, Nat.zero_le _⟩ dX12_quote_88) ?_
        refine x_iload C dX12_quote_91 rfl ?_
        refine x_iload C dX12_quote_93 rfl ?_
        refine x_iload C dX12_quote_95 rfl ?_
        refine x_aload_n C dX12_quote_97 rfl ?_
        obtain ⟨q40, hq41, hF⟩ := bnd_e hF
        have hq41 := Option.some.inj hq41
        have K42 := c_X12_version l D cA s0 b μ0 
        rw [hq41] at K42
        refine x_goR (fun ls h => x_runV (As := []) [.int x7, .int a4, .int x5, .int q37, .ref b, .int x6] h C ml_X12_256 K42 ⟨rfl, rfl, nb rfl, nb rfl⟩ rfl (M_obj hw.2.2.2.2) rfl hw.2.2.2.2 (nb rfl) ⟨Nat.zero_le _, Nat.zero_le _⟩ dX12_quote_98) ?_
        obtain ⟨h43, hF⟩ := asr_e hF
        obtain ⟨h44, hF⟩ := asr_e hF
        obtain ⟨q45, hq46, hF⟩ := bnd_e hF
        have hq46 := Option.some.inj hq46
        have K47 := c_X12_lineOf l D cA s0 b μ0 h43 q37 x5 a4 x7 q40 h44
        rw [hq46] at K47
        refine x_goR (fun ls h => x_runV (As := [.int q37, .int x5, .int a4, .int x7, .int q40]) [.int x6] h C ml_X12_326 K47 ⟨rfl, rfl, nb rfl, nb rfl⟩ rfl (M_obj hw.2.2.2.2) rfl hw.2.2.2.2 (nb rfl) ⟨Nat.zero_le _, Nat.zero_le _⟩ dX12_quote_101) ?_
        refine x_iadd C dX12_quote_104 ?_
        refine x_istore [(6, .int (x6 + q45)), (0, .ref b), (1, .int a1), (4, .int a4), (5, .int x5), (7, .int x7)] C dX12_quote_105 (by decide) rfl ?_
        refine x_iinc (x7 + (1 : Int32)) [(7, .int (x7 + (1 : Int32))), (6, .int (x6 + q45)), (0, .ref b), (1, .int a1), (4, .int a4), (5, .int x5)] C dX12_quote_107 rfl rfl (by decide) rfl ?_
        refine x_goto 76 C dX12_quote_110 (by decide) ?_
        refine x_sub [(0, .ref b), (1, .int a1), (4, .int a4), (5, .int x5), (6, .int (x6 + q45)), (7, .int (x7 + (1 : Int32)))] [2, 3, 4, 5, 1, 0] rfl ?_
        exact ih76 μ0 x5 (x6 + q45) (x7 + (1 : Int32)) _ _ hw hS hF
  have h_J27 : ∀ (μ0 : Mm) (y0 : Bool) (y1 : Bool) (H : Heap) (locs : List Loc) (hw : RX D cA s0 z b μ0 H) (hS : va_S (xA b 8 s.heap.size) s.heap H locs), g_X12_quote_J27 ν a1 a2 a3 a4 μ0 y0 y1 = some r → xW p l e { frames := 4, cells := 0, slots := 0, locals := 94 } s m args below meth c 8 (MQ below (xQm (some (.int r.1)) (fun H => RX D cA s0 z b r.2 H) (xA b 8 s.heap.size)) args s 0 0 (xA b 8 s.heap.size)) H locs 0 0 27 [(0, .ref b), (1, .int a1), (2, .int a2), (3, .int a3), (4, .int a4)] [.int (bI y0), .int (bI y1), .ref b] := by
    intro μ0 y0 y1 H locs hw hS hF
    obtain ⟨q8, hq9, hF⟩ := bnd_e hF
    have hq9 := Option.some.inj hq9
    have K10 := c_X12_passes2 l D cA s0 b μ0 H.size y1 y0 
    rw [hq9] at K10
    have hwo := hw
    refine x_goM (fun ls h => x_runV (As := [.int (bI y1), .int (bI y0)]) [] h C ml_X12_263 K10 ⟨rfl, rfl, nb rfl, nb rfl⟩ rfl (M_obj hw.2.2.2.2) rfl ⟨rfl, hw.2.2.2.2⟩ (nb rfl) ⟨Nat.zero_le _, Nat.zero_le _⟩ dX12_quote_27) hS (xA_le hS) (fun H locs hw hz hk hS => ?_)
    have hw : RX D cA s0 z b q8.2 H := RX.of hwo hw hz hk
    refine x_ifB_ne 35 C dX12_quote_30 (by decide) (fun c11 => ?_) (fun c11 => ?_)
    · have hF := ite_t hF c11
      refine x_aload_n C dX12_quote_35 rfl ?_
      refine x_iload_n C dX12_quote_36 rfl ?_
      refine x_iload_n C dX12_quote_37 rfl ?_
      refine x_bipush (40 : Int32) C dX12_quote_38 rfl ?_
      obtain ⟨h12, hF⟩ := asr_e hF
      obtain ⟨q13, hq14, hF⟩ := bnd_e hF
      have hq14 := Option.some.inj hq14
      have K15 := c_X12_rankWith l D cA s0 b q8.2 h12 a1 a2 (40 : Int32) 
      rw [hq14] at K15
      refine x_goR (fun ls h => x_runV (As := [.int a1, .int a2, .int (40 : Int32)]) [] h C ml_X12_295 K15 ⟨rfl, rfl, nb rfl, nb rfl⟩ rfl (M_obj hw.2.2.2.2) rfl hw.2.2.2.2 (nb rfl) ⟨Nat.zero_le _, Nat.zero_le _⟩ dX12_quote_40) ?_
      refine x_istore [(5, .int q13), (0, .ref b), (1, .int a1), (2, .int a2), (3, .int a3), (4, .int a4)] C dX12_quote_43 (by decide) rfl ?_
      refine x_aload_n C dX12_quote_45 rfl ?_
      refine x_aload_n C dX12_quote_46 rfl ?_
      refine x_aload_n C dX12_quote_47 rfl ?_
      obtain ⟨q16, hq17, hF⟩ := bnd_e hF
      have hq17 := Option.some.inj hq17
      have K18 := c_X12_version l D cA s0 b q8.2 
      rw [hq17] at K18
      refine x_goR (fun ls h => x_runV (As := []) [.ref b, .ref b] h C ml_X12_256 K18 ⟨rfl, rfl, nb rfl, nb rfl⟩ rfl (M_obj hw.2.2.2.2) rfl hw.2.2.2.2 (nb rfl) ⟨Nat.zero_le _, Nat.zero_le _⟩ dX12_quote_48) ?_
      refine x_bipush (10 : Int32) C dX12_quote_51 rfl ?_
      obtain ⟨h19, hF⟩ := asr_e hF
      obtain ⟨q20, hq21, hF⟩ := bnd_e hF
      have hq21 := Option.some.inj hq21
      have K22 := c_X12_ofVersion l D cA s0 b q8.2 q16 (10 : Int32) h19 (ixin (ixl (x := (10 : Int32)) 10 rfl) (by decide) (by decide))
      rw [hq21] at K22
      refine x_goR (fun ls h => x_runV (As := [.int q16, .int (10 : Int32)]) [.ref b] h C ml_X12_240 K22 ⟨rfl, rfl, nb rfl, nb rfl⟩ rfl (M_obj hw.2.2.2.2) rfl hw.2.2.2.2 (nb rfl) ⟨Nat.zero_le _, Nat.zero_le _⟩ dX12_quote_53) ?_
      refine x_iload_n C dX12_quote_56 rfl ?_
      refine x_iload_n C dX12_quote_57 rfl ?_
      refine x_isub C dX12_quote_58 ?_
      refine x_iconst (1 : Int32) C dX12_quote_59 rfl ?_
      refine x_iadd C dX12_quote_60 ?_
      obtain ⟨h23, hF⟩ := asr_e hF
      obtain ⟨h24, hF⟩ := asr_e hF
      obtain ⟨q25, hq26, hF⟩ := bnd_e hF
      have hq26 := Option.some.inj hq26
      have K27 := c_X12_daysFrom l D cA s0 q20 ((a3 - a2) + (1 : Int32)) h23 h24
      rw [hq26] at K27
      refine x_goR (fun ls h => x_runS (As := [.int q20, .int ((a3 - a2) + (1 : Int32))]) [.ref b] h C ml_X12_302 K27 ⟨rfl, rfl, nb rfl, nb rfl⟩ rfl trivial (nb rfl) ⟨Nat.zero_le _, Nat.zero_le _⟩ dX12_quote_61) ?_
      refine x_aload_n C dX12_quote_64 rfl ?_
      obtain ⟨q28, hq29, hF⟩ := bnd_e hF
      have hq29 := Option.some.inj hq29
      have K30 := c_X12_version l D cA s0 b q8.2 
      rw [hq29] at K30
      refine x_goR (fun ls h => x_runV (As := []) [.int q25, .ref b] h C ml_X12_256 K30 ⟨rfl, rfl, nb rfl, nb rfl⟩ rfl (M_obj hw.2.2.2.2) rfl hw.2.2.2.2 (nb rfl) ⟨Nat.zero_le _, Nat.zero_le _⟩ dX12_quote_65) ?_
      obtain ⟨h31, hF⟩ := asr_e hF
      obtain ⟨q32, hq33, hF⟩ := bnd_e hF
      have hq33 := Option.some.inj hq33
      have K34 := c_X12_layOf l D cA s0 b q8.2 q25 q28 h31
      rw [hq33] at K34
      refine x_goR (fun ls h => x_runV (As := [.int q25, .int q28]) [] h C ml_X12_330 K34 ⟨rfl, rfl, nb rfl, nb rfl⟩ rfl (M_obj hw.2.2.2.2) rfl hw.2.2.2.2 (nb rfl) ⟨Nat.zero_le _, Nat.zero_le _⟩ dX12_quote_68) ?_
      refine x_istore [(6, .int q32), (5, .int q13), (0, .ref b), (1, .int a1), (2, .int a2), (3, .int a3), (4, .int a4)] C dX12_quote_71 (by decide) rfl ?_
      refine x_iconst (0 : Int32) C dX12_quote_73 rfl ?_
      refine x_istore [(7, .int (0 : Int32)), (6, .int q32), (5, .int q13), (0, .ref b), (1, .int a1), (2, .int a2), (3, .int a3), (4, .int a4)] C dX12_quote_74 (by decide) rfl ?_
      refine x_sub [(0, .ref b), (1, .int a1), (4, .int a4), (5, .int q13), (6, .int q32), (7, .int (0 : Int32))] [3, 4, 7, 2, 1, 0] rfl ?_
      exact h_L76 10000 q8.2 q13 q32 (0 : Int32) _ _ hw hS hF
    · have hF := ite_f hF (nbt c11)
      refine x_iconst (0 : Int32) C dX12_quote_33 rfl ?_
      exact x_iretM2 C rfl dX12_quote_34  (rm_i hF) (rm_m (W := fun m => RX D cA s0 z b m _) hF hw) hS (nb rfl) (nb rfl)
  have h_J26 : ∀ (μ0 : Mm) (y0 : Bool) (H : Heap) (locs : List Loc) (hw : RX D cA s0 z b μ0 H) (hS : va_S (xA b 8 s.heap.size) s.heap H locs), g_X12_quote_J26 ν a1 a2 a3 a4 μ0 y0 = some r → xW p l e { frames := 4, cells := 0, slots := 0, locals := 94 } s m args below meth c 8 (MQ below (xQm (some (.int r.1)) (fun H => RX D cA s0 z b r.2 H) (xA b 8 s.heap.size)) args s 0 0 (xA b 8 s.heap.size)) H locs 0 0 26 [(0, .ref b), (1, .int a1), (2, .int a2), (3, .int a3), (4, .int a4)] [.int (bI y0), .ref b] := by
    intro μ0 y0 H locs hw hS hF
    refine x_iconst (0 : Int32) C dX12_quote_26 rfl ?_
    exact h_J27 μ0 false y0 _ _ hw hS hF
  refine x_aload_n C dX12_quote_0 rfl ?_
  refine x_aload_n C dX12_quote_1 rfl ?_
  refine x_iload_n C dX12_quote_2 rfl ?_
  obtain ⟨q1, hq2, hF⟩ := bnd_e hF
  have hq2 := Option.some.inj hq2
  have K3 := c_X12_isShip l D cA s0 b ν a1 
  rw [hq2] at K3
  refine x_goR (fun ls h => x_runV (As := [.int a1]) [.ref b] h C ml_X12_282 K3 ⟨rfl, rfl, nb rfl, nb rfl⟩ rfl (M_obj hw.2.2.2.2) rfl hw.2.2.2.2 (nb rfl) ⟨Nat.zero_le _, Nat.zero_le _⟩ dX12_quote_3) ?_
  refine x_iload_n C dX12_quote_6 rfl ?_
  refine x_iload_n C dX12_quote_7 rfl ?_
  obtain ⟨q4, hq5, hF⟩ := bnd_e hF
  have hq5 := Option.some.inj hq5
  have K6 := c_X12_areDays l D cA s0 a2 a3 
  rw [hq5] at K6
  refine x_goR (fun ls h => x_runS (As := [.int a2, .int a3]) [.int (bI q1), .ref b] h C ml_X12_395 K6 ⟨rfl, rfl, nb rfl, nb rfl⟩ rfl trivial (nb rfl) ⟨Nat.zero_le _, Nat.zero_le _⟩ dX12_quote_8) ?_
  refine x_ifB_eq 26 C dX12_quote_11 (by decide) (fun c7 => ?_) (fun c7 => ?_)
  · have hF := ite_f hF (nbt c7)
    exact h_J26 ν q1 _ _ hw hS hF
  · have hF := ite_t hF c7
    refine x_iload C dX12_quote_14 rfl ?_
    obtain ⟨q48, hq49, hF⟩ := bnd_e hF
    have hq49 := Option.some.inj hq49
    have K50 := c_X12_isWaste l D cA s0 a4 
    rw [hq49] at K50
    refine x_goR (fun ls h => x_runS (As := [.int a4]) [.int (bI q1), .ref b] h C ml_X12_276 K50 ⟨rfl, rfl, nb rfl, nb rfl⟩ rfl trivial (nb rfl) ⟨Nat.zero_le _, Nat.zero_le _⟩ dX12_quote_16) ?_
    refine x_ifB_eq 26 C dX12_quote_19 (by decide) (fun c51 => ?_) (fun c51 => ?_)
    · have hF := ite_f hF (nbt c51)
      exact h_J26 ν q1 _ _ hw hS hF
    · have hF := ite_t hF c51
      refine x_iconst (1 : Int32) C dX12_quote_22 rfl ?_
      refine x_goto 27 C dX12_quote_23 (by decide) ?_
      exact h_J27 ν true q1 _ _ hw hS hF
noncomputable def g_X12_callsToRebate_L39 (ν : Mm) (a1 : Int32) (a2 : Int32) : Nat → Mm → Int32 → Int32 → Int32 → Option (Int32 × Mm)
  | 0, _, _, _, _ => none
  | n + 1, μ0, x3, x4, x5 => (if (99 : Int32) < (x3 + x5) then some ((-1 : Int32), μ0) else bnd (some (f_X12_version μ0)) (fun q23 => asr (OkR (μ0.1 1)) (asr (vp_in q23 21) (bnd (some (f_X12_percentOf μ0 (x3 + x5) q23)) (fun q28 => (if q28 ≤ x4 then (g_X12_callsToRebate_L39 ν a1 a2 n μ0 x3 x4 (x5 + (1 : Int32))) else some (x5, μ0)))))))
noncomputable def g_X12_callsToRebate (ν : Mm) (a1 : Int32) (a2 : Int32) : Option (Int32 × Mm) := bnd (some (f_X12_isShip ν a1)) (fun q1 => bnd (some (f_X12_isYear a2)) (fun q4 => bnd (some (f_X12_passes2 ν q1 q4)) (fun q7 => (if q7.1 = true then asr (OkR (q7.2.1 1)) (bnd (some (f_X12_callsIn q7.2 a1 a2)) (fun q12 => bnd (some (f_X12_version q7.2)) (fun q15 => asr (vp_in q15 21) (bnd (some (f_X12_percentOf q7.2 q12 q15)) (fun q19 => (g_X12_callsToRebate_L39 ν a1 a2 10000 q7.2 q12 q19 (1 : Int32))))))) else some ((0 : Int32), q7.2)))))
set_option maxRecDepth 20000 in
set_option maxHeartbeats 4000000 in
theorem k_X12_callsToRebate (l : Launch) (D : va_G) (cA : Nat → ClassId) (s0 : State) (z : Nat) (b : Nat) (ν : Mm) (sz : Nat) (hG : xG l D cA s0) (a1 : Int32) (a2 : Int32) (r : Int32 × Mm) (hF : g_X12_callsToRebate ν a1 a2 = some r) : Met l yX12_callsToRebate (wsG yX12_callsToRebate cX12_callsToRebate 6 (some (FieldType.int))) { frames := 3, cells := 0, slots := 0, locals := 68 } (xP D cA s0 [.ref b, .int a1, .int a2] (fun H => H.size = sz ∧ RX D cA s0 z b ν H)) (xQm (some (.int r.1)) (fun H => RX D cA s0 z b r.2 H) (xA b 8 sz)) 0 0 (xA b 8 sz) := by
  refine x_start (own := RX12) [(0, .ref b), (1, .int a1), (2, .int a2)] rfl rfl (by decide) (nb rfl) ?_
  intro p e s m args below meth c C hw
  obtain ⟨hsz, hw⟩ := hw
  subst hsz
  have hS : va_S (xA b 8 s.heap.size) s.heap s.heap [] := va_S.rf
  have h_L39 : ∀ (n : Nat) (μ0 : Mm) (x3 : Int32) (x4 : Int32) (x5 : Int32) (H : Heap) (locs : List Loc) (hw : RX D cA s0 z b μ0 H) (hS : va_S (xA b 8 s.heap.size) s.heap H locs), g_X12_callsToRebate_L39 ν a1 a2 n μ0 x3 x4 x5 = some r → xW p l e { frames := 3, cells := 0, slots := 0, locals := 68 } s m args below meth c 6 (MQ below (xQm (some (.int r.1)) (fun H => RX D cA s0 z b r.2 H) (xA b 8 s.heap.size)) args s 0 0 (xA b 8 s.heap.size)) H locs 0 0 39 [(0, .ref b), (3, .int x3), (4, .int x4), (5, .int x5)] [] := by
    intro n
    induction n with
    | zero =>
      intro μ0 x3 x4 x5 H locs hw hS hF
      exact no_some hF
    | succ n ih =>
      intro μ0 x3 x4 x5 H locs hw hS hF
      have ih39 := ih
      refine x_iload_n C dX12_callsToRebate_39 rfl ?_
      refine x_iload C dX12_callsToRebate_40 rfl ?_
      refine x_iadd C dX12_callsToRebate_42 ?_
      refine x_bipush (99 : Int32) C dX12_callsToRebate_43 rfl ?_
      refine x_icmp_gt 74 C dX12_callsToRebate_45 (by decide) (fun c22 => ?_) (fun c22 => ?_)
      · have hF := ite_t hF c22
        refine x_iconst (-1 : Int32) C dX12_callsToRebate_74 rfl ?_
        exact x_iretM2 C rfl dX12_callsToRebate_75  (rm_i hF) (rm_m (W := fun m => RX D cA s0 z b m _) hF hw) hS (nb rfl) (nb rfl)
      · have hF := ite_f hF c22
        refine x_aload_n C dX12_callsToRebate_48 rfl ?_
        refine x_iload_n C dX12_callsToRebate_49 rfl ?_
        refine x_iload C dX12_callsToRebate_50 rfl ?_
        refine x_iadd C dX12_callsToRebate_52 ?_
        refine x_aload_n C dX12_callsToRebate_53 rfl ?_
        obtain ⟨q23, hq24, hF⟩ := bnd_e hF
        have hq24 := Option.some.inj hq24
        have K25 := c_X12_version l D cA s0 b μ0 
        rw [hq24] at K25
        refine x_goR (fun ls h => x_runV (As := []) [.int (x3 + x5), .ref b] h C ml_X12_256 K25 ⟨rfl, rfl, nb rfl, nb rfl⟩ rfl (M_obj hw.2.2.2.2) rfl hw.2.2.2.2 (nb rfl) ⟨Nat.zero_le _, Nat.zero_le _⟩ dX12_callsToRebate_54) ?_
        obtain ⟨h26, hF⟩ := asr_e hF
        obtain ⟨h27, hF⟩ := asr_e hF
        obtain ⟨q28, hq29, hF⟩ := bnd_e hF
        have hq29 := Option.some.inj hq29
        have K30 := c_X12_percentOf l D cA s0 b μ0 h26 (x3 + x5) q23 h27
        rw [hq29] at K30
        refine x_goR (fun ls h => x_runV (As := [.int (x3 + x5), .int q23]) [] h C ml_X12_320 K30 ⟨rfl, rfl, nb rfl, nb rfl⟩ rfl (M_obj hw.2.2.2.2) rfl hw.2.2.2.2 (nb rfl) ⟨Nat.zero_le _, Nat.zero_le _⟩ dX12_callsToRebate_57) ?_
        refine x_iload C dX12_callsToRebate_60 rfl ?_
        refine x_icmp_le 68 C dX12_callsToRebate_62 (by decide) (fun c31 => ?_) (fun c31 => ?_)
        · have hF := ite_t hF c31
          refine x_iinc (x5 + (1 : Int32)) [(5, .int (x5 + (1 : Int32))), (0, .ref b), (3, .int x3), (4, .int x4)] C dX12_callsToRebate_68 rfl rfl (by decide) rfl ?_
          refine x_goto 39 C dX12_callsToRebate_71 (by decide) ?_
          refine x_sub [(0, .ref b), (3, .int x3), (4, .int x4), (5, .int (x5 + (1 : Int32)))] [1, 2, 3, 0] rfl ?_
          exact ih39 μ0 x3 x4 (x5 + (1 : Int32)) _ _ hw hS hF
        · have hF := ite_f hF c31
          refine x_iload C dX12_callsToRebate_65 rfl ?_
          exact x_iretM2 C rfl dX12_callsToRebate_67  (rm_i hF) (rm_m (W := fun m => RX D cA s0 z b m _) hF hw) hS (nb rfl) (nb rfl)
  refine x_aload_n C dX12_callsToRebate_0 rfl ?_
  refine x_aload_n C dX12_callsToRebate_1 rfl ?_
  refine x_iload_n C dX12_callsToRebate_2 rfl ?_
  obtain ⟨q1, hq2, hF⟩ := bnd_e hF
  have hq2 := Option.some.inj hq2
  have K3 := c_X12_isShip l D cA s0 b ν a1 
  rw [hq2] at K3
  refine x_goR (fun ls h => x_runV (As := [.int a1]) [.ref b] h C ml_X12_282 K3 ⟨rfl, rfl, nb rfl, nb rfl⟩ rfl (M_obj hw.2.2.2.2) rfl hw.2.2.2.2 (nb rfl) ⟨Nat.zero_le _, Nat.zero_le _⟩ dX12_callsToRebate_3) ?_
  refine x_iload_n C dX12_callsToRebate_6 rfl ?_
  obtain ⟨q4, hq5, hF⟩ := bnd_e hF
  have hq5 := Option.some.inj hq5
  have K6 := c_X12_isYear l D cA s0 a2 
  rw [hq5] at K6
  refine x_goR (fun ls h => x_runS (As := [.int a2]) [.int (bI q1), .ref b] h C ml_X12_339 K6 ⟨rfl, rfl, nb rfl, nb rfl⟩ rfl trivial (nb rfl) ⟨Nat.zero_le _, Nat.zero_le _⟩ dX12_callsToRebate_7) ?_
  obtain ⟨q7, hq8, hF⟩ := bnd_e hF
  have hq8 := Option.some.inj hq8
  have K9 := c_X12_passes2 l D cA s0 b ν s.heap.size q1 q4 
  rw [hq8] at K9
  have hwo := hw
  refine x_goM (fun ls h => x_runV (As := [.int (bI q1), .int (bI q4)]) [] h C ml_X12_263 K9 ⟨rfl, rfl, nb rfl, nb rfl⟩ rfl (M_obj hw.2.2.2.2) rfl ⟨rfl, hw.2.2.2.2⟩ (nb rfl) ⟨Nat.zero_le _, Nat.zero_le _⟩ dX12_callsToRebate_10) hS (xA_le hS) (fun H locs hw hz hk hS => ?_)
  have hw : RX D cA s0 z b q7.2 H := RX.of hwo hw hz hk
  refine x_ifB_ne 18 C dX12_callsToRebate_13 (by decide) (fun c10 => ?_) (fun c10 => ?_)
  · have hF := ite_t hF c10
    refine x_aload_n C dX12_callsToRebate_18 rfl ?_
    refine x_iload_n C dX12_callsToRebate_19 rfl ?_
    refine x_iload_n C dX12_callsToRebate_20 rfl ?_
    obtain ⟨h11, hF⟩ := asr_e hF
    obtain ⟨q12, hq13, hF⟩ := bnd_e hF
    have hq13 := Option.some.inj hq13
    have K14 := c_X12_callsIn l D cA s0 b q7.2 h11 a1 a2 
    rw [hq13] at K14
    refine x_goR (fun ls h => x_runV (As := [.int a1, .int a2]) [] h C ml_X12_342 K14 ⟨rfl, rfl, nb rfl, nb rfl⟩ rfl (M_obj hw.2.2.2.2) rfl hw.2.2.2.2 (nb rfl) ⟨Nat.zero_le _, Nat.zero_le _⟩ dX12_callsToRebate_21) ?_
    refine x_istore_n [(3, .int q12), (0, .ref b), (1, .int a1), (2, .int a2)] C dX12_callsToRebate_24 rfl (by decide) rfl ?_
    refine x_aload_n C dX12_callsToRebate_25 rfl ?_
    refine x_iload_n C dX12_callsToRebate_26 rfl ?_
    refine x_aload_n C dX12_callsToRebate_27 rfl ?_
    obtain ⟨q15, hq16, hF⟩ := bnd_e hF
    have hq16 := Option.some.inj hq16
    have K17 := c_X12_version l D cA s0 b q7.2 
    rw [hq16] at K17
    refine x_goR (fun ls h => x_runV (As := []) [.int q12, .ref b] h C ml_X12_256 K17 ⟨rfl, rfl, nb rfl, nb rfl⟩ rfl (M_obj hw.2.2.2.2) rfl hw.2.2.2.2 (nb rfl) ⟨Nat.zero_le _, Nat.zero_le _⟩ dX12_callsToRebate_28) ?_
    obtain ⟨h18, hF⟩ := asr_e hF
    obtain ⟨q19, hq20, hF⟩ := bnd_e hF
    have hq20 := Option.some.inj hq20
    have K21 := c_X12_percentOf l D cA s0 b q7.2 h11 q12 q15 h18
    rw [hq20] at K21
    refine x_goR (fun ls h => x_runV (As := [.int q12, .int q15]) [] h C ml_X12_320 K21 ⟨rfl, rfl, nb rfl, nb rfl⟩ rfl (M_obj hw.2.2.2.2) rfl hw.2.2.2.2 (nb rfl) ⟨Nat.zero_le _, Nat.zero_le _⟩ dX12_callsToRebate_31) ?_
    refine x_istore [(4, .int q19), (3, .int q12), (0, .ref b), (1, .int a1), (2, .int a2)] C dX12_callsToRebate_34 (by decide) rfl ?_
    refine x_iconst (1 : Int32) C dX12_callsToRebate_36 rfl ?_
    refine x_istore [(5, .int (1 : Int32)), (4, .int q19), (3, .int q12), (0, .ref b), (1, .int a1), (2, .int a2)] C dX12_callsToRebate_37 (by decide) rfl ?_
    refine x_sub [(0, .ref b), (3, .int q12), (4, .int q19), (5, .int (1 : Int32))] [3, 2, 1, 0] rfl ?_
    exact h_L39 10000 q7.2 q12 q19 (1 : Int32) _ _ hw hS hF
  · have hF := ite_f hF (nbt c10)
    refine x_iconst (0 : Int32) C dX12_callsToRebate_16 rfl ?_
    exact x_iretM2 C rfl dX12_callsToRebate_17  (rm_i hF) (rm_m (W := fun m => RX D cA s0 z b m _) hF hw) hS (nb rfl) (nb rfl)
noncomputable def g_X12_worth (ν : Mm) (a1 : Int32) : Option (Int32 × Mm) := bnd (some (f_X12_isCall ν a1)) (fun q1 => bnd (some (f_X12_passes ν q1)) (fun q4 => (if q4.1 = true then asr (vp_in a1 41) (bnd (some (f_X12_ofCall q4.2 a1 (4 : Int32))) (fun q9 => (if q9 = (1 : Int32) then some ((0 : Int32), q4.2) else bnd (some (f_X12_ofCall q4.2 a1 (0 : Int32))) (fun q13 => asr (OkR (q4.2.1 1)) (bnd (some (f_X12_totalFor q4.2 q13)) (fun q17 => bnd (g_X12_setCall q4.2 a1 (4 : Int32) (1 : Int32)) (fun q20 => asr (OkR (q20.1 1)) (bnd (some (f_X12_totalFor q20 q13)) (fun q23 => bnd (g_X12_setCall q20 a1 (4 : Int32) (0 : Int32)) (fun q26 => some (q17 - q23, q26))))))))))) else some ((0 : Int32), q4.2))))
set_option maxRecDepth 20000 in
set_option maxHeartbeats 4000000 in
theorem k_X12_worth (l : Launch) (D : va_G) (cA : Nat → ClassId) (s0 : State) (z : Nat) (b : Nat) (ν : Mm) (sz : Nat) (hG : xG l D cA s0) (a1 : Int32) (r : Int32 × Mm) (hF : g_X12_worth ν a1 = some r) : Met l yX12_worth (wsG yX12_worth cX12_worth 5 (some (FieldType.int))) { frames := 8, cells := 0, slots := 0, locals := 183 } (xP D cA s0 [.ref b, .int a1] (fun H => H.size = sz ∧ RX D cA s0 z b ν H)) (xQm (some (.int r.1)) (fun H => RX D cA s0 z b r.2 H) (xA b 8 sz)) 0 0 (xA b 8 sz) := by
  refine x_start (own := RX12) [(0, .ref b), (1, .int a1)] rfl rfl (by decide) (nb rfl) ?_
  intro p e s m args below meth c C hw
  obtain ⟨hsz, hw⟩ := hw
  subst hsz
  have hS : va_S (xA b 8 s.heap.size) s.heap s.heap [] := va_S.rf
  refine x_aload_n C dX12_worth_0 rfl ?_
  refine x_aload_n C dX12_worth_1 rfl ?_
  refine x_iload_n C dX12_worth_2 rfl ?_
  obtain ⟨q1, hq2, hF⟩ := bnd_e hF
  have hq2 := Option.some.inj hq2
  have K3 := c_X12_isCall l D cA s0 b ν a1 
  rw [hq2] at K3
  refine x_goR (fun ls h => x_runV (As := [.int a1]) [.ref b] h C ml_X12_345 K3 ⟨rfl, rfl, nb rfl, nb rfl⟩ rfl (M_obj hw.2.2.2.2) rfl hw.2.2.2.2 (nb rfl) ⟨Nat.zero_le _, Nat.zero_le _⟩ dX12_worth_3) ?_
  obtain ⟨q4, hq5, hF⟩ := bnd_e hF
  have hq5 := Option.some.inj hq5
  have K6 := c_X12_passes l D cA s0 b ν s.heap.size q1 
  rw [hq5] at K6
  have hwo := hw
  refine x_goM (fun ls h => x_runV (As := [.int (bI q1)]) [] h C ml_X12_62 K6 ⟨rfl, rfl, nb rfl, nb rfl⟩ rfl (M_obj hw.2.2.2.2) rfl ⟨rfl, hw.2.2.2.2⟩ (nb rfl) ⟨Nat.zero_le _, Nat.zero_le _⟩ dX12_worth_6) hS (xA_le hS) (fun H locs hw hz hk hS => ?_)
  have hw : RX D cA s0 z b q4.2 H := RX.of hwo hw hz hk
  refine x_ifB_ne 14 C dX12_worth_9 (by decide) (fun c7 => ?_) (fun c7 => ?_)
  · have hF := ite_t hF c7
    refine x_aload_n C dX12_worth_14 rfl ?_
    refine x_iload_n C dX12_worth_15 rfl ?_
    refine x_iconst (4 : Int32) C dX12_worth_16 rfl ?_
    obtain ⟨h8, hF⟩ := asr_e hF
    obtain ⟨q9, hq10, hF⟩ := bnd_e hF
    have hq10 := Option.some.inj hq10
    have K11 := c_X12_ofCall l D cA s0 b q4.2 a1 (4 : Int32) h8 (ixin (ixl (x := (4 : Int32)) 4 rfl) (by decide) (by decide))
    rw [hq10] at K11
    refine x_goR (fun ls h => x_runV (As := [.int a1, .int (4 : Int32)]) [] h C ml_X12_248 K11 ⟨rfl, rfl, nb rfl, nb rfl⟩ rfl (M_obj hw.2.2.2.2) rfl hw.2.2.2.2 (nb rfl) ⟨Nat.zero_le _, Nat.zero_le _⟩ dX12_worth_17) ?_
    refine x_iconst (1 : Int32) C dX12_worth_20 rfl ?_
    refine x_icmp_ne 26 C dX12_worth_21 (by decide) (fun c12 => ?_) (fun c12 => ?_)
    · have hF := ite_f hF c12
      refine x_aload_n C dX12_worth_26 rfl ?_
      refine x_iload_n C dX12_worth_27 rfl ?_
      refine x_iconst (0 : Int32) C dX12_worth_28 rfl ?_
      obtain ⟨q13, hq14, hF⟩ := bnd_e hF
      have hq14 := Option.some.inj hq14
      have K15 := c_X12_ofCall l D cA s0 b q4.2 a1 (0 : Int32) h8 (ixin (ixl (x := (0 : Int32)) 0 rfl) (by decide) (by decide))
      rw [hq14] at K15
      refine x_goR (fun ls h => x_runV (As := [.int a1, .int (0 : Int32)]) [] h C ml_X12_248 K15 ⟨rfl, rfl, nb rfl, nb rfl⟩ rfl (M_obj hw.2.2.2.2) rfl hw.2.2.2.2 (nb rfl) ⟨Nat.zero_le _, Nat.zero_le _⟩ dX12_worth_29) ?_
      refine x_istore_n [(2, .int q13), (0, .ref b), (1, .int a1)] C dX12_worth_32 rfl (by decide) rfl ?_
      refine x_aload_n C dX12_worth_33 rfl ?_
      refine x_iload_n C dX12_worth_34 rfl ?_
      obtain ⟨h16, hF⟩ := asr_e hF
      obtain ⟨q17, hq18, hF⟩ := bnd_e hF
      have hq18 := Option.some.inj hq18
      have K19 := c_X12_totalFor l D cA s0 b q4.2 h16 q13 
      rw [hq18] at K19
      refine x_goR (fun ls h => x_runV (As := [.int q13]) [] h C ml_X12_398 K19 ⟨rfl, rfl, nb rfl, nb rfl⟩ rfl (M_obj hw.2.2.2.2) rfl hw.2.2.2.2 (nb rfl) ⟨Nat.zero_le _, Nat.zero_le _⟩ dX12_worth_35) ?_
      refine x_istore_n [(3, .int q17), (2, .int q13), (0, .ref b), (1, .int a1)] C dX12_worth_38 rfl (by decide) rfl ?_
      refine x_aload_n C dX12_worth_39 rfl ?_
      refine x_iload_n C dX12_worth_40 rfl ?_
      refine x_iconst (4 : Int32) C dX12_worth_41 rfl ?_
      refine x_iconst (1 : Int32) C dX12_worth_42 rfl ?_
      obtain ⟨q20, hq21, hF⟩ := bnd_e hF
      refine x_goM (fun ls h => x_runV (As := [.int a1, .int (4 : Int32), .int (1 : Int32)]) [] h C ml_X12_401 (k_X12_setCall l D cA s0 z b q4.2 _ hG a1 (4 : Int32) (1 : Int32) q20 hq21) ⟨rfl, rfl, nb rfl, nb rfl⟩ rfl (M_obj hw.2.2.2.2) rfl ⟨rfl, hw⟩ (nb rfl) ⟨Nat.zero_le _, Nat.zero_le _⟩ dX12_worth_43) hS (xA_le hS) (fun H locs hw hz hk hS => ?_)
      have hw : RX D cA s0 z b q20 H := hw
      refine x_aload_n C dX12_worth_46 rfl ?_
      refine x_iload_n C dX12_worth_47 rfl ?_
      obtain ⟨h22, hF⟩ := asr_e hF
      obtain ⟨q23, hq24, hF⟩ := bnd_e hF
      have hq24 := Option.some.inj hq24
      have K25 := c_X12_totalFor l D cA s0 b q20 h22 q13 
      rw [hq24] at K25
      refine x_goR (fun ls h => x_runV (As := [.int q13]) [] h C ml_X12_398 K25 ⟨rfl, rfl, nb rfl, nb rfl⟩ rfl (M_obj hw.2.2.2.2) rfl hw.2.2.2.2 (nb rfl) ⟨Nat.zero_le _, Nat.zero_le _⟩ dX12_worth_48) ?_
      refine x_istore [(4, .int q23), (3, .int q17), (2, .int q13), (0, .ref b), (1, .int a1)] C dX12_worth_51 (by decide) rfl ?_
      refine x_aload_n C dX12_worth_53 rfl ?_
      refine x_iload_n C dX12_worth_54 rfl ?_
      refine x_iconst (4 : Int32) C dX12_worth_55 rfl ?_
      refine x_iconst (0 : Int32) C dX12_worth_56 rfl ?_
      obtain ⟨q26, hq27, hF⟩ := bnd_e hF
      refine x_goM (fun ls h => x_runV (As := [.int a1, .int (4 : Int32), .int (0 : Int32)]) [] h C ml_X12_401 (k_X12_setCall l D cA s0 z b q20 _ hG a1 (4 : Int32) (0 : Int32) q26 hq27) ⟨rfl, rfl, nb rfl, nb rfl⟩ rfl (M_obj hw.2.2.2.2) rfl ⟨rfl, hw⟩ (nb rfl) ⟨Nat.zero_le _, Nat.zero_le _⟩ dX12_worth_57) hS (xA_le hS) (fun H locs hw hz hk hS => ?_)
      have hw : RX D cA s0 z b q26 H := hw
      refine x_iload_n C dX12_worth_60 rfl ?_
      refine x_iload C dX12_worth_61 rfl ?_
      refine x_isub C dX12_worth_63 ?_
      exact x_iretM2 C rfl dX12_worth_64  (rm_i hF) (rm_m (W := fun m => RX D cA s0 z b m _) hF hw) hS (nb rfl) (nb rfl)
    · have hF := ite_t hF c12
      refine x_iconst (0 : Int32) C dX12_worth_24 rfl ?_
      exact x_iretM2 C rfl dX12_worth_25  (rm_i hF) (rm_m (W := fun m => RX D cA s0 z b m _) hF hw) hS (nb rfl) (nb rfl)
  · have hF := ite_f hF (nbt c7)
    refine x_iconst (0 : Int32) C dX12_worth_12 rfl ?_
    exact x_iretM2 C rfl dX12_worth_13  (rm_i hF) (rm_m (W := fun m => RX D cA s0 z b m _) hF hw) hS (nb rfl) (nb rfl)
noncomputable def g_X12_totalWith (ν : Mm) (a1 : Int32) (a2 : Int32) (a3 : Int32) (a4 : Int32) : Option (Int32 × Mm) := bnd (g_X12_layCall ν (ν.1 1 1) a1 a2 ((a2 + a3) - (1 : Int32)) a4) (fun q1 => bnd (some (uI q1 1 1 ((q1.1 1 1) + (1 : Int32)))) (fun μ3 => asr (OkR (μ3.1 1)) (bnd (some (f_X12_totalFor μ3 a1)) (fun q6 => bnd (some (uI μ3 1 1 ((μ3.1 1 1) - (1 : Int32)))) (fun μ9 => some (q6, μ9))))))
set_option maxRecDepth 20000 in
set_option maxHeartbeats 4000000 in
theorem k_X12_totalWith (l : Launch) (D : va_G) (cA : Nat → ClassId) (s0 : State) (z : Nat) (b : Nat) (ν : Mm) (sz : Nat) (hG : xG l D cA s0) (a1 : Int32) (a2 : Int32) (a3 : Int32) (a4 : Int32) (r : Int32 × Mm) (hF : g_X12_totalWith ν a1 a2 a3 a4 = some r) : Met l yX12_totalWith (wsG yX12_totalWith cX12_totalWith 6 (some (FieldType.int))) { frames := 8, cells := 0, slots := 0, locals := 183 } (xP D cA s0 [.ref b, .int a1, .int a2, .int a3, .int a4] (fun H => H.size = sz ∧ RX D cA s0 z b ν H)) (xQm (some (.int r.1)) (fun H => RX D cA s0 z b r.2 H) (xA b 8 sz)) 0 0 (xA b 8 sz) := by
  refine x_start (own := RX12) [(0, .ref b), (1, .int a1), (2, .int a2), (3, .int a3), (4, .int a4)] rfl rfl (by decide) (nb rfl) ?_
  intro p e s m args below meth c C hw
  obtain ⟨hsz, hw⟩ := hw
  subst hsz
  have hS : va_S (xA b 8 s.heap.size) s.heap s.heap [] := va_S.rf
  refine x_aload_n C dX12_totalWith_0 rfl ?_
  refine x_aload_n C dX12_totalWith_1 rfl ?_
  refine x_get (.ref (b + 1)) C fl_X12_17 (M_obj hw.2.2.2.2) rfl dX12_totalWith_2 ?_
  refine x_iconst (1 : Int32) C dX12_totalWith_5 rfl ?_
  refine x_ialdN C (M_a1 hw.2.2.2.2) (ixl (x := (1 : Int32)) 1 rfl) (by decide) (by decide) dX12_totalWith_6 ?_
  refine x_iload_n C dX12_totalWith_7 rfl ?_
  refine x_iload_n C dX12_totalWith_8 rfl ?_
  refine x_iload_n C dX12_totalWith_9 rfl ?_
  refine x_iload_n C dX12_totalWith_10 rfl ?_
  refine x_iadd C dX12_totalWith_11 ?_
  refine x_iconst (1 : Int32) C dX12_totalWith_12 rfl ?_
  refine x_isub C dX12_totalWith_13 ?_
  refine x_iload C dX12_totalWith_14 rfl ?_
  obtain ⟨q1, hq2, hF⟩ := bnd_e hF
  refine x_goM (fun ls h => x_runV (As := [.int (ν.1 1 1), .int a1, .int a2, .int ((a2 + a3) - (1 : Int32)), .int a4]) [] h C ml_X12_200 (k_X12_layCall l D cA s0 z b ν _ hG (ν.1 1 1) a1 a2 ((a2 + a3) - (1 : Int32)) a4 q1 hq2) ⟨rfl, rfl, nb rfl, nb rfl⟩ rfl (M_obj hw.2.2.2.2) rfl ⟨rfl, hw⟩ (nb rfl) ⟨Nat.zero_le _, Nat.zero_le _⟩ dX12_totalWith_16) hS (xA_le hS) (fun H locs hw hz hk hS => ?_)
  have hw : RX D cA s0 z b q1 H := hw
  refine x_aload_n C dX12_totalWith_19 rfl ?_
  refine x_get (.ref (b + 1)) C fl_X12_17 (M_obj hw.2.2.2.2) rfl dX12_totalWith_20 ?_
  refine x_iconst (1 : Int32) C dX12_totalWith_23 rfl ?_
  refine x_dup2_11 C dX12_totalWith_24 rfl rfl ?_
  refine x_ialdN C (M_a1 hw.2.2.2.2) (ixl (x := (1 : Int32)) 1 rfl) (by decide) (by decide) dX12_totalWith_25 ?_
  refine x_iconst (1 : Int32) C dX12_totalWith_26 rfl ?_
  refine x_iadd C dX12_totalWith_27 ?_
  refine m_iast 1 C hw (by decide) (fun _ => rfl) (ixl (x := (1 : Int32)) 1 rfl) (by decide) (by decide) dX12_totalWith_28 hS (fun H locs hw hS => ?_)
  obtain ⟨μ3, hm4, hF⟩ := bnd_e hF
  have hw : RX D cA s0 z b μ3 H := rv_m (W := fun m => RX D cA s0 z b m _) hm4 hw
  refine x_aload_n C dX12_totalWith_29 rfl ?_
  refine x_iload_n C dX12_totalWith_30 rfl ?_
  obtain ⟨h5, hF⟩ := asr_e hF
  obtain ⟨q6, hq7, hF⟩ := bnd_e hF
  have hq7 := Option.some.inj hq7
  have K8 := c_X12_totalFor l D cA s0 b μ3 h5 a1 
  rw [hq7] at K8
  refine x_goR (fun ls h => x_runV (As := [.int a1]) [] h C ml_X12_398 K8 ⟨rfl, rfl, nb rfl, nb rfl⟩ rfl (M_obj hw.2.2.2.2) rfl hw.2.2.2.2 (nb rfl) ⟨Nat.zero_le _, Nat.zero_le _⟩ dX12_totalWith_31) ?_
  refine x_istore [(5, .int q6), (0, .ref b), (1, .int a1), (2, .int a2), (3, .int a3), (4, .int a4)] C dX12_totalWith_34 (by decide) rfl ?_
  refine x_aload_n C dX12_totalWith_36 rfl ?_
  refine x_get (.ref (b + 1)) C fl_X12_17 (M_obj hw.2.2.2.2) rfl dX12_totalWith_37 ?_
  refine x_iconst (1 : Int32) C dX12_totalWith_40 rfl ?_
  refine x_dup2_11 C dX12_totalWith_41 rfl rfl ?_
  refine x_ialdN C (M_a1 hw.2.2.2.2) (ixl (x := (1 : Int32)) 1 rfl) (by decide) (by decide) dX12_totalWith_42 ?_
  refine x_iconst (1 : Int32) C dX12_totalWith_43 rfl ?_
  refine x_isub C dX12_totalWith_44 ?_
  refine m_iast 1 C hw (by decide) (fun _ => rfl) (ixl (x := (1 : Int32)) 1 rfl) (by decide) (by decide) dX12_totalWith_45 hS (fun H locs hw hS => ?_)
  obtain ⟨μ9, hm10, hF⟩ := bnd_e hF
  have hw : RX D cA s0 z b μ9 H := rv_m (W := fun m => RX D cA s0 z b m _) hm10 hw
  refine x_iload C dX12_totalWith_46 rfl ?_
  exact x_iretM2 C rfl dX12_totalWith_48  (rm_i hF) (rm_m (W := fun m => RX D cA s0 z b m _) hF hw) hS (nb rfl) (nb rfl)
noncomputable def g_X12_bestDay_L97 (ν : Mm) (a1 : Int32) (a2 : Int32) (a3 : Int32) (a4 : Int32) (a5 : Int32) : Nat → Mm → Int32 → Int32 → Int32 → Option (Int32 × Mm)
  | 0, _, _, _, _ => none
  | n + 1, μ0, x7, x8, x9 => (if a3 < x9 then some (x7, μ0) else bnd (g_X12_totalWith μ0 a1 x9 a4 a5) (fun q15 => (if x8 ≤ q15.1 then (g_X12_bestDay_L97 ν a1 a2 a3 a4 a5 n q15.2 x7 (imin x8 q15.1) (x9 + (1 : Int32))) else (g_X12_bestDay_L97 ν a1 a2 a3 a4 a5 n q15.2 x9 (imin x8 q15.1) (x9 + (1 : Int32))))))
noncomputable def g_X12_bestDay_J59 (ν : Mm) (a1 : Int32) (a2 : Int32) (a3 : Int32) (a4 : Int32) (a5 : Int32) (μ0 : Mm) (y0 : Bool) : Option (Int32 × Mm) := bnd (some (f_X12_isShip μ0 a1)) (fun q5 => bnd (some (f_X12_passes2 μ0 q5 y0)) (fun q8 => (if q8.1 = true then bnd (g_X12_totalWith q8.2 a1 a2 a4 a5) (fun q12 => (g_X12_bestDay_L97 ν a1 a2 a3 a4 a5 10000 q12.2 a2 q12.1 (a2 + (1 : Int32)))) else some ((0 : Int32), q8.2))))
noncomputable def g_X12_bestDay_J58 (ν : Mm) (a1 : Int32) (a2 : Int32) (a3 : Int32) (a4 : Int32) (a5 : Int32) (μ0 : Mm) : Option (Int32 × Mm) := (g_X12_bestDay_J59 ν a1 a2 a3 a4 a5 μ0 false)
noncomputable def g_X12_bestDay (ν : Mm) (a1 : Int32) (a2 : Int32) (a3 : Int32) (a4 : Int32) (a5 : Int32) : Option (Int32 × Mm) := bnd (some (f_X12_in a2.toInt64 (0 : Int64) (3599 : Int64))) (fun q1 => (if q1 = true then bnd (some (f_X12_in a3.toInt64 a2.toInt64 ((imin (3599 : Int32) (a2 + (99 : Int32))).toInt64))) (fun q18 => (if q18 = true then bnd (some (f_X12_in a4.toInt64 (1 : Int64) (30 : Int64))) (fun q22 => (if q22 = true then bnd (some (f_X12_isWaste a5)) (fun q26 => (if q26 = true then (g_X12_bestDay_J59 ν a1 a2 a3 a4 a5 ν true) else (g_X12_bestDay_J58 ν a1 a2 a3 a4 a5 ν))) else (g_X12_bestDay_J58 ν a1 a2 a3 a4 a5 ν))) else (g_X12_bestDay_J58 ν a1 a2 a3 a4 a5 ν))) else (g_X12_bestDay_J58 ν a1 a2 a3 a4 a5 ν)))
set_option maxRecDepth 20000 in
set_option maxHeartbeats 4000000 in
theorem k_X12_bestDay (l : Launch) (D : va_G) (cA : Nat → ClassId) (s0 : State) (z : Nat) (b : Nat) (ν : Mm) (sz : Nat) (hG : xG l D cA s0) (a1 : Int32) (a2 : Int32) (a3 : Int32) (a4 : Int32) (a5 : Int32) (r : Int32 × Mm) (hF : g_X12_bestDay ν a1 a2 a3 a4 a5 = some r) : Met l yX12_bestDay (wsG yX12_bestDay cX12_bestDay 11 (some (FieldType.int))) { frames := 9, cells := 0, slots := 0, locals := 208 } (xP D cA s0 [.ref b, .int a1, .int a2, .int a3, .int a4, .int a5] (fun H => H.size = sz ∧ RX D cA s0 z b ν H)) (xQm (some (.int r.1)) (fun H => RX D cA s0 z b r.2 H) (xA b 8 sz)) 0 0 (xA b 8 sz) := by
  refine x_start (own := RX12) [(0, .ref b), (1, .int a1), (2, .int a2), (3, .int a3), (4, .int a4), (5, .int a5)] rfl rfl (by decide) (nb rfl) ?_
  intro p e s m args below meth c C hw
  obtain ⟨hsz, hw⟩ := hw
  subst hsz
  have hS : va_S (xA b 8 s.heap.size) s.heap s.heap [] := va_S.rf
  have h_L97 : ∀ (n : Nat) (μ0 : Mm) (x7 : Int32) (x8 : Int32) (x9 : Int32) (H : Heap) (locs : List Loc) (hw : RX D cA s0 z b μ0 H) (hS : va_S (xA b 8 s.heap.size) s.heap H locs), g_X12_bestDay_L97 ν a1 a2 a3 a4 a5 n μ0 x7 x8 x9 = some r → xW p l e { frames := 9, cells := 0, slots := 0, locals := 208 } s m args below meth c 11 (MQ below (xQm (some (.int r.1)) (fun H => RX D cA s0 z b r.2 H) (xA b 8 s.heap.size)) args s 0 0 (xA b 8 s.heap.size)) H locs 0 0 97 [(0, .ref b), (1, .int a1), (3, .int a3), (4, .int a4), (5, .int a5), (7, .int x7), (8, .int x8), (9, .int x9)] [] := by
    intro n
    induction n with
    | zero =>
      intro μ0 x7 x8 x9 H locs hw hS hF
      exact no_some hF
    | succ n ih =>
      intro μ0 x7 x8 x9 H locs hw hS hF
      have ih97 := ih
      refine x_iload C dX12_bestDay_97 rfl ?_
      refine x_iload_n C dX12_bestDay_99 rfl ?_
      refine x_icmp_gt 147 C dX12_bestDay_100 (by decide) (fun c14 => ?_) (fun c14 => ?_)
      · have hF := ite_t hF c14
        refine x_iload C dX12_bestDay_147 rfl ?_
        exact x_iretM2 C rfl dX12_bestDay_149  (rm_i hF) (rm_m (W := fun m => RX D cA s0 z b m _) hF hw) hS (nb rfl) (nb rfl)
      · have hF := ite_f hF c14
        refine x_aload_n C dX12_bestDay_103 rfl ?_
        refine x_iload_n C dX12_bestDay_104 rfl ?_
        refine x_iload C dX12_bestDay_105 rfl ?_
        refine x_iload C dX12_bestDay_107 rfl ?_
        refine x_iload C dX12_bestDay_109 rfl ?_
        obtain ⟨q15, hq16, hF⟩ := bnd_e hF
        refine x_goM (fun ls h => x_runV (As := [.int a1, .int x9, .int a4, .int a5]) [] h C ml_X12_407 (k_X12_totalWith l D cA s0 z b μ0 _ hG a1 x9 a4 a5 q15 hq16) ⟨rfl, rfl, nb rfl, nb rfl⟩ rfl (M_obj hw.2.2.2.2) rfl ⟨rfl, hw⟩ (nb rfl) ⟨Nat.zero_le _, Nat.zero_le _⟩ dX12_bestDay_111) hS (xA_le hS) (fun H locs hw hz hk hS => ?_)
        have hw : RX D cA s0 z b q15.2 H := hw
        refine x_istore [(10, .int q15.1), (0, .ref b), (1, .int a1), (3, .int a3), (4, .int a4), (5, .int a5), (7, .int x7), (8, .int x8), (9, .int x9)] C dX12_bestDay_114 (by decide) rfl ?_
        refine x_iload C dX12_bestDay_116 rfl ?_
        refine x_iload C dX12_bestDay_118 rfl ?_
        refine x_icmp_ge 128 C dX12_bestDay_120 (by decide) (fun c17 => ?_) (fun c17 => ?_)
        · have hF := ite_t hF c17
          refine x_iload C dX12_bestDay_128 rfl ?_
          refine x_istore [(7, .int x7), (10, .int q15.1), (0, .ref b), (1, .int a1), (3, .int a3), (4, .int a4), (5, .int a5), (8, .int x8), (9, .int x9)] C dX12_bestDay_130 (by decide) rfl ?_
          refine x_iload C dX12_bestDay_132 rfl ?_
          refine x_iload C dX12_bestDay_134 rfl ?_
          refine x_mmin C ml_X12_105 (nb rfl) (nb rfl) ⟨Nat.zero_le _, Nat.zero_le _⟩ dX12_bestDay_136 ?_
          refine x_istore [(8, .int (imin x8 q15.1)), (7, .int x7), (10, .int q15.1), (0, .ref b), (1, .int a1), (3, .int a3), (4, .int a4), (5, .int a5), (9, .int x9)] C dX12_bestDay_139 (by decide) rfl ?_
          refine x_iinc (x9 + (1 : Int32)) [(9, .int (x9 + (1 : Int32))), (8, .int (imin x8 q15.1)), (7, .int x7), (10, .int q15.1), (0, .ref b), (1, .int a1), (3, .int a3), (4, .int a4), (5, .int a5)] C dX12_bestDay_141 rfl rfl (by decide) rfl ?_
          refine x_goto 97 C dX12_bestDay_144 (by decide) ?_
          refine x_sub [(0, .ref b), (1, .int a1), (3, .int a3), (4, .int a4), (5, .int a5), (7, .int x7), (8, .int (imin x8 q15.1)), (9, .int (x9 + (1 : Int32)))] [4, 5, 6, 7, 8, 2, 1, 0] rfl ?_
          exact ih97 q15.2 x7 (imin x8 q15.1) (x9 + (1 : Int32)) _ _ hw hS hF
        · have hF := ite_f hF c17
          refine x_iload C dX12_bestDay_123 rfl ?_
          refine x_goto 130 C dX12_bestDay_125 (by decide) ?_
          refine x_istore [(7, .int x9), (10, .int q15.1), (0, .ref b), (1, .int a1), (3, .int a3), (4, .int a4), (5, .int a5), (8, .int x8), (9, .int x9)] C dX12_bestDay_130 (by decide) rfl ?_
          refine x_iload C dX12_bestDay_132 rfl ?_
          refine x_iload C dX12_bestDay_134 rfl ?_
          refine x_mmin C ml_X12_105 (nb rfl) (nb rfl) ⟨Nat.zero_le _, Nat.zero_le _⟩ dX12_bestDay_136 ?_
          refine x_istore [(8, .int (imin x8 q15.1)), (7, .int x9), (10, .int q15.1), (0, .ref b), (1, .int a1), (3, .int a3), (4, .int a4), (5, .int a5), (9, .int x9)] C dX12_bestDay_139 (by decide) rfl ?_
          refine x_iinc (x9 + (1 : Int32)) [(9, .int (x9 + (1 : Int32))), (8, .int (imin x8 q15.1)), (7, .int x9), (10, .int q15.1), (0, .ref b), (1, .int a1), (3, .int a3), (4, .int a4), (5, .int a5)] C dX12_bestDay_141 rfl rfl (by decide) rfl ?_
          refine x_goto 97 C dX12_bestDay_144 (by decide) ?_
          refine x_sub [(0, .ref b), (1, .int a1), (3, .int a3), (4, .int a4), (5, .int a5), (7, .int x9), (8, .int (imin x8 q15.1)), (9, .int (x9 + (1 : Int32)))] [4, 5, 6, 7, 8, 2, 1, 0] rfl ?_
          exact ih97 q15.2 x9 (imin x8 q15.1) (x9 + (1 : Int32)) _ _ hw hS hF
  have h_J59 : ∀ (μ0 : Mm) (y0 : Bool) (H : Heap) (locs : List Loc) (hw : RX D cA s0 z b μ0 H) (hS : va_S (xA b 8 s.heap.size) s.heap H locs), g_X12_bestDay_J59 ν a1 a2 a3 a4 a5 μ0 y0 = some r → xW p l e { frames := 9, cells := 0, slots := 0, locals := 208 } s m args below meth c 11 (MQ below (xQm (some (.int r.1)) (fun H => RX D cA s0 z b r.2 H) (xA b 8 s.heap.size)) args s 0 0 (xA b 8 s.heap.size)) H locs 0 0 59 [(0, .ref b), (1, .int a1), (2, .int a2), (3, .int a3), (4, .int a4), (5, .int a5)] [.int (bI y0)] := by
    intro μ0 y0 H locs hw hS hF
    refine x_istore [(6, .int (bI y0)), (0, .ref b), (1, .int a1), (2, .int a2), (3, .int a3), (4, .int a4), (5, .int a5)] C dX12_bestDay_59 (by decide) rfl ?_
    refine x_aload_n C dX12_bestDay_61 rfl ?_
    refine x_aload_n C dX12_bestDay_62 rfl ?_
    refine x_iload_n C dX12_bestDay_63 rfl ?_
    obtain ⟨q5, hq6, hF⟩ := bnd_e hF
    have hq6 := Option.some.inj hq6
    have K7 := c_X12_isShip l D cA s0 b μ0 a1 
    rw [hq6] at K7
    refine x_goR (fun ls h => x_runV (As := [.int a1]) [.ref b] h C ml_X12_282 K7 ⟨rfl, rfl, nb rfl, nb rfl⟩ rfl (M_obj hw.2.2.2.2) rfl hw.2.2.2.2 (nb rfl) ⟨Nat.zero_le _, Nat.zero_le _⟩ dX12_bestDay_64) ?_
    refine x_iload C dX12_bestDay_67 rfl ?_
    obtain ⟨q8, hq9, hF⟩ := bnd_e hF
    have hq9 := Option.some.inj hq9
    have K10 := c_X12_passes2 l D cA s0 b μ0 H.size q5 y0 
    rw [hq9] at K10
    have hwo := hw
    refine x_goM (fun ls h => x_runV (As := [.int (bI q5), .int (bI y0)]) [] h C ml_X12_263 K10 ⟨rfl, rfl, nb rfl, nb rfl⟩ rfl (M_obj hw.2.2.2.2) rfl ⟨rfl, hw.2.2.2.2⟩ (nb rfl) ⟨Nat.zero_le _, Nat.zero_le _⟩ dX12_bestDay_69) hS (xA_le hS) (fun H locs hw hz hk hS => ?_)
    have hw : RX D cA s0 z b q8.2 H := RX.of hwo hw hz hk
    refine x_ifB_ne 77 C dX12_bestDay_72 (by decide) (fun c11 => ?_) (fun c11 => ?_)
    · have hF := ite_t hF c11
      refine x_iload_n C dX12_bestDay_77 rfl ?_
      refine x_istore [(7, .int a2), (6, .int (bI y0)), (0, .ref b), (1, .int a1), (2, .int a2), (3, .int a3), (4, .int a4), (5, .int a5)] C dX12_bestDay_78 (by decide) rfl ?_
      refine x_aload_n C dX12_bestDay_80 rfl ?_
      refine x_iload_n C dX12_bestDay_81 rfl ?_
      refine x_iload_n C dX12_bestDay_82 rfl ?_
      refine x_iload C dX12_bestDay_83 rfl ?_
      refine x_iload C dX12_bestDay_85 rfl ?_
      obtain ⟨q12, hq13, hF⟩ := bnd_e hF
      refine x_goM (fun ls h => x_runV (As := [.int a1, .int a2, .int a4, .int a5]) [] h C ml_X12_407 (k_X12_totalWith l D cA s0 z b q8.2 _ hG a1 a2 a4 a5 q12 hq13) ⟨rfl, rfl, nb rfl, nb rfl⟩ rfl (M_obj hw.2.2.2.2) rfl ⟨rfl, hw⟩ (nb rfl) ⟨Nat.zero_le _, Nat.zero_le _⟩ dX12_bestDay_87) hS (xA_le hS) (fun H locs hw hz hk hS => ?_)
      have hw : RX D cA s0 z b q12.2 H := hw
      refine x_istore [(8, .int q12.1), (7, .int a2), (6, .int (bI y0)), (0, .ref b), (1, .int a1), (2, .int a2), (3, .int a3), (4, .int a4), (5, .int a5)] C dX12_bestDay_90 (by decide) rfl ?_
      refine x_iload_n C dX12_bestDay_92 rfl ?_
      refine x_iconst (1 : Int32) C dX12_bestDay_93 rfl ?_
      refine x_iadd C dX12_bestDay_94 ?_
      refine x_istore [(9, .int (a2 + (1 : Int32))), (8, .int q12.1), (7, .int a2), (6, .int (bI y0)), (0, .ref b), (1, .int a1), (2, .int a2), (3, .int a3), (4, .int a4), (5, .int a5)] C dX12_bestDay_95 (by decide) rfl ?_
      refine x_sub [(0, .ref b), (1, .int a1), (3, .int a3), (4, .int a4), (5, .int a5), (7, .int a2), (8, .int q12.1), (9, .int (a2 + (1 : Int32)))] [4, 5, 7, 8, 9, 2, 1, 0] rfl ?_
      exact h_L97 10000 q12.2 a2 q12.1 (a2 + (1 : Int32)) _ _ hw hS hF
    · have hF := ite_f hF (nbt c11)
      refine x_iconst (0 : Int32) C dX12_bestDay_75 rfl ?_
      exact x_iretM2 C rfl dX12_bestDay_76  (rm_i hF) (rm_m (W := fun m => RX D cA s0 z b m _) hF hw) hS (nb rfl) (nb rfl)
  have h_J58 : ∀ (μ0 : Mm) (H : Heap) (locs : List Loc) (hw : RX D cA s0 z b μ0 H) (hS : va_S (xA b 8 s.heap.size) s.heap H locs), g_X12_bestDay_J58 ν a1 a2 a3 a4 a5 μ0 = some r → xW p l e { frames := 9, cells := 0, slots := 0, locals := 208 } s m args below meth c 11 (MQ below (xQm (some (.int r.1)) (fun H => RX D cA s0 z b r.2 H) (xA b 8 s.heap.size)) args s 0 0 (xA b 8 s.heap.size)) H locs 0 0 58 [(0, .ref b), (1, .int a1), (2, .int a2), (3, .int a3), (4, .int a4), (5, .int a5)] [] := by
    intro μ0 H locs hw hS hF
    refine x_iconst (0 : Int32) C dX12_bestDay_58 rfl ?_
    exact h_J59 μ0 false _ _ hw hS hF
  refine x_iload_n C dX12_bestDay_0 rfl ?_
  refine x_i2l C dX12_bestDay_1 ?_
  refine x_lconst (0 : Int64) C dX12_bestDay_2 rfl ?_
  refine x_ldc2 (3599 : Int64) C cl_X12_393 dX12_bestDay_3 ?_
  obtain ⟨q1, hq2, hF⟩ := bnd_e hF
  have hq2 := Option.some.inj hq2
  have K3 := c_X12_in l D cA s0 a2.toInt64 (0 : Int64) (3599 : Int64) 
  rw [hq2] at K3
  refine x_goR (fun ls h => x_runS (As := [.long a2.toInt64, .long (0 : Int64), .long (3599 : Int64)]) [] h C ml_X12_47 K3 ⟨rfl, rfl, nb rfl, nb rfl⟩ rfl trivial (nb rfl) ⟨Nat.zero_le _, Nat.zero_le _⟩ dX12_bestDay_6) ?_
  refine x_ifB_eq 58 C dX12_bestDay_9 (by decide) (fun c4 => ?_) (fun c4 => ?_)
  · have hF := ite_f hF (nbt c4)
    exact h_J58 ν _ _ hw hS hF
  · have hF := ite_t hF c4
    refine x_iload_n C dX12_bestDay_12 rfl ?_
    refine x_i2l C dX12_bestDay_13 ?_
    refine x_iload_n C dX12_bestDay_14 rfl ?_
    refine x_i2l C dX12_bestDay_15 ?_
    refine x_sipush (3599 : Int32) C dX12_bestDay_16 rfl ?_
    refine x_iload_n C dX12_bestDay_19 rfl ?_
    refine x_bipush (99 : Int32) C dX12_bestDay_20 rfl ?_
    refine x_iadd C dX12_bestDay_22 ?_
    refine x_mmin C ml_X12_105 (nb rfl) (nb rfl) ⟨Nat.zero_le _, Nat.zero_le _⟩ dX12_bestDay_23 ?_
    refine x_i2l C dX12_bestDay_26 ?_
    obtain ⟨q18, hq19, hF⟩ := bnd_e hF
    have hq19 := Option.some.inj hq19
    have K20 := c_X12_in l D cA s0 a3.toInt64 a2.toInt64 ((imin (3599 : Int32) (a2 + (99 : Int32))).toInt64) 
    rw [hq19] at K20
    refine x_goR (fun ls h => x_runS (As := [.long a3.toInt64, .long a2.toInt64, .long ((imin (3599 : Int32) (a2 + (99 : Int32))).toInt64)]) [] h C ml_X12_47 K20 ⟨rfl, rfl, nb rfl, nb rfl⟩ rfl trivial (nb rfl) ⟨Nat.zero_le _, Nat.zero_le _⟩ dX12_bestDay_27) ?_
    refine x_ifB_eq 58 C dX12_bestDay_30 (by decide) (fun c21 => ?_) (fun c21 => ?_)
    · have hF := ite_f hF (nbt c21)
      exact h_J58 ν _ _ hw hS hF
    · have hF := ite_t hF c21
      refine x_iload C dX12_bestDay_33 rfl ?_
      refine x_i2l C dX12_bestDay_35 ?_
      refine x_lconst (1 : Int64) C dX12_bestDay_36 rfl ?_
      refine x_ldc2 (30 : Int64) C cl_X12_405 dX12_bestDay_37 ?_
      obtain ⟨q22, hq23, hF⟩ := bnd_e hF
      have hq23 := Option.some.inj hq23
      have K24 := c_X12_in l D cA s0 a4.toInt64 (1 : Int64) (30 : Int64) 
      rw [hq23] at K24
      refine x_goR (fun ls h => x_runS (As := [.long a4.toInt64, .long (1 : Int64), .long (30 : Int64)]) [] h C ml_X12_47 K24 ⟨rfl, rfl, nb rfl, nb rfl⟩ rfl trivial (nb rfl) ⟨Nat.zero_le _, Nat.zero_le _⟩ dX12_bestDay_40) ?_
      refine x_ifB_eq 58 C dX12_bestDay_43 (by decide) (fun c25 => ?_) (fun c25 => ?_)
      · have hF := ite_f hF (nbt c25)
        exact h_J58 ν _ _ hw hS hF
      · have hF := ite_t hF c25
        refine x_iload C dX12_bestDay_46 rfl ?_
        obtain ⟨q26, hq27, hF⟩ := bnd_e hF
        have hq27 := Option.some.inj hq27
        have K28 := c_X12_isWaste l D cA s0 a5 
        rw [hq27] at K28
        refine x_goR (fun ls h => x_runS (As := [.int a5]) [] h C ml_X12_276 K28 ⟨rfl, rfl, nb rfl, nb rfl⟩ rfl trivial (nb rfl) ⟨Nat.zero_le _, Nat.zero_le _⟩ dX12_bestDay_48) ?_
        refine x_ifB_eq 58 C dX12_bestDay_51 (by decide) (fun c29 => ?_) (fun c29 => ?_)
        · have hF := ite_f hF (nbt c29)
          exact h_J58 ν _ _ hw hS hF
        · have hF := ite_t hF c29
          refine x_iconst (1 : Int32) C dX12_bestDay_54 rfl ?_
          refine x_goto 59 C dX12_bestDay_55 (by decide) ?_
          exact h_J59 ν true _ _ hw hS hF
