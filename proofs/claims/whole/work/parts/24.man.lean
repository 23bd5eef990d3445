/-! Texts that are answered. -/
theorem x_aretS {p : Program} {l : Launch} {e : Env} {R : Room} {s : State} {m : MethodId} {args : Array Value} {below : List Frame} {meth : Method} {c : Code} {nL : Nat} {pc : Nat} {lv : List (Nat × Value)} {D : va_G} {cA : Nat → ClassId} {s0 : State} {own : String} {cc : ByteArray} {rt : Option FieldType} {z k v : Nat} {n : String} (C : xC D cA s0 own cc nL rt p s m args meth c) (hr : rt = some (.object n)) (hd : decode cc pc = .ok (.areturn, 1)) (hst : Str D cA s0 z v k s.heap) : xW p l e R s m args below meth c nL (MQ below (xQrS D cA s0 z k) args s 0 0 xN) s.heap [] 0 0 pc lv [.ref v] := fun ls hl => W.aret C.1 C.2.1 (C.2.2.1.trans hr) (Or.inl ⟨_, rfl⟩) (Or.inr ⟨_, rfl⟩) (fun t ht hW => ⟨v, rfl, hst, ht⟩) (fun q h => by cases h) hd C.2.2.2.2.2.2.1
def g_X8_lineWord (_ : Mm) (a1 : Int32) : Option Nat := if a1 = 0 then some 139374982500 else if a1 = 1 then some 9118749779191154 else if a1 = 2 then some 35620117504375 else some 544825708
set_option maxRecDepth 20000 in
set_option maxHeartbeats 4000000 in
theorem k_X8_lineWord (l : Launch) (D : va_G) (cA : Nat → ClassId) (s0 : State) (z : Nat) (b : Nat) (ν : Mm) (hG : xG l D cA s0) (a1 : Int32) (r : Nat) (hF : g_X8_lineWord ν a1 = some r) : Met l yX8_lineWord (wsG yX8_lineWord cX8_lineWord 1 (some (.object "java/lang/String"))) { frames := 0, cells := 0, slots := 0, locals := 0 } (xP D cA s0 [.int a1] (WC D cA s0 z b ν)) (xQrS D cA s0 z r) 0 0 xN := by
  refine x_start (own := RX8) [(0, .int a1)] rfl rfl (by decide) (nb rfl) ?_
  intro p e s m args below meth c C hw
  unfold g_X8_lineWord at hF
  refine x_iload_n C dX8_lineWord_0 rfl ?_
  by_cases c0 : a1 = 0
  · have hF := ite_t hF c0
    cases hF
    refine x_tabIn 0 28 C dX8_lineWord_1 (by rw [c0]; rfl) (by decide) (by decide) rfl (by decide) ?_
    refine x_ldcS (z := z) 139374982500 C hG.2.2.2 xl_X8_136 hw.2.2.2.1 dX8_lineWord_28 (fun ra hst => ?_)
    exact x_aretS C rfl dX8_lineWord_30 hst
  · have hF := ite_f hF c0
    by_cases c1 : a1 = 1
    · have hF := ite_t hF c1
      cases hF
      refine x_tabIn 1 31 C dX8_lineWord_1 (by rw [c1]; rfl) (by decide) (by decide) rfl (by decide) ?_
      refine x_ldcS (z := z) 9118749779191154 C hG.2.2.2 xl_X8_138 hw.2.2.2.1 dX8_lineWord_31 (fun ra hst => ?_)
      exact x_aretS C rfl dX8_lineWord_33 hst
    · have hF := ite_f hF c1
      by_cases c2 : a1 = 2
      · have hF := ite_t hF c2
        cases hF
        refine x_tabIn 2 34 C dX8_lineWord_1 (by rw [c2]; rfl) (by decide) (by decide) rfl (by decide) ?_
        refine x_ldcS (z := z) 35620117504375 C hG.2.2.2 xl_X8_140 hw.2.2.2.1 dX8_lineWord_34 (fun ra hst => ?_)
        exact x_aretS C rfl dX8_lineWord_36 hst
      · have hF := ite_f hF c2
        cases hF
        have t0 : a1.toInt ≠ 0 := fun zz => c0 ((fa_eqI _ _).mpr zz)
        have t1 : a1.toInt ≠ 1 := fun zz => c1 ((fa_eqI _ _).mpr zz)
        have t2 : a1.toInt ≠ 2 := fun zz => c2 ((fa_eqI _ _).mpr zz)
        refine x_tabOut 37 C dX8_lineWord_1 (by omega) (by decide) ?_
        refine x_ldcS (z := z) 544825708 C hG.2.2.2 xl_X8_142 hw.2.2.2.1 dX8_lineWord_37 (fun ra hst => ?_)
        exact x_aretS C rfl dX8_lineWord_39 hst
def g_X12_nameOf (_ : Mm) (a1 : Int32) : Option Nat := if a1 = 0 then some 139374982500 else if a1 = 1 then some 9118749779191154 else if a1 = 2 then some 35620117504375 else some 544825708
set_option maxRecDepth 20000 in
set_option maxHeartbeats 4000000 in
theorem k_X12_nameOf (l : Launch) (D : va_G) (cA : Nat → ClassId) (s0 : State) (z : Nat) (b : Nat) (ν : Mm) (hG : xG l D cA s0) (a1 : Int32) (r : Nat) (hF : g_X12_nameOf ν a1 = some r) : Met l yX12_nameOf (wsG yX12_nameOf cX12_nameOf 1 (some (.object "java/lang/String"))) { frames := 0, cells := 0, slots := 0, locals := 0 } (xP D cA s0 [.int a1] (RX D cA s0 z b ν)) (xQrS D cA s0 z r) 0 0 xN := by
  refine x_start (own := RX12) [(0, .int a1)] rfl rfl (by decide) (nb rfl) ?_
  intro p e s m args below meth c C hw
  unfold g_X12_nameOf at hF
  refine x_iload_n C dX12_nameOf_0 rfl ?_
  by_cases c0 : a1 = 0
  · have hF := ite_t hF c0
    cases hF
    refine x_tabIn 0 28 C dX12_nameOf_1 (by rw [c0]; rfl) (by decide) (by decide) rfl (by decide) ?_
    refine x_ldcSw (z := z) 139374982500 C hG.2.2.2 xl_X12_466 hw.2.2.2.1 dX12_nameOf_28 (fun ra hst => ?_)
    exact x_aretS C rfl dX12_nameOf_31 hst
  · have hF := ite_f hF c0
    by_cases c1 : a1 = 1
    · have hF := ite_t hF c1
      cases hF
      refine x_tabIn 1 32 C dX12_nameOf_1 (by rw [c1]; rfl) (by decide) (by decide) rfl (by decide) ?_
      refine x_ldcSw (z := z) 9118749779191154 C hG.2.2.2 xl_X12_468 hw.2.2.2.1 dX12_nameOf_32 (fun ra hst => ?_)
      exact x_aretS C rfl dX12_nameOf_35 hst
    · have hF := ite_f hF c1
      by_cases c2 : a1 = 2
      · have hF := ite_t hF c2
        cases hF
        refine x_tabIn 2 36 C dX12_nameOf_1 (by rw [c2]; rfl) (by decide) (by decide) rfl (by decide) ?_
        refine x_ldcSw (z := z) 35620117504375 C hG.2.2.2 xl_X12_470 hw.2.2.2.1 dX12_nameOf_36 (fun ra hst => ?_)
        exact x_aretS C rfl dX12_nameOf_39 hst
      · have hF := ite_f hF c2
        cases hF
        have t0 : a1.toInt ≠ 0 := fun zz => c0 ((fa_eqI _ _).mpr zz)
        have t1 : a1.toInt ≠ 1 := fun zz => c1 ((fa_eqI _ _).mpr zz)
        have t2 : a1.toInt ≠ 2 := fun zz => c2 ((fa_eqI _ _).mpr zz)
        refine x_tabOut 40 C dX12_nameOf_1 (by omega) (by decide) ?_
        refine x_ldcSw (z := z) 544825708 C hG.2.2.2 xl_X12_472 hw.2.2.2.1 dX12_nameOf_40 (fun ra hst => ?_)
        exact x_aretS C rfl dX12_nameOf_43 hst
