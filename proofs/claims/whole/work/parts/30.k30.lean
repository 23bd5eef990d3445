theorem dJ6_bitCount_0f7a4_0 : decode cJ6_bitCount_0f7a4 0 = .ok (.iload_n 0, 1) := by decide +kernel
theorem dJ6_bitCount_0f7a4_1 : decode cJ6_bitCount_0f7a4 1 = .ok (.iload_n 0, 1) := by decide +kernel
theorem dJ6_bitCount_0f7a4_2 : decode cJ6_bitCount_0f7a4 2 = .ok (.iconst 1, 1) := by decide +kernel
theorem dJ6_bitCount_0f7a4_3 : decode cJ6_bitCount_0f7a4 3 = .ok (.iushr, 1) := by decide +kernel
theorem dJ6_bitCount_0f7a4_4 : decode cJ6_bitCount_0f7a4 4 = .ok (.ldc_w 265, 3) := by decide +kernel
theorem dJ6_bitCount_0f7a4_7 : decode cJ6_bitCount_0f7a4 7 = .ok (.iand, 1) := by decide +kernel
theorem dJ6_bitCount_0f7a4_8 : decode cJ6_bitCount_0f7a4 8 = .ok (.isub, 1) := by decide +kernel
theorem dJ6_bitCount_0f7a4_9 : decode cJ6_bitCount_0f7a4 9 = .ok (.istore_n 0, 1) := by decide +kernel
theorem dJ6_bitCount_0f7a4_10 : decode cJ6_bitCount_0f7a4 10 = .ok (.iload_n 0, 1) := by decide +kernel
theorem dJ6_bitCount_0f7a4_11 : decode cJ6_bitCount_0f7a4 11 = .ok (.ldc_w 266, 3) := by decide +kernel
theorem dJ6_bitCount_0f7a4_14 : decode cJ6_bitCount_0f7a4 14 = .ok (.iand, 1) := by decide +kernel
theorem dJ6_bitCount_0f7a4_15 : decode cJ6_bitCount_0f7a4 15 = .ok (.iload_n 0, 1) := by decide +kernel
theorem dJ6_bitCount_0f7a4_16 : decode cJ6_bitCount_0f7a4 16 = .ok (.iconst 2, 1) := by decide +kernel
theorem dJ6_bitCount_0f7a4_17 : decode cJ6_bitCount_0f7a4 17 = .ok (.iushr, 1) := by decide +kernel
theorem dJ6_bitCount_0f7a4_18 : decode cJ6_bitCount_0f7a4 18 = .ok (.ldc_w 266, 3) := by decide +kernel
theorem dJ6_bitCount_0f7a4_21 : decode cJ6_bitCount_0f7a4 21 = .ok (.iand, 1) := by decide +kernel
theorem dJ6_bitCount_0f7a4_22 : decode cJ6_bitCount_0f7a4 22 = .ok (.iadd, 1) := by decide +kernel
theorem dJ6_bitCount_0f7a4_23 : decode cJ6_bitCount_0f7a4 23 = .ok (.istore_n 0, 1) := by decide +kernel
theorem dJ6_bitCount_0f7a4_24 : decode cJ6_bitCount_0f7a4 24 = .ok (.iload_n 0, 1) := by decide +kernel
theorem dJ6_bitCount_0f7a4_25 : decode cJ6_bitCount_0f7a4 25 = .ok (.iload_n 0, 1) := by decide +kernel
theorem dJ6_bitCount_0f7a4_26 : decode cJ6_bitCount_0f7a4 26 = .ok (.iconst 4, 1) := by decide +kernel
theorem dJ6_bitCount_0f7a4_27 : decode cJ6_bitCount_0f7a4 27 = .ok (.iushr, 1) := by decide +kernel
theorem dJ6_bitCount_0f7a4_28 : decode cJ6_bitCount_0f7a4 28 = .ok (.iadd, 1) := by decide +kernel
theorem dJ6_bitCount_0f7a4_29 : decode cJ6_bitCount_0f7a4 29 = .ok (.ldc_w 267, 3) := by decide +kernel
theorem dJ6_bitCount_0f7a4_32 : decode cJ6_bitCount_0f7a4 32 = .ok (.iand, 1) := by decide +kernel
theorem dJ6_bitCount_0f7a4_33 : decode cJ6_bitCount_0f7a4 33 = .ok (.istore_n 0, 1) := by decide +kernel
theorem dJ6_bitCount_0f7a4_34 : decode cJ6_bitCount_0f7a4 34 = .ok (.iload_n 0, 1) := by decide +kernel
theorem dJ6_bitCount_0f7a4_35 : decode cJ6_bitCount_0f7a4 35 = .ok (.iload_n 0, 1) := by decide +kernel
theorem dJ6_bitCount_0f7a4_36 : decode cJ6_bitCount_0f7a4 36 = .ok (.bipush 8, 2) := by decide +kernel
theorem dJ6_bitCount_0f7a4_38 : decode cJ6_bitCount_0f7a4 38 = .ok (.iushr, 1) := by decide +kernel
theorem dJ6_bitCount_0f7a4_39 : decode cJ6_bitCount_0f7a4 39 = .ok (.iadd, 1) := by decide +kernel
theorem dJ6_bitCount_0f7a4_40 : decode cJ6_bitCount_0f7a4 40 = .ok (.istore_n 0, 1) := by decide +kernel
theorem dJ6_bitCount_0f7a4_41 : decode cJ6_bitCount_0f7a4 41 = .ok (.iload_n 0, 1) := by decide +kernel
theorem dJ6_bitCount_0f7a4_42 : decode cJ6_bitCount_0f7a4 42 = .ok (.iload_n 0, 1) := by decide +kernel
theorem dJ6_bitCount_0f7a4_43 : decode cJ6_bitCount_0f7a4 43 = .ok (.bipush 16, 2) := by decide +kernel
theorem dJ6_bitCount_0f7a4_45 : decode cJ6_bitCount_0f7a4 45 = .ok (.iushr, 1) := by decide +kernel
theorem dJ6_bitCount_0f7a4_46 : decode cJ6_bitCount_0f7a4 46 = .ok (.iadd, 1) := by decide +kernel
theorem dJ6_bitCount_0f7a4_47 : decode cJ6_bitCount_0f7a4 47 = .ok (.istore_n 0, 1) := by decide +kernel
theorem dJ6_bitCount_0f7a4_48 : decode cJ6_bitCount_0f7a4 48 = .ok (.iload_n 0, 1) := by decide +kernel
theorem dJ6_bitCount_0f7a4_49 : decode cJ6_bitCount_0f7a4 49 = .ok (.bipush 63, 2) := by decide +kernel
theorem dJ6_bitCount_0f7a4_51 : decode cJ6_bitCount_0f7a4 51 = .ok (.iand, 1) := by decide +kernel
theorem dJ6_bitCount_0f7a4_52 : decode cJ6_bitCount_0f7a4 52 = .ok (.ireturn, 1) := by decide +kernel
noncomputable def g_J6_bitCount_0f7a4 (a1 : Int32) : Option (Int32) := some ((((((((a1 - (((a1.toUInt32 >>> ((1 : Int32).toUInt32 &&& Int32.toUInt32 31)).toInt32) &&& (1431655765 : Int32))) &&& (858993459 : Int32)) + ((((a1 - (((a1.toUInt32 >>> ((1 : Int32).toUInt32 &&& Int32.toUInt32 31)).toInt32) &&& (1431655765 : Int32))).toUInt32 >>> ((2 : Int32).toUInt32 &&& Int32.toUInt32 31)).toInt32) &&& (858993459 : Int32))) + (((((a1 - (((a1.toUInt32 >>> ((1 : Int32).toUInt32 &&& Int32.toUInt32 31)).toInt32) &&& (1431655765 : Int32))) &&& (858993459 : Int32)) + ((((a1 - (((a1.toUInt32 >>> ((1 : Int32).toUInt32 &&& Int32.toUInt32 31)).toInt32) &&& (1431655765 : Int32))).toUInt32 >>> ((2 : Int32).toUInt32 &&& Int32.toUInt32 31)).toInt32) &&& (858993459 : Int32))).toUInt32 >>> ((4 : Int32).toUInt32 &&& Int32.toUInt32 31)).toInt32)) &&& (252645135 : Int32)) + (((((((a1 - (((a1.toUInt32 >>> ((1 : Int32).toUInt32 &&& Int32.toUInt32 31)).toInt32) &&& (1431655765 : Int32))) &&& (858993459 : Int32)) + ((((a1 - (((a1.toUInt32 >>> ((1 : Int32).toUInt32 &&& Int32.toUInt32 31)).toInt32) &&& (1431655765 : Int32))).toUInt32 >>> ((2 : Int32).toUInt32 &&& Int32.toUInt32 31)).toInt32) &&& (858993459 : Int32))) + (((((a1 - (((a1.toUInt32 >>> ((1 : Int32).toUInt32 &&& Int32.toUInt32 31)).toInt32) &&& (1431655765 : Int32))) &&& (858993459 : Int32)) + ((((a1 - (((a1.toUInt32 >>> ((1 : Int32).toUInt32 &&& Int32.toUInt32 31)).toInt32) &&& (1431655765 : Int32))).toUInt32 >>> ((2 : Int32).toUInt32 &&& Int32.toUInt32 31)).toInt32) &&& (858993459 : Int32))).toUInt32 >>> ((4 : Int32).toUInt32 &&& Int32.toUInt32 31)).toInt32)) &&& (252645135 : Int32)).toUInt32 >>> ((8 : Int32).toUInt32 &&& Int32.toUInt32 31)).toInt32)) + ((((((((a1 - (((a1.toUInt32 >>> ((1 : Int32).toUInt32 &&& Int32.toUInt32 31)).toInt32) &&& (1431655765 : Int32))) &&& (858993459 : Int32)) + ((((a1 - (((a1.toUInt32 >>> ((1 : Int32).toUInt32 &&& Int32.toUInt32 31)).toInt32) &&& (1431655765 : Int32))).toUInt32 >>> ((2 : Int32).toUInt32 &&& Int32.toUInt32 31)).toInt32) &&& (858993459 : Int32))) + (((((a1 - (((a1.toUInt32 >>> ((1 : Int32).toUInt32 &&& Int32.toUInt32 31)).toInt32) &&& (1431655765 : Int32))) &&& (858993459 : Int32)) + ((((a1 - (((a1.toUInt32 >>> ((1 : Int32).toUInt32 &&& Int32.toUInt32 31)).toInt32) &&& (1431655765 : Int32))).toUInt32 >>> ((2 : Int32).toUInt32 &&& Int32.toUInt32 31)).toInt32) &&& (858993459 : Int32))).toUInt32 >>> ((4 : Int32).toUInt32 &&& Int32.toUInt32 31)).toInt32)) &&& (252645135 : Int32)) + (((((((a1 - (((a1.toUInt32 >>> ((1 : Int32).toUInt32 &&& Int32.toUInt32 31)).toInt32) &&& (1431655765 : Int32))) &&& (858993459 : Int32)) + ((((a1 - (((a1.toUInt32 >>> ((1 : Int32).toUInt32 &&& Int32.toUInt32 31)).toInt32) &&& (1431655765 : Int32))).toUInt32 >>> ((2 : Int32).toUInt32 &&& Int32.toUInt32 31)).toInt32) &&& (858993459 : Int32))) + (((((a1 - (((a1.toUInt32 >>> ((1 : Int32).toUInt32 &&& Int32.toUInt32 31)).toInt32) &&& (1431655765 : Int32))) &&& (858993459 : Int32)) + ((((a1 - (((a1.toUInt32 >>> ((1 : Int32).toUInt32 &&& Int32.toUInt32 31)).toInt32) &&& (1431655765 : Int32))).toUInt32 >>> ((2 : Int32).toUInt32 &&& Int32.toUInt32 31)).toInt32) &&& (858993459 : Int32))).toUInt32 >>> ((4 : Int32).toUInt32 &&& Int32.toUInt32 31)).toInt32)) &&& (252645135 : Int32)).toUInt32 >>> ((8 : Int32).toUInt32 &&& Int32.toUInt32 31)).toInt32)).toUInt32 >>> ((16 : Int32).toUInt32 &&& Int32.toUInt32 31)).toInt32)) &&& (63 : Int32))
set_option maxRecDepth 20000 in
set_option maxHeartbeats 4000000 in
theorem k_J6_bitCount_0f7a4 (l : Launch) (D : va_G) (cA : Nat → ClassId) (s0 : State) (z : Nat) (hG : xG l D cA s0) (a1 : Int32) (r : Int32) (hF : g_J6_bitCount_0f7a4 a1 = some r) : Met l yJ6_bitCount_0f7a4 (wsG yJ6_bitCount_0f7a4 cJ6_bitCount_0f7a4 1 (some (FieldType.int))) { frames := 0, cells := 0, slots := 0, locals := 0 } (xP D cA s0 [.int a1] (fun _ => True)) (xQr (some (.int r))) 0 0 xN := by
  refine x_start (own := RJ6) [(0, .int a1)] rfl rfl (by decide) (nb rfl) ?_
  intro p e s m args below meth c C hw
  refine x_iload_n C dJ6_bitCount_0f7a4_0 rfl ?_
  refine x_iload_n C dJ6_bitCount_0f7a4_1 rfl ?_
  refine x_iconst (1 : Int32) C dJ6_bitCount_0f7a4_2 rfl ?_
  refine x_iushr C dJ6_bitCount_0f7a4_3 ?_
  refine x_ldcw (1431655765 : Int32) C co_J6_265 dJ6_bitCount_0f7a4_4 ?_
  refine x_iand C dJ6_bitCount_0f7a4_7 ?_
  refine x_isub C dJ6_bitCount_0f7a4_8 ?_
  refine x_istore_n [(0, .int (a1 - (((a1.toUInt32 >>> ((1 : Int32).toUInt32 &&& Int32.toUInt32 31)).toInt32) &&& (1431655765 : Int32))))] C dJ6_bitCount_0f7a4_9 rfl (by decide) rfl ?_
  refine x_iload_n C dJ6_bitCount_0f7a4_10 rfl ?_
  refine x_ldcw (858993459 : Int32) C co_J6_266 dJ6_bitCount_0f7a4_11 ?_
  refine x_iand C dJ6_bitCount_0f7a4_14 ?_
  refine x_iload_n C dJ6_bitCount_0f7a4_15 rfl ?_
  refine x_iconst (2 : Int32) C dJ6_bitCount_0f7a4_16 rfl ?_
  refine x_iushr C dJ6_bitCount_0f7a4_17 ?_
  refine x_ldcw (858993459 : Int32) C co_J6_266 dJ6_bitCount_0f7a4_18 ?_
  refine x_iand C dJ6_bitCount_0f7a4_21 ?_
  refine x_iadd C dJ6_bitCount_0f7a4_22 ?_
  refine x_istore_n [(0, .int (((a1 - (((a1.toUInt32 >>> ((1 : Int32).toUInt32 &&& Int32.toUInt32 31)).toInt32) &&& (1431655765 : Int32))) &&& (858993459 : Int32)) + ((((a1 - (((a1.toUInt32 >>> ((1 : Int32).toUInt32 &&& Int32.toUInt32 31)).toInt32) &&& (1431655765 : Int32))).toUInt32 >>> ((2 : Int32).toUInt32 &&& Int32.toUInt32 31)).toInt32) &&& (858993459 : Int32))))] C dJ6_bitCount_0f7a4_23 rfl (by decide) rfl ?_
  refine x_iload_n C dJ6_bitCount_0f7a4_24 rfl ?_
  refine x_iload_n C dJ6_bitCount_0f7a4_25 rfl ?_
  refine x_iconst (4 : Int32) C dJ6_bitCount_0f7a4_26 rfl ?_
  refine x_iushr C dJ6_bitCount_0f7a4_27 ?_
  refine x_iadd C dJ6_bitCount_0f7a4_28 ?_
  refine x_ldcw (252645135 : Int32) C co_J6_267 dJ6_bitCount_0f7a4_29 ?_
  refine x_iand C dJ6_bitCount_0f7a4_32 ?_
  refine x_istore_n [(0, .int (((((a1 - (((a1.toUInt32 >>> ((1 : Int32).toUInt32 &&& Int32.toUInt32 31)).toInt32) &&& (1431655765 : Int32))) &&& (858993459 : Int32)) + ((((a1 - (((a1.toUInt32 >>> ((1 : Int32).toUInt32 &&& Int32.toUInt32 31)).toInt32) &&& (1431655765 : Int32))).toUInt32 >>> ((2 : Int32).toUInt32 &&& Int32.toUInt32 31)).toInt32) &&& (858993459 : Int32))) + (((((a1 - (((a1.toUInt32 >>> ((1 : Int32).toUInt32 &&& Int32.toUInt32 31)).toInt32) &&& (1431655765 : Int32))) &&& (858993459 : Int32)) + ((((a1 - (((a1.toUInt32 >>> ((1 : Int32).toUInt32 &&& Int32.toUInt32 31)).toInt32) &&& (1431655765 : Int32))).toUInt32 >>> ((2 : Int32).toUInt32 &&& Int32.toUInt32 31)).toInt32) &&& (858993459 : Int32))).toUInt32 >>> ((4 : Int32).toUInt32 &&& Int32.toUInt32 31)).toInt32)) &&& (252645135 : Int32)))] C dJ6_bitCount_0f7a4_33 rfl (by decide) rfl ?_
  refine x_iload_n C dJ6_bitCount_0f7a4_34 rfl ?_
  refine x_iload_n C dJ6_bitCount_0f7a4_35 rfl ?_
  refine x_bipush (8 : Int32) C dJ6_bitCount_0f7a4_36 rfl ?_
  refine x_iushr C dJ6_bitCount_0f7a4_38 ?_
  refine x_iadd C dJ6_bitCount_0f7a4_39 ?_
  refine x_istore_n [(0, .int ((((((a1 - (((a1.toUInt32 >>> ((1 : Int32).toUInt32 &&& Int32.toUInt32 31)).toInt32) &&& (1431655765 : Int32))) &&& (858993459 : Int32)) + ((((a1 - (((a1.toUInt32 >>> ((1 : Int32).toUInt32 &&& Int32.toUInt32 31)).toInt32) &&& (1431655765 : Int32))).toUInt32 >>> ((2 : Int32).toUInt32 &&& Int32.toUInt32 31)).toInt32) &&& (858993459 : Int32))) + (((((a1 - (((a1.toUInt32 >>> ((1 : Int32).toUInt32 &&& Int32.toUInt32 31)).toInt32) &&& (1431655765 : Int32))) &&& (858993459 : Int32)) + ((((a1 - (((a1.toUInt32 >>> ((1 : Int32).toUInt32 &&& Int32.toUInt32 31)).toInt32) &&& (1431655765 : Int32))).toUInt32 >>> ((2 : Int32).toUInt32 &&& Int32.toUInt32 31)).toInt32) &&& (858993459 : Int32))).toUInt32 >>> ((4 : Int32).toUInt32 &&& Int32.toUInt32 31)).toInt32)) &&& (252645135 : Int32)) + (((((((a1 - (((a1.toUInt32 >>> ((1 : Int32).toUInt32 &&& Int32.toUInt32 31)).toInt32) &&& (1431655765 : Int32))) &&& (858993459 : Int32)) + ((((a1 - (((a1.toUInt32 >>> ((1 : Int32).toUInt32 &&& Int32.toUInt32 31)).toInt32) &&& (1431655765 : Int32))).toUInt32 >>> ((2 : Int32).toUInt32 &&& Int32.toUInt32 31)).toInt32) &&& (858993459 : Int32))) + (((((a1 - (((a1.toUInt32 >>> ((1 : Int32).toUInt32 &&& Int32.toUInt32 31)).toInt32) &&& (1431655765 : Int32))) &&& (858993459 : Int32)) + ((((a1 - (((a1.toUInt32 >>> ((1 : Int32).toUInt32 &&& Int32.toUInt32 31)).toInt32) &&& (1431655765 : Int32))).toUInt32 >>> ((2 : Int32).toUInt32 &&& Int32.toUInt32 31)).toInt32) &&& (858993459 : Int32))).toUInt32 >>> ((4 : Int32).toUInt32 &&& Int32.toUInt32 31)).toInt32)) &&& (252645135 : Int32)).toUInt32 >>> ((8 : Int32).toUInt32 &&& Int32.toUInt32 31)).toInt32)))] C dJ6_bitCount_0f7a4_40 rfl (by decide) rfl ?_
  refine x_iload_n C dJ6_bitCount_0f7a4_41 rfl ?_
  refine x_iload_n C dJ6_bitCount_0f7a4_42 rfl ?_
  refine x_bipush (16 : Int32) C dJ6_bitCount_0f7a4_43 rfl ?_
  refine x_iushr C dJ6_bitCount_0f7a4_45 ?_
  refine x_iadd C dJ6_bitCount_0f7a4_46 ?_
  refine x_istore_n [(0, .int (((((((a1 - (((a1.toUInt32 >>> ((1 : Int32).toUInt32 &&& Int32.toUInt32 31)).toInt32) &&& (1431655765 : Int32))) &&& (858993459 : Int32)) + ((((a1 - (((a1.toUInt32 >>> ((1 : Int32).toUInt32 &&& Int32.toUInt32 31)).toInt32) &&& (1431655765 : Int32))).toUInt32 >>> ((2 : Int32).toUInt32 &&& Int32.toUInt32 31)).toInt32) &&& (858993459 : Int32))) + (((((a1 - (((a1.toUInt32 >>> ((1 : Int32).toUInt32 &&& Int32.toUInt32 31)).toInt32) &&& (1431655765 : Int32))) &&& (858993459 : Int32)) + ((((a1 - (((a1.toUInt32 >>> ((1 : Int32).toUInt32 &&& Int32.toUInt32 31)).toInt32) &&& (1431655765 : Int32))).toUInt32 >>> ((2 : Int32).toUInt32 &&& Int32.toUInt32 31)).toInt32) &&& (858993459 : Int32))).toUInt32 >>> ((4 : Int32).toUInt32 &&& Int32.toUInt32 31)).toInt32)) &&& (252645135 : Int32)) + (((((((a1 - (((a1.toUInt32 >>> ((1 : Int32).toUInt32 &&& Int32.toUInt32 31)).toInt32) &&& (1431655765 : Int32))) &&& (858993459 : Int32)) + ((((a1 - (((a1.toUInt32 >>> ((1 : Int32).toUInt32 &&& Int32.toUInt32 31)).toInt32) &&& (1431655765 : Int32))).toUInt32 >>> ((2 : Int32).toUInt32 &&& Int32.toUInt32 31)).toInt32) &&& (858993459 : Int32))) + (((((a1 - (((a1.toUInt32 >>> ((1 : Int32).toUInt32 &&& Int32.toUInt32 31)).toInt32) &&& (1431655765 : Int32))) &&& (858993459 : Int32)) + ((((a1 - (((a1.toUInt32 >>> ((1 : Int32).toUInt32 &&& Int32.toUInt32 31)).toInt32) &&& (1431655765 : Int32))).toUInt32 >>> ((2 : Int32).toUInt32 &&& Int32.toUInt32 31)).toInt32) &&& (858993459 : Int32))).toUInt32 >>> ((4 : Int32).toUInt32 &&& Int32.toUInt32 31)).toInt32)) &&& (252645135 : Int32)).toUInt32 >>> ((8 : Int32).toUInt32 &&& Int32.toUInt32 31)).toInt32)) + ((((((((a1 - (((a1.toUInt32 >>> ((1 : Int32).toUInt32 &&& Int32.toUInt32 31)).toInt32) &&& (1431655765 : Int32))) &&& (858993459 : Int32)) + ((((a1 - (((a1.toUInt32 >>> ((1 : Int32).toUInt32 &&& Int32.toUInt32 31)).toInt32) &&& (1431655765 : Int32))).toUInt32 >>> ((2 : Int32).toUInt32 &&& Int32.toUInt32 31)).toInt32) &&& (858993459 : Int32))) + (((((a1 - (((a1.toUInt32 >>> ((1 : Int32).toUInt32 &&& Int32.toUInt32 31)).toInt32) &&& (1431655765 : Int32))) &&& (858993459 : Int32)) + ((((a1 - (((a1.toUInt32 >>> ((1 : Int32).toUInt32 &&& Int32.toUInt32 31)).toInt32) &&& (1431655765 : Int32))).toUInt32 >>> ((2 : Int32).toUInt32 &&& Int32.toUInt32 31)).toInt32) &&& (858993459 : Int32))).toUInt32 >>> ((4 : Int32).toUInt32 &&& Int32.toUInt32 31)).toInt32)) &&& (252645135 : Int32)) + (((((((a1 - (((a1.toUInt32 >>> ((1 : Int32).toUInt32 &&& Int32.toUInt32 31)).toInt32) &&& (1431655765 : Int32))) &&& (858993459 : Int32)) + ((((a1 - (((a1.toUInt32 >>> ((1 : Int32).toUInt32 &&& Int32.toUInt32 31)).toInt32) &&& (1431655765 : Int32))).toUInt32 >>> ((2 : Int32).toUInt32 &&& Int32.toUInt32 31)).toInt32) &&& (858993459 : Int32))) + (((((a1 - (((a1.toUInt32 >>> ((1 : Int32).toUInt32 &&& Int32.toUInt32 31)).toInt32) &&& (1431655765 : Int32))) &&& (858993459 : Int32)) + ((((a1 - (((a1.toUInt32 >>> ((1 : Int32).toUInt32 &&& Int32.toUInt32 31)).toInt32) &&& (1431655765 : Int32))).toUInt32 >>> ((2 : Int32).toUInt32 &&& Int32.toUInt32 31)).toInt32) &&& (858993459 : Int32))).toUInt32 >>> ((4 : Int32).toUInt32 &&& Int32.toUInt32 31)).toInt32)) &&& (252645135 : Int32)).toUInt32 >>> ((8 : Int32).toUInt32 &&& Int32.toUInt32 31)).toInt32)).toUInt32 >>> ((16 : Int32).toUInt32 &&& Int32.toUInt32 31)).toInt32)))] C dJ6_bitCount_0f7a4_47 rfl (by decide) rfl ?_
  refine x_iload_n C dJ6_bitCount_0f7a4_48 rfl ?_
  refine x_bipush (63 : Int32) C dJ6_bitCount_0f7a4_49 rfl ?_
  refine x_iand C dJ6_bitCount_0f7a4_51 ?_
  exact x_iretR C rfl dJ6_bitCount_0f7a4_52  (r_i hF)
noncomputable def g_X0_shipOf (ν : Mm) (a1 : Int32) : Option (Int32) := asr (vp_in a1 60) (asr (vp_in (ν.1 (7 + (62 + 2 * (cl a1))) 1) 40) (some (ν.1 (7 + (22 + (cl (ν.1 (7 + (62 + 2 * (cl a1))) 1)))) 0)))
set_option maxRecDepth 20000 in
set_option maxHeartbeats 4000000 in
theorem k_X0_shipOf (l : Launch) (D : va_G) (cA : Nat → ClassId) (s0 : State) (z : Nat) (b : Nat) (ν : Mm) (hG : xG l D cA s0) (a1 : Int32) (r : Int32) (hF : g_X0_shipOf ν a1 = some r) : Met l yX0_shipOf (wsG yX0_shipOf cX0_shipOf 2 (some (FieldType.int))) { frames := 0, cells := 0, slots := 0, locals := 0 } (xP D cA s0 [.ref (b + 2626), .int a1] (WC D cA s0 z b ν)) (xQr (some (.int r))) 0 0 xN := by
  refine x_start (own := RX0) [(0, .ref (b + 2626)), (1, .int a1)] rfl rfl (by decide) (nb rfl) ?_
  intro p e s m args below meth c C hw
  refine x_aload_n C dX0_shipOf_0 rfl ?_
  refine x_get (.ref (b + 7)) C fl_X0_9 (C_Acc hw) rfl dX0_shipOf_1 ?_
  refine x_get (.ref (b + (7 + 2))) C fl_X0_15 (C_Led led7 hw) rfl dX0_shipOf_4 ?_
  refine x_aload_n C dX0_shipOf_7 rfl ?_
  refine x_get (.ref (b + 7)) C fl_X0_9 (C_Acc hw) rfl dX0_shipOf_8 ?_
  refine x_get (.ref (b + (7 + 3))) C fl_X0_21 (C_Led led7 hw) rfl dX0_shipOf_11 ?_
  refine x_iload_n C dX0_shipOf_14 rfl ?_
  obtain ⟨h1, hF⟩ := asr_e hF
  obtain ⟨hn2, hl3⟩ := vpn h1 (by decide)
  refine x_aald 5 C (C_invoices led7 hw) rfl hn2 hl3 (by decide) rfl dX0_shipOf_15 ?_
  refine x_get (.int (ν.1 (7 + (62 + 2 * (cl a1))) 1)) C fl_X0_25 (C_Inv (mk_Inv led7 hl3) hw) rfl dX0_shipOf_16 ?_
  obtain ⟨h4, hF⟩ := asr_e hF
  obtain ⟨hn5, hl6⟩ := vpn h4 (by decide)
  refine x_aald 4 C (C_calls led7 hw) rfl hn5 hl6 (by decide) rfl dX0_shipOf_19 ?_
  refine x_get (.int (ν.1 (7 + (22 + (cl (ν.1 (7 + (62 + 2 * (cl a1))) 1)))) 0)) C fl_X0_31 (C_Cal (mk_Cal led7 hl6) hw) rfl dX0_shipOf_20 ?_
  exact x_iretR C rfl dX0_shipOf_23  (r_i hF)
noncomputable def g_X4_standing (ν : Mm) (o : Nat) : Option (Int32) := asr (isInv o) (some ((ν.1 o 4) &&& ((ν.1 o 5) ^^^ (-1 : Int32))))
set_option maxRecDepth 20000 in
set_option maxHeartbeats 4000000 in
theorem k_X4_standing (l : Launch) (D : va_G) (cA : Nat → ClassId) (s0 : State) (z : Nat) (b : Nat) (ν : Mm) (hG : xG l D cA s0) (o : Nat) (r : Int32) (hF : g_X4_standing ν o = some r) : Met l yX4_standing (wsG yX4_standing cX4_standing 1 (some (FieldType.int))) { frames := 0, cells := 0, slots := 0, locals := 0 } (xP D cA s0 [.ref (b + o)] (WC D cA s0 z b ν)) (xQr (some (.int r))) 0 0 xN := by
  refine x_start (own := RX4) [(0, .ref (b + o))] rfl rfl (by decide) (nb rfl) ?_
  intro p e s m args below meth c C hw
  obtain ⟨hpo, hF⟩ := asr_e hF
  refine x_aload_n C dX4_standing_0 rfl ?_
  refine x_get (.int (ν.1 o 4)) C fl_X4_31 (C_Inv hpo hw) rfl dX4_standing_1 ?_
  refine x_aload_n C dX4_standing_4 rfl ?_
  refine x_get (.int (ν.1 o 5)) C fl_X4_34 (C_Inv hpo hw) rfl dX4_standing_5 ?_
  refine x_iconst (-1 : Int32) C dX4_standing_8 rfl ?_
  refine x_ixor C dX4_standing_9 ?_
  refine x_iand C dX4_standing_10 ?_
  exact x_iretR C rfl dX4_standing_11  (r_i hF)
noncomputable def g_X0_billedLinesOf_L4 (ν : Mm) (a1 : Int32) : Nat → Int32 → Int32 → Option (Int32)
  | 0, _, _ => none
  | n + 1, x2, x3 => (if (ν.1 7 7) ≤ x3 then some x2 else asr (vp_in x3 60) ((if (ν.1 (7 + (62 + 2 * (cl x3))) 1) = a1 then bnd (g_X4_standing ν (7 + (62 + 2 * (cl x3)))) (fun q6 => (g_X0_billedLinesOf_L4 ν a1 n (x2 ||| (q6 &&& (7 : Int32))) (x3 + (1 : Int32)))) else (g_X0_billedLinesOf_L4 ν a1 n x2 (x3 + (1 : Int32))))))
noncomputable def g_X0_billedLinesOf (ν : Mm) (a1 : Int32) : Option (Int32) := (g_X0_billedLinesOf_L4 ν a1 10000 (0 : Int32) (0 : Int32))
set_option maxRecDepth 20000 in
set_option maxHeartbeats 4000000 in
theorem k_X0_billedLinesOf (l : Launch) (D : va_G) (cA : Nat → ClassId) (s0 : State) (z : Nat) (b : Nat) (ν : Mm) (hG : xG l D cA s0) (a1 : Int32) (r : Int32) (hF : g_X0_billedLinesOf ν a1 = some r) : Met l yX0_billedLinesOf (wsG yX0_billedLinesOf cX0_billedLinesOf 5 (some (FieldType.int))) { frames := 1, cells := 0, slots := 0, locals := 20 } (xP D cA s0 [.ref (b + 2626), .int a1] (WC D cA s0 z b ν)) (xQr (some (.int r))) 0 0 xN := by
  refine x_start (own := RX0) [(0, .ref (b + 2626)), (1, .int a1)] rfl rfl (by decide) (nb rfl) ?_
  intro p e s m args below meth c C hw
  have h_L4 : ∀ (n : Nat) (x2 : Int32) (x3 : Int32), g_X0_billedLinesOf_L4 ν a1 n x2 x3 = some r → xW p l e { frames := 1, cells := 0, slots := 0, locals := 20 } s m args below meth c 5 (MQ below (xQr (some (.int r))) args s 0 0 xN) s.heap [] 0 0 4 [(0, .ref (b + 2626)), (1, .int a1), (2, .int x2), (3, .int x3)] [] := by
    intro n
    induction n with
    | zero =>
      intro x2 x3 hF
      exact no_some hF
    | succ n ih =>
      intro x2 x3 hF
      have ih4 := ih
      refine x_iload_n C dX0_billedLinesOf_4 rfl ?_
      refine x_aload_n C dX0_billedLinesOf_5 rfl ?_
      refine x_get (.ref (b + 7)) C fl_X0_9 (C_Acc hw) rfl dX0_billedLinesOf_6 ?_
      refine x_get (.int (ν.1 7 7)) C fl_X0_36 (C_Led led7 hw) rfl dX0_billedLinesOf_9 ?_
      refine x_icmp_ge 52 C dX0_billedLinesOf_12 (by decide) (fun c1 => ?_) (fun c1 => ?_)
      · have hF := ite_t hF c1
        refine x_iload_n C dX0_billedLinesOf_52 rfl ?_
        exact x_iretR C rfl dX0_billedLinesOf_53  (r_i hF)
      · have hF := ite_f hF c1
        refine x_aload_n C dX0_billedLinesOf_15 rfl ?_
        refine x_get (.ref (b + 7)) C fl_X0_9 (C_Acc hw) rfl dX0_billedLinesOf_16 ?_
        refine x_get (.ref (b + (7 + 3))) C fl_X0_21 (C_Led led7 hw) rfl dX0_billedLinesOf_19 ?_
        refine x_iload_n C dX0_billedLinesOf_22 rfl ?_
        obtain ⟨h2, hF⟩ := asr_e hF
        obtain ⟨hn3, hl4⟩ := vpn h2 (by decide)
        refine x_aald 5 C (C_invoices led7 hw) rfl hn3 hl4 (by decide) rfl dX0_billedLinesOf_23 ?_
        refine x_astore [(4, .ref (b + (7 + (62 + 2 * (cl x3))))), (0, .ref (b + 2626)), (1, .int a1), (2, .int x2), (3, .int x3)] C dX0_billedLinesOf_24 (by decide) rfl ?_
        refine x_aload C dX0_billedLinesOf_26 rfl ?_
        refine x_get (.int (ν.1 (7 + (62 + 2 * (cl x3))) 1)) C fl_X0_25 (C_Inv (mk_Inv led7 hl4) hw) rfl dX0_billedLinesOf_28 ?_
        refine x_iload_n C dX0_billedLinesOf_31 rfl ?_
        refine x_icmp_ne 46 C dX0_billedLinesOf_32 (by decide) (fun c5 => ?_) (fun c5 => ?_)
        · have hF := ite_f hF c5
          refine x_iinc (x3 + (1 : Int32)) [(3, .int (x3 + (1 : Int32))), (4, .ref (b + (7 + (62 + 2 * (cl x3))))), (0, .ref (b + 2626)), (1, .int a1), (2, .int x2)] C dX0_billedLinesOf_46 rfl rfl (by decide) rfl ?_
          refine x_goto 4 C dX0_billedLinesOf_49 (by decide) ?_
          refine x_sub [(0, .ref (b + 2626)), (1, .int a1), (2, .int x2), (3, .int (x3 + (1 : Int32)))] [2, 3, 4, 0] rfl ?_
          exact ih4 x2 (x3 + (1 : Int32)) hF
        · have hF := ite_t hF c5
          refine x_iload_n C dX0_billedLinesOf_35 rfl ?_
          refine x_aload C dX0_billedLinesOf_36 rfl ?_
          obtain ⟨q6, hq7, hF⟩ := bnd_e hF
          refine x_goR (fun ls h => x_runV (As := []) [.int x2] h C ml_X0_39 (k_X4_standing l D cA s0 z b ν hG (7 + (62 + 2 * (cl x3))) q6 hq7) ⟨rfl, rfl, nb rfl, nb rfl⟩ rfl (C_Inv (mk_Inv led7 hl4) hw) rfl hw (nb rfl) ⟨Nat.zero_le _, Nat.zero_le _⟩ dX0_billedLinesOf_38) ?_
          refine x_bipush (7 : Int32) C dX0_billedLinesOf_41 rfl ?_
          refine x_iand C dX0_billedLinesOf_43 ?_
          refine x_ior C dX0_billedLinesOf_44 ?_
          refine x_istore_n [(2, .int (x2 ||| (q6 &&& (7 : Int32)))), (4, .ref (b + (7 + (62 + 2 * (cl x3))))), (0, .ref (b + 2626)), (1, .int a1), (3, .int x3)] C dX0_billedLinesOf_45 rfl (by decide) rfl ?_
          refine x_iinc (x3 + (1 : Int32)) [(3, .int (x3 + (1 : Int32))), (2, .int (x2 ||| (q6 &&& (7 : Int32)))), (4, .ref (b + (7 + (62 + 2 * (cl x3))))), (0, .ref (b + 2626)), (1, .int a1)] C dX0_billedLinesOf_46 rfl rfl (by decide) rfl ?_
          refine x_goto 4 C dX0_billedLinesOf_49 (by decide) ?_
          refine x_sub [(0, .ref (b + 2626)), (1, .int a1), (2, .int (x2 ||| (q6 &&& (7 : Int32)))), (3, .int (x3 + (1 : Int32)))] [3, 4, 1, 0] rfl ?_
          exact ih4 (x2 ||| (q6 &&& (7 : Int32))) (x3 + (1 : Int32)) hF
  refine x_iconst (0 : Int32) C dX0_billedLinesOf_0 rfl ?_
  refine x_istore_n [(2, .int (0 : Int32)), (0, .ref (b + 2626)), (1, .int a1)] C dX0_billedLinesOf_1 rfl (by decide) rfl ?_
  refine x_iconst (0 : Int32) C dX0_billedLinesOf_2 rfl ?_
  refine x_istore_n [(3, .int (0 : Int32)), (2, .int (0 : Int32)), (0, .ref (b + 2626)), (1, .int a1)] C dX0_billedLinesOf_3 rfl (by decide) rfl ?_
  refine x_sub [(0, .ref (b + 2626)), (1, .int a1), (2, .int (0 : Int32)), (3, .int (0 : Int32))] [2, 3, 1, 0] rfl ?_
  exact h_L4 10000 (0 : Int32) (0 : Int32) hF
noncomputable def g_X11_contains (a1 : Int32) (a2 : Int32) : Option (Bool) := (if ((a1 >>> (a2 &&& 31)) &&& (1 : Int32)) = 0 then some false else some true)
set_option maxRecDepth 20000 in
set_option maxHeartbeats 4000000 in
theorem k_X11_contains (l : Launch) (D : va_G) (cA : Nat → ClassId) (s0 : State) (z : Nat) (hG : xG l D cA s0) (a1 : Int32) (a2 : Int32) (r : Bool) (hF : g_X11_contains a1 a2 = some r) : Met l yX11_contains (wsG yX11_contains cX11_contains 2 (some (FieldType.boolean))) { frames := 0, cells := 0, slots := 0, locals := 0 } (xP D cA s0 [.int a1, .int a2] (fun _ => True)) (xQr (some (.int (bI r)))) 0 0 xN := by
  refine x_start (own := RX11) [(0, .int a1), (1, .int a2)] rfl rfl (by decide) (nb rfl) ?_
  intro p e s m args below meth c C hw
  refine x_iload_n C dX11_contains_0 rfl ?_
  refine x_iload_n C dX11_contains_1 rfl ?_
  refine x_ishr C dX11_contains_2 ?_
  refine x_iconst (1 : Int32) C dX11_contains_3 rfl ?_
  refine x_iand C dX11_contains_4 ?_
  refine x_if_eq 12 C dX11_contains_5 (by decide) (fun c1 => ?_) (fun c1 => ?_)
  · have hF := ite_t hF c1
    refine x_iconst (0 : Int32) C dX11_contains_12 rfl ?_
    exact x_zretR C rfl dX11_contains_13 rfl (r_b0 hF)
  · have hF := ite_f hF c1
    refine x_iconst (1 : Int32) C dX11_contains_8 rfl ?_
    refine x_goto 13 C dX11_contains_9 (by decide) ?_
    exact x_zretR C rfl dX11_contains_13 rfl (r_b1 hF)
noncomputable def g_X4_stands (ν : Mm) (o : Nat) (a1 : Int32) : Option (Bool) := asr (isInv o) (bnd (g_X4_standing ν o) (fun q1 => bnd (g_X11_contains q1 a1) (fun q3 => some q3)))
set_option maxRecDepth 20000 in
set_option maxHeartbeats 4000000 in
theorem k_X4_stands (l : Launch) (D : va_G) (cA : Nat → ClassId) (s0 : State) (z : Nat) (b : Nat) (ν : Mm) (hG : xG l D cA s0) (o : Nat) (a1 : Int32) (r : Bool) (hF : g_X4_stands ν o a1 = some r) : Met l yX4_stands (wsG yX4_stands cX4_stands 2 (some (FieldType.boolean))) { frames := 1, cells := 0, slots := 0, locals := 21 } (xP D cA s0 [.ref (b + o), .int a1] (WC D cA s0 z b ν)) (xQr (some (.int (bI r)))) 0 0 xN := by
  refine x_start (own := RX4) [(0, .ref (b + o)), (1, .int a1)] rfl rfl (by decide) (nb rfl) ?_
  intro p e s m args below meth c C hw
  obtain ⟨hpo, hF⟩ := asr_e hF
  refine x_aload_n C dX4_stands_0 rfl ?_
  obtain ⟨q1, hq2, hF⟩ := bnd_e hF
  refine x_goR (fun ls h => x_runV (As := []) [] h C ml_X4_40 (k_X4_standing l D cA s0 z b ν hG o q1 hq2) ⟨rfl, rfl, nb rfl, nb rfl⟩ rfl (C_Inv hpo hw) rfl hw (nb rfl) ⟨Nat.zero_le _, Nat.zero_le _⟩ dX4_stands_1) ?_
  refine x_iload_n C dX4_stands_4 rfl ?_
  obtain ⟨q3, hq4, hF⟩ := bnd_e hF
  refine x_goR (fun ls h => x_runN (As := [.int q1, .int a1]) [] h C ml_X4_44 (k_X11_contains l D cA s0 z hG q1 a1 q3 hq4) ⟨rfl, rfl, nb rfl, nb rfl⟩ rfl trivial (nb rfl) ⟨Nat.zero_le _, Nat.zero_le _⟩ dX4_stands_5) ?_
  exact x_zretR C rfl dX4_stands_8 (bI_nar _) (r_b hF)
noncomputable def g_X0_billedDaysOf_L4 (ν : Mm) (a1 : Int32) : Nat → Int32 → Int32 → Option (Int32)
  | 0, _, _ => none
  | n + 1, x2, x3 => (if (ν.1 7 7) ≤ x3 then some x2 else asr (vp_in x3 60) ((if (ν.1 (7 + (62 + 2 * (cl x3))) 1) = a1 then bnd (g_X4_stands ν (7 + (62 + 2 * (cl x3))) (3 : Int32)) (fun q6 => (if q6 = true then (g_X0_billedDaysOf_L4 ν a1 n (x2 ||| (ν.1 (7 + (62 + 2 * (cl x3))) 6)) (x3 + (1 : Int32))) else (g_X0_billedDaysOf_L4 ν a1 n x2 (x3 + (1 : Int32))))) else (g_X0_billedDaysOf_L4 ν a1 n x2 (x3 + (1 : Int32))))))
noncomputable def g_X0_billedDaysOf (ν : Mm) (a1 : Int32) : Option (Int32) := (g_X0_billedDaysOf_L4 ν a1 10000 (0 : Int32) (0 : Int32))
set_option maxRecDepth 20000 in
set_option maxHeartbeats 4000000 in
theorem k_X0_billedDaysOf (l : Launch) (D : va_G) (cA : Nat → ClassId) (s0 : State) (z : Nat) (b : Nat) (ν : Mm) (hG : xG l D cA s0) (a1 : Int32) (r : Int32) (hF : g_X0_billedDaysOf ν a1 = some r) : Met l yX0_billedDaysOf (wsG yX0_billedDaysOf cX0_billedDaysOf 5 (some (FieldType.int))) { frames := 2, cells := 0, slots := 0, locals := 42 } (xP D cA s0 [.ref (b + 2626), .int a1] (WC D cA s0 z b ν)) (xQr (some (.int r))) 0 0 xN := by
  refine x_start (own := RX0) [(0, .ref (b + 2626)), (1, .int a1)] rfl rfl (by decide) (nb rfl) ?_
  intro p e s m args below meth c C hw
  have h_L4 : ∀ (n : Nat) (x2 : Int32) (x3 : Int32), g_X0_billedDaysOf_L4 ν a1 n x2 x3 = some r → xW p l e { frames := 2, cells := 0, slots := 0, locals := 42 } s m args below meth c 5 (MQ below (xQr (some (.int r))) args s 0 0 xN) s.heap [] 0 0 4 [(0, .ref (b + 2626)), (1, .int a1), (2, .int x2), (3, .int x3)] [] := by
    intro n
    induction n with
    | zero =>
      intro x2 x3 hF
      exact no_some hF
    | succ n ih =>
      intro x2 x3 hF
      have ih4 := ih
      refine x_iload_n C dX0_billedDaysOf_4 rfl ?_
      refine x_aload_n C dX0_billedDaysOf_5 rfl ?_
      refine x_get (.ref (b + 7)) C fl_X0_9 (C_Acc hw) rfl dX0_billedDaysOf_6 ?_
      refine x_get (.int (ν.1 7 7)) C fl_X0_36 (C_Led led7 hw) rfl dX0_billedDaysOf_9 ?_
      refine x_icmp_ge 58 C dX0_billedDaysOf_12 (by decide) (fun c1 => ?_) (fun c1 => ?_)
      · have hF := ite_t hF c1
        refine x_iload_n C dX0_billedDaysOf_58 rfl ?_
        exact x_iretR C rfl dX0_billedDaysOf_59  (r_i hF)
      · have hF := ite_f hF c1
        refine x_aload_n C dX0_billedDaysOf_15 rfl ?_
        refine x_get (.ref (b + 7)) C fl_X0_9 (C_Acc hw) rfl dX0_billedDaysOf_16 ?_
        refine x_get (.ref (b + (7 + 3))) C fl_X0_21 (C_Led led7 hw) rfl dX0_billedDaysOf_19 ?_
        refine x_iload_n C dX0_billedDaysOf_22 rfl ?_
        obtain ⟨h2, hF⟩ := asr_e hF
        obtain ⟨hn3, hl4⟩ := vpn h2 (by decide)
        refine x_aald 5 C (C_invoices led7 hw) rfl hn3 hl4 (by decide) rfl dX0_billedDaysOf_23 ?_
        refine x_astore [(4, .ref (b + (7 + (62 + 2 * (cl x3))))), (0, .ref (b + 2626)), (1, .int a1), (2, .int x2), (3, .int x3)] C dX0_billedDaysOf_24 (by decide) rfl ?_
        refine x_aload C dX0_billedDaysOf_26 rfl ?_
        refine x_get (.int (ν.1 (7 + (62 + 2 * (cl x3))) 1)) C fl_X0_25 (C_Inv (mk_Inv led7 hl4) hw) rfl dX0_billedDaysOf_28 ?_
        refine x_iload_n C dX0_billedDaysOf_31 rfl ?_
        refine x_icmp_ne 52 C dX0_billedDaysOf_32 (by decide) (fun c5 => ?_) (fun c5 => ?_)
        · have hF := ite_f hF c5
          refine x_iinc (x3 + (1 : Int32)) [(3, .int (x3 + (1 : Int32))), (4, .ref (b + (7 + (62 + 2 * (cl x3))))), (0, .ref (b + 2626)), (1, .int a1), (2, .int x2)] C dX0_billedDaysOf_52 rfl rfl (by decide) rfl ?_
          refine x_goto 4 C dX0_billedDaysOf_55 (by decide) ?_
          refine x_sub [(0, .ref (b + 2626)), (1, .int a1), (2, .int x2), (3, .int (x3 + (1 : Int32)))] [2, 3, 4, 0] rfl ?_
          exact ih4 x2 (x3 + (1 : Int32)) hF
        · have hF := ite_t hF c5
          refine x_aload C dX0_billedDaysOf_35 rfl ?_
          refine x_iconst (3 : Int32) C dX0_billedDaysOf_37 rfl ?_
          obtain ⟨q6, hq7, hF⟩ := bnd_e hF
          refine x_goR (fun ls h => x_runV (As := [.int (3 : Int32)]) [] h C ml_X0_43 (k_X4_stands l D cA s0 z b ν hG (7 + (62 + 2 * (cl x3))) (3 : Int32) q6 hq7) ⟨rfl, rfl, nb rfl, nb rfl⟩ rfl (C_Inv (mk_Inv led7 hl4) hw) rfl hw (nb rfl) ⟨Nat.zero_le _, Nat.zero_le _⟩ dX0_billedDaysOf_38) ?_
          refine x_ifB_eq 52 C dX0_billedDaysOf_41 (by decide) (fun c8 => ?_) (fun c8 => ?_)
          · have hF := ite_f hF (nbt c8)
            refine x_iinc (x3 + (1 : Int32)) [(3, .int (x3 + (1 : Int32))), (4, .ref (b + (7 + (62 + 2 * (cl x3))))), (0, .ref (b + 2626)), (1, .int a1), (2, .int x2)] C dX0_billedDaysOf_52 rfl rfl (by decide) rfl ?_
            refine x_goto 4 C dX0_billedDaysOf_55 (by decide) ?_
            refine x_sub [(0, .ref (b + 2626)), (1, .int a1), (2, .int x2), (3, .int (x3 + (1 : Int32)))] [2, 3, 4, 0] rfl ?_
            exact ih4 x2 (x3 + (1 : Int32)) hF
          · have hF := ite_t hF c8
            refine x_iload_n C dX0_billedDaysOf_44 rfl ?_
            refine x_aload C dX0_billedDaysOf_45 rfl ?_
            refine x_get (.int (ν.1 (7 + (62 + 2 * (cl x3))) 6)) C fl_X0_47 (C_Inv (mk_Inv led7 hl4) hw) rfl dX0_billedDaysOf_47 ?_
            refine x_ior C dX0_billedDaysOf_50 ?_
            refine x_istore_n [(2, .int (x2 ||| (ν.1 (7 + (62 + 2 * (cl x3))) 6))), (4, .ref (b + (7 + (62 + 2 * (cl x3))))), (0, .ref (b + 2626)), (1, .int a1), (3, .int x3)] C dX0_billedDaysOf_51 rfl (by decide) rfl ?_
            refine x_iinc (x3 + (1 : Int32)) [(3, .int (x3 + (1 : Int32))), (2, .int (x2 ||| (ν.1 (7 + (62 + 2 * (cl x3))) 6))), (4, .ref (b + (7 + (62 + 2 * (cl x3))))), (0, .ref (b + 2626)), (1, .int a1)] C dX0_billedDaysOf_52 rfl rfl (by decide) rfl ?_
            refine x_goto 4 C dX0_billedDaysOf_55 (by decide) ?_
            refine x_sub [(0, .ref (b + 2626)), (1, .int a1), (2, .int (x2 ||| (ν.1 (7 + (62 + 2 * (cl x3))) 6))), (3, .int (x3 + (1 : Int32)))] [3, 4, 1, 0] rfl ?_
            exact ih4 (x2 ||| (ν.1 (7 + (62 + 2 * (cl x3))) 6)) (x3 + (1 : Int32)) hF
  refine x_iconst (0 : Int32) C dX0_billedDaysOf_0 rfl ?_
  refine x_istore_n [(2, .int (0 : Int32)), (0, .ref (b + 2626)), (1, .int a1)] C dX0_billedDaysOf_1 rfl (by decide) rfl ?_
  refine x_iconst (0 : Int32) C dX0_billedDaysOf_2 rfl ?_
  refine x_istore_n [(3, .int (0 : Int32)), (2, .int (0 : Int32)), (0, .ref (b + 2626)), (1, .int a1)] C dX0_billedDaysOf_3 rfl (by decide) rfl ?_
  refine x_sub [(0, .ref (b + 2626)), (1, .int a1), (2, .int (0 : Int32)), (3, .int (0 : Int32))] [2, 3, 1, 0] rfl ?_
  exact h_L4 10000 (0 : Int32) (0 : Int32) hF
noncomputable def g_X5_present (ν : Mm) (o : Nat) : Option (Nat) := asr (isLed o) (asr (vp_in (ν.1 o 9) 21) (some (o + (222 + 5 * (cl (ν.1 o 9))))))
set_option maxRecDepth 20000 in
set_option maxHeartbeats 4000000 in
theorem k_X5_present (l : Launch) (D : va_G) (cA : Nat → ClassId) (s0 : State) (z : Nat) (b : Nat) (ν : Mm) (hG : xG l D cA s0) (o : Nat) (r : Nat) (hF : g_X5_present ν o = some r) : Met l yX5_present (wsG yX5_present cX5_present 1 (some ((FieldType.object "PortDues$Tariff")))) { frames := 0, cells := 0, slots := 0, locals := 0 } (xP D cA s0 [.ref (b + o)] (WC D cA s0 z b ν)) (xQr (some (.ref (b + r)))) 0 0 xN := by
  refine x_start (own := RX5) [(0, .ref (b + o))] rfl rfl (by decide) (nb rfl) ?_
  intro p e s m args below meth c C hw
  obtain ⟨hpo, hF⟩ := asr_e hF
  refine x_aload_n C dX5_present_0 rfl ?_
  refine x_get (.ref (b + (o + 5))) C fl_X5_37 (C_Led hpo hw) rfl dX5_present_1 ?_
  refine x_aload_n C dX5_present_4 rfl ?_
  refine x_get (.int (ν.1 o 9)) C fl_X5_59 (C_Led hpo hw) rfl dX5_present_5 ?_
  obtain ⟨h1, hF⟩ := asr_e hF
  obtain ⟨hn2, hl3⟩ := vpn h1 (by decide)
  refine x_aald 7 C (C_versions hpo hw) rfl hn2 hl3 (by decide) rfl dX5_present_8 ?_
  exact x_aretR C rfl dX5_present_9 (Or.inl ⟨_, rfl⟩) (r_o hF)
noncomputable def g_X2_days (ν : Mm) (o : Nat) : Option (Int32) := asr (isCal o) (some (((ν.1 o 2) - (ν.1 o 1)) + (1 : Int32)))
set_option maxRecDepth 20000 in
set_option maxHeartbeats 4000000 in
theorem k_X2_days (l : Launch) (D : va_G) (cA : Nat → ClassId) (s0 : State) (z : Nat) (b : Nat) (ν : Mm) (hG : xG l D cA s0) (o : Nat) (r : Int32) (hF : g_X2_days ν o = some r) : Met l yX2_days (wsG yX2_days cX2_days 1 (some (FieldType.int))) { frames := 0, cells := 0, slots := 0, locals := 0 } (xP D cA s0 [.ref (b + o)] (WC D cA s0 z b ν)) (xQr (some (.int r))) 0 0 xN := by
  refine x_start (own := RX2) [(0, .ref (b + o))] rfl rfl (by decide) (nb rfl) ?_
  intro p e s m args below meth c C hw
  obtain ⟨hpo, hF⟩ := asr_e hF
  refine x_aload_n C dX2_days_0 rfl ?_
  refine x_get (.int (ν.1 o 2)) C fl_X2_18 (C_Cal hpo hw) rfl dX2_days_1 ?_
  refine x_aload_n C dX2_days_4 rfl ?_
  refine x_get (.int (ν.1 o 1)) C fl_X2_15 (C_Cal hpo hw) rfl dX2_days_5 ?_
  refine x_isub C dX2_days_8 ?_
  refine x_iconst (1 : Int32) C dX2_days_9 rfl ?_
  refine x_iadd C dX2_days_10 ?_
  exact x_iretR C rfl dX2_days_11  (r_i hF)
noncomputable def g_X11_setBelow (a1 : Int32) : Option (Int32) := some (((1 : Int32) <<< (a1 &&& 31)) - (1 : Int32))
set_option maxRecDepth 20000 in
set_option maxHeartbeats 4000000 in
theorem k_X11_setBelow (l : Launch) (D : va_G) (cA : Nat → ClassId) (s0 : State) (z : Nat) (hG : xG l D cA s0) (a1 : Int32) (r : Int32) (hF : g_X11_setBelow a1 = some r) : Met l yX11_setBelow (wsG yX11_setBelow cX11_setBelow 1 (some (FieldType.int))) { frames := 0, cells := 0, slots := 0, locals := 0 } (xP D cA s0 [.int a1] (fun _ => True)) (xQr (some (.int r))) 0 0 xN := by
  refine x_start (own := RX11) [(0, .int a1)] rfl rfl (by decide) (nb rfl) ?_
  intro p e s m args below meth c C hw
  refine x_iconst (1 : Int32) C dX11_setBelow_0 rfl ?_
  refine x_iload_n C dX11_setBelow_1 rfl ?_
  refine x_ishl C dX11_setBelow_2 ?_
  refine x_iconst (1 : Int32) C dX11_setBelow_3 rfl ?_
  refine x_isub C dX11_setBelow_4 ?_
  exact x_iretR C rfl dX11_setBelow_5  (r_i hF)
noncomputable def g_X10_laySet (ν : Mm) (o : Nat) (a1 : Int32) : Option (Int32) := asr (isTar o) (bnd (g_X11_setBelow a1) (fun q1 => bnd (g_X11_setBelow (ν.1 o 10)) (fun q3 => some (q1 &&& (q3 ^^^ (-1 : Int32))))))
set_option maxRecDepth 20000 in
set_option maxHeartbeats 4000000 in
theorem k_X10_laySet (l : Launch) (D : va_G) (cA : Nat → ClassId) (s0 : State) (z : Nat) (b : Nat) (ν : Mm) (hG : xG l D cA s0) (o : Nat) (a1 : Int32) (r : Int32) (hF : g_X10_laySet ν o a1 = some r) : Met l yX10_laySet (wsG yX10_laySet cX10_laySet 2 (some (FieldType.int))) { frames := 1, cells := 0, slots := 0, locals := 20 } (xP D cA s0 [.ref (b + o), .int a1] (WC D cA s0 z b ν)) (xQr (some (.int r))) 0 0 xN := by
  refine x_start (own := RX10) [(0, .ref (b + o)), (1, .int a1)] rfl rfl (by decide) (nb rfl) ?_
  intro p e s m args below meth c C hw
  obtain ⟨hpo, hF⟩ := asr_e hF
  refine x_iload_n C dX10_laySet_0 rfl ?_
  obtain ⟨q1, hq2, hF⟩ := bnd_e hF
  refine x_goR (fun ls h => x_runN (As := [.int a1]) [] h C ml_X10_72 (k_X11_setBelow l D cA s0 z hG a1 q1 hq2) ⟨rfl, rfl, nb rfl, nb rfl⟩ rfl trivial (nb rfl) ⟨Nat.zero_le _, Nat.zero_le _⟩ dX10_laySet_1) ?_
  refine x_aload_n C dX10_laySet_4 rfl ?_
  refine x_get (.int (ν.1 o 10)) C fl_X10_24 (C_Tar hpo hw) rfl dX10_laySet_5 ?_
  obtain ⟨q3, hq4, hF⟩ := bnd_e hF
  refine x_goR (fun ls h => x_runN (As := [.int (ν.1 o 10)]) [.int q1] h C ml_X10_72 (k_X11_setBelow l D cA s0 z hG (ν.1 o 10) q3 hq4) ⟨rfl, rfl, nb rfl, nb rfl⟩ rfl trivial (nb rfl) ⟨Nat.zero_le _, Nat.zero_le _⟩ dX10_laySet_8) ?_
  refine x_iconst (-1 : Int32) C dX10_laySet_11 rfl ?_
  refine x_ixor C dX10_laySet_12 ?_
  refine x_iand C dX10_laySet_13 ?_
  exact x_iretR C rfl dX10_laySet_14  (r_i hF)
noncomputable def g_X5_layDaysOf (ν : Mm) (o : Nat) (a1 : Int32) : Option (Int32) := asr (isLed o) (bnd (g_X5_present ν o) (fun q1 => asr (isTar q1) (asr (vp_in a1 40) (bnd (g_X2_days ν (o + (22 + (cl a1)))) (fun q7 => bnd (g_X10_laySet ν q1 q7) (fun q9 => some q9))))))
set_option maxRecDepth 20000 in
set_option maxHeartbeats 4000000 in
theorem k_X5_layDaysOf (l : Launch) (D : va_G) (cA : Nat → ClassId) (s0 : State) (z : Nat) (b : Nat) (ν : Mm) (hG : xG l D cA s0) (o : Nat) (a1 : Int32) (r : Int32) (hF : g_X5_layDaysOf ν o a1 = some r) : Met l yX5_layDaysOf (wsG yX5_layDaysOf cX5_layDaysOf 2 (some (FieldType.int))) { frames := 2, cells := 0, slots := 0, locals := 41 } (xP D cA s0 [.ref (b + o), .int a1] (WC D cA s0 z b ν)) (xQr (some (.int r))) 0 0 xN := by
  refine x_start (own := RX5) [(0, .ref (b + o)), (1, .int a1)] rfl rfl (by decide) (nb rfl) ?_
  intro p e s m args below meth c C hw
  obtain ⟨hpo, hF⟩ := asr_e hF
  refine x_aload_n C dX5_layDaysOf_0 rfl ?_
  obtain ⟨q1, hq2, hF⟩ := bnd_e hF
  refine x_goR (fun ls h => x_runV (As := []) [] h C ml_X5_84 (k_X5_present l D cA s0 z b ν hG o q1 hq2) ⟨rfl, rfl, nb rfl, nb rfl⟩ rfl (C_Led hpo hw) rfl hw (nb rfl) ⟨Nat.zero_le _, Nat.zero_le _⟩ dX5_layDaysOf_1) ?_
  obtain ⟨h3, hF⟩ := asr_e hF
  refine x_aload_n C dX5_layDaysOf_4 rfl ?_
  refine x_get (.ref (b + (o + 2))) C fl_X5_19 (C_Led hpo hw) rfl dX5_layDaysOf_5 ?_
  refine x_iload_n C dX5_layDaysOf_8 rfl ?_
  obtain ⟨h4, hF⟩ := asr_e hF
  obtain ⟨hn5, hl6⟩ := vpn h4 (by decide)
  refine x_aald 4 C (C_calls hpo hw) rfl hn5 hl6 (by decide) rfl dX5_layDaysOf_9 ?_
  obtain ⟨q7, hq8, hF⟩ := bnd_e hF
  refine x_goR (fun ls h => x_runV (As := []) [.ref (b + q1)] h C ml_X5_135 (k_X2_days l D cA s0 z b ν hG (o + (22 + (cl a1))) q7 hq8) ⟨rfl, rfl, nb rfl, nb rfl⟩ rfl (C_Cal (mk_Cal hpo hl6) hw) rfl hw (nb rfl) ⟨Nat.zero_le _, Nat.zero_le _⟩ dX5_layDaysOf_10) ?_
  obtain ⟨q9, hq10, hF⟩ := bnd_e hF
  refine x_goR (fun ls h => x_runV (As := [.int q7]) [] h C ml_X5_139 (k_X10_laySet l D cA s0 z b ν hG q1 q7 q9 hq10) ⟨rfl, rfl, nb rfl, nb rfl⟩ rfl (C_Tar h3 hw) rfl hw (nb rfl) ⟨Nat.zero_le _, Nat.zero_le _⟩ dX5_layDaysOf_13) ?_
  exact x_iretR C rfl dX5_layDaysOf_16  (r_i hF)
noncomputable def g_X2_contestedDays (ν : Mm) (o : Nat) : Option (Int32) := asr (isCal o) (some ((ν.1 o 5) ||| (ν.1 o 6)))
set_option maxRecDepth 20000 in
set_option maxHeartbeats 4000000 in
theorem k_X2_contestedDays (l : Launch) (D : va_G) (cA : Nat → ClassId) (s0 : State) (z : Nat) (b : Nat) (ν : Mm) (hG : xG l D cA s0) (o : Nat) (r : Int32) (hF : g_X2_contestedDays ν o = some r) : Met l yX2_contestedDays (wsG yX2_contestedDays cX2_contestedDays 1 (some (FieldType.int))) { frames := 0, cells := 0, slots := 0, locals := 0 } (xP D cA s0 [.ref (b + o)] (WC D cA s0 z b ν)) (xQr (some (.int r))) 0 0 xN := by
  refine x_start (own := RX2) [(0, .ref (b + o))] rfl rfl (by decide) (nb rfl) ?_
  intro p e s m args below meth c C hw
  obtain ⟨hpo, hF⟩ := asr_e hF
  refine x_aload_n C dX2_contestedDays_0 rfl ?_
  refine x_get (.int (ν.1 o 5)) C fl_X2_28 (C_Cal hpo hw) rfl dX2_contestedDays_1 ?_
  refine x_aload_n C dX2_contestedDays_4 rfl ?_
  refine x_get (.int (ν.1 o 6)) C fl_X2_31 (C_Cal hpo hw) rfl dX2_contestedDays_5 ?_
  refine x_ior C dX2_contestedDays_8 ?_
  exact x_iretR C rfl dX2_contestedDays_9  (r_i hF)
noncomputable def g_X0_billableDaysOf (ν : Mm) (a1 : Int32) : Option (Int32) := bnd (g_X5_layDaysOf ν 7 a1) (fun q1 => bnd (g_X0_billedDaysOf ν a1) (fun q3 => asr (vp_in a1 40) (bnd (g_X2_contestedDays ν (7 + (22 + (cl a1)))) (fun q8 => some ((q1 &&& (q3 ^^^ (-1 : Int32))) &&& (q8 ^^^ (-1 : Int32)))))))
set_option maxRecDepth 20000 in
set_option maxHeartbeats 4000000 in
theorem k_X0_billableDaysOf (l : Launch) (D : va_G) (cA : Nat → ClassId) (s0 : State) (z : Nat) (b : Nat) (ν : Mm) (hG : xG l D cA s0) (a1 : Int32) (r : Int32) (hF : g_X0_billableDaysOf ν a1 = some r) : Met l yX0_billableDaysOf (wsG yX0_billableDaysOf cX0_billableDaysOf 2 (some (FieldType.int))) { frames := 3, cells := 0, slots := 0, locals := 66 } (xP D cA s0 [.ref (b + 2626), .int a1] (WC D cA s0 z b ν)) (xQr (some (.int r))) 0 0 xN := by
  refine x_start (own := RX0) [(0, .ref (b + 2626)), (1, .int a1)] rfl rfl (by decide) (nb rfl) ?_
  intro p e s m args below meth c C hw
  refine x_aload_n C dX0_billableDaysOf_0 rfl ?_
  refine x_get (.ref (b + 7)) C fl_X0_9 (C_Acc hw) rfl dX0_billableDaysOf_1 ?_
  refine x_iload_n C dX0_billableDaysOf_4 rfl ?_
  obtain ⟨q1, hq2, hF⟩ := bnd_e hF
  refine x_goR (fun ls h => x_runV (As := [.int a1]) [] h C ml_X0_50 (k_X5_layDaysOf l D cA s0 z b ν hG 7 a1 q1 hq2) ⟨rfl, rfl, nb rfl, nb rfl⟩ rfl (C_Led led7 hw) rfl hw (nb rfl) ⟨Nat.zero_le _, Nat.zero_le _⟩ dX0_billableDaysOf_5) ?_
  refine x_aload_n C dX0_billableDaysOf_8 rfl ?_
  refine x_iload_n C dX0_billableDaysOf_9 rfl ?_
  obtain ⟨q3, hq4, hF⟩ := bnd_e hF
  refine x_goR (fun ls h => x_runV (As := [.int a1]) [.int q1] h C ml_X0_54 (k_X0_billedDaysOf l D cA s0 z b ν hG a1 q3 hq4) ⟨rfl, rfl, nb rfl, nb rfl⟩ rfl (C_Acc hw) rfl hw (nb rfl) ⟨Nat.zero_le _, Nat.zero_le _⟩ dX0_billableDaysOf_10) ?_
  refine x_iconst (-1 : Int32) C dX0_billableDaysOf_13 rfl ?_
  refine x_ixor C dX0_billableDaysOf_14 ?_
  refine x_iand C dX0_billableDaysOf_15 ?_
  refine x_aload_n C dX0_billableDaysOf_16 rfl ?_
  refine x_get (.ref (b + 7)) C fl_X0_9 (C_Acc hw) rfl dX0_billableDaysOf_17 ?_
  refine x_get (.ref (b + (7 + 2))) C fl_X0_15 (C_Led led7 hw) rfl dX0_billableDaysOf_20 ?_
  refine x_iload_n C dX0_billableDaysOf_23 rfl ?_
  obtain ⟨h5, hF⟩ := asr_e hF
  obtain ⟨hn6, hl7⟩ := vpn h5 (by decide)
  refine x_aald 4 C (C_calls led7 hw) rfl hn6 hl7 (by decide) rfl dX0_billableDaysOf_24 ?_
  obtain ⟨q8, hq9, hF⟩ := bnd_e hF
  refine x_goR (fun ls h => x_runV (As := []) [.int (q1 &&& (q3 ^^^ (-1 : Int32)))] h C ml_X0_57 (k_X2_contestedDays l D cA s0 z b ν hG (7 + (22 + (cl a1))) q8 hq9) ⟨rfl, rfl, nb rfl, nb rfl⟩ rfl (C_Cal (mk_Cal led7 hl7) hw) rfl hw (nb rfl) ⟨Nat.zero_le _, Nat.zero_le _⟩ dX0_billableDaysOf_25) ?_
  refine x_iconst (-1 : Int32) C dX0_billableDaysOf_28 rfl ?_
  refine x_ixor C dX0_billableDaysOf_29 ?_
  refine x_iand C dX0_billableDaysOf_30 ?_
  exact x_iretR C rfl dX0_billableDaysOf_31  (r_i hF)
noncomputable def g_X0_canBill (ν : Mm) (a1 : Int32) : Option (Bool) := asr (vp_in a1 40) ((if (ν.1 (7 + (22 + (cl a1))) 4) = 0 then (if (ν.1 7 7) < (60 : Int32) then bnd (g_X0_billedLinesOf ν a1) (fun q6 => (if q6 = (7 : Int32) then bnd (g_X0_billableDaysOf ν a1) (fun q9 => (if q9 = 0 then some false else some true)) else some true)) else some false) else some false))
set_option maxRecDepth 20000 in
set_option maxHeartbeats 4000000 in
theorem k_X0_canBill (l : Launch) (D : va_G) (cA : Nat → ClassId) (s0 : State) (z : Nat) (b : Nat) (ν : Mm) (hG : xG l D cA s0) (a1 : Int32) (r : Bool) (hF : g_X0_canBill ν a1 = some r) : Met l yX0_canBill (wsG yX0_canBill cX0_canBill 2 (some (FieldType.boolean))) { frames := 4, cells := 0, slots := 0, locals := 87 } (xP D cA s0 [.ref (b + 2626), .int a1] (WC D cA s0 z b ν)) (xQr (some (.int (bI r)))) 0 0 xN := by
  refine x_start (own := RX0) [(0, .ref (b + 2626)), (1, .int a1)] rfl rfl (by decide) (nb rfl) ?_
  intro p e s m args below meth c C hw
  refine x_aload_n C dX0_canBill_0 rfl ?_
  refine x_get (.ref (b + 7)) C fl_X0_9 (C_Acc hw) rfl dX0_canBill_1 ?_
  refine x_get (.ref (b + (7 + 2))) C fl_X0_15 (C_Led led7 hw) rfl dX0_canBill_4 ?_
  refine x_iload_n C dX0_canBill_7 rfl ?_
  obtain ⟨h1, hF⟩ := asr_e hF
  obtain ⟨hn2, hl3⟩ := vpn h1 (by decide)
  refine x_aald 4 C (C_calls led7 hw) rfl hn2 hl3 (by decide) rfl dX0_canBill_8 ?_
  refine x_get (.int (ν.1 (7 + (22 + (cl a1))) 4)) C fl_X0_60 (C_Cal (mk_Cal led7 hl3) hw) rfl dX0_canBill_9 ?_
  refine x_if_ne 27 C dX0_canBill_12 (by decide) (fun c4 => ?_) (fun c4 => ?_)
  · have hF := ite_f hF c4
    refine x_iconst (0 : Int32) C dX0_canBill_27 rfl ?_
    exact x_zretR C rfl dX0_canBill_28 rfl (r_b0 hF)
  · have hF := ite_t hF c4
    refine x_aload_n C dX0_canBill_15 rfl ?_
    refine x_get (.ref (b + 7)) C fl_X0_9 (C_Acc hw) rfl dX0_canBill_16 ?_
    refine x_get (.int (ν.1 7 7)) C fl_X0_36 (C_Led led7 hw) rfl dX0_canBill_19 ?_
    refine x_bipush (60 : Int32) C dX0_canBill_22 rfl ?_
    refine x_icmp_lt 29 C dX0_canBill_24 (by decide) (fun c5 => ?_) (fun c5 => ?_)
    · have hF := ite_t hF c5
      refine x_aload_n C dX0_canBill_29 rfl ?_
      refine x_iload_n C dX0_canBill_30 rfl ?_
      obtain ⟨q6, hq7, hF⟩ := bnd_e hF
      refine x_goR (fun ls h => x_runV (As := [.int a1]) [] h C ml_X0_64 (k_X0_billedLinesOf l D cA s0 z b ν hG a1 q6 hq7) ⟨rfl, rfl, nb rfl, nb rfl⟩ rfl (C_Acc hw) rfl hw (nb rfl) ⟨Nat.zero_le _, Nat.zero_le _⟩ dX0_canBill_31) ?_
      refine x_bipush (7 : Int32) C dX0_canBill_34 rfl ?_
      refine x_icmp_ne 47 C dX0_canBill_36 (by decide) (fun c8 => ?_) (fun c8 => ?_)
      · have hF := ite_f hF c8
        refine x_iconst (1 : Int32) C dX0_canBill_47 rfl ?_
        refine x_goto 52 C dX0_canBill_48 (by decide) ?_
        exact x_zretR C rfl dX0_canBill_52 rfl (r_b1 hF)
      · have hF := ite_t hF c8
        refine x_aload_n C dX0_canBill_39 rfl ?_
        refine x_iload_n C dX0_canBill_40 rfl ?_
        obtain ⟨q9, hq10, hF⟩ := bnd_e hF
        refine x_goR (fun ls h => x_runV (As := [.int a1]) [] h C ml_X0_67 (k_X0_billableDaysOf l D cA s0 z b ν hG a1 q9 hq10) ⟨rfl, rfl, nb rfl, nb rfl⟩ rfl (C_Acc hw) rfl hw (nb rfl) ⟨Nat.zero_le _, Nat.zero_le _⟩ dX0_canBill_41) ?_
        refine x_if_eq 51 C dX0_canBill_44 (by decide) (fun c11 => ?_) (fun c11 => ?_)
        · have hF := ite_t hF c11
          refine x_iconst (0 : Int32) C dX0_canBill_51 rfl ?_
          exact x_zretR C rfl dX0_canBill_52 rfl (r_b0 hF)
        · have hF := ite_f hF c11
          refine x_iconst (1 : Int32) C dX0_canBill_47 rfl ?_
          refine x_goto 52 C dX0_canBill_48 (by decide) ?_
          exact x_zretR C rfl dX0_canBill_52 rfl (r_b1 hF)
    · have hF := ite_f hF c5
      refine x_iconst (0 : Int32) C dX0_canBill_27 rfl ?_
      exact x_zretR C rfl dX0_canBill_28 rfl (r_b0 hF)
noncomputable def g_X5_callsBefore_L17 (ν : Mm) (o : Nat) (a1 : Int32) (a2 : Int32) (a3 : Int32) : Nat → Int32 → Int32 → Option (Int32)
  | 0, _, _ => none
  | n + 1, x5, x6 => (if (ν.1 o 6) ≤ x6 then some x5 else asr (vp_in x6 40) ((if (ν.1 (o + (22 + (cl x6))) 1) < a2 then (if (ν.1 (o + (22 + (cl x6))) 0) = a1 then (if (ν.1 (o + (22 + (cl x6))) 4) = 0 then (if (ν.1 (o + (22 + (cl x6))) 1) < ((a2 / (360 : Int32)) * (360 : Int32)) then (g_X5_callsBefore_L17 ν o a1 a2 a3 n x5 (x6 + (1 : Int32))) else (g_X5_callsBefore_L17 ν o a1 a2 a3 n (x5 + (1 : Int32)) (x6 + (1 : Int32)))) else (g_X5_callsBefore_L17 ν o a1 a2 a3 n x5 (x6 + (1 : Int32)))) else (g_X5_callsBefore_L17 ν o a1 a2 a3 n x5 (x6 + (1 : Int32)))) else (if (ν.1 (o + (22 + (cl x6))) 1) = a2 then (if a3 ≤ x6 then (if (ν.1 (o + (22 + (cl x6))) 0) = a1 then (if (ν.1 (o + (22 + (cl x6))) 4) = 0 then (g_X5_callsBefore_L17 ν o a1 a2 a3 n x5 (x6 + (1 : Int32))) else (g_X5_callsBefore_L17 ν o a1 a2 a3 n x5 (x6 + (1 : Int32)))) else (g_X5_callsBefore_L17 ν o a1 a2 a3 n x5 (x6 + (1 : Int32)))) else (if (ν.1 (o + (22 + (cl x6))) 0) = a1 then (if (ν.1 (o + (22 + (cl x6))) 4) = 0 then (if (ν.1 (o + (22 + (cl x6))) 1) < ((a2 / (360 : Int32)) * (360 : Int32)) then (g_X5_callsBefore_L17 ν o a1 a2 a3 n x5 (x6 + (1 : Int32))) else (g_X5_callsBefore_L17 ν o a1 a2 a3 n (x5 + (1 : Int32)) (x6 + (1 : Int32)))) else (g_X5_callsBefore_L17 ν o a1 a2 a3 n x5 (x6 + (1 : Int32)))) else (g_X5_callsBefore_L17 ν o a1 a2 a3 n x5 (x6 + (1 : Int32))))) else (if (ν.1 (o + (22 + (cl x6))) 0) = a1 then (if (ν.1 (o + (22 + (cl x6))) 4) = 0 then (g_X5_callsBefore_L17 ν o a1 a2 a3 n x5 (x6 + (1 : Int32))) else (g_X5_callsBefore_L17 ν o a1 a2 a3 n x5 (x6 + (1 : Int32)))) else (g_X5_callsBefore_L17 ν o a1 a2 a3 n x5 (x6 + (1 : Int32))))))))
noncomputable def g_X5_callsBefore (ν : Mm) (o : Nat) (a1 : Int32) (a2 : Int32) (a3 : Int32) : Option (Int32) := asr (isLed o) ((g_X5_callsBefore_L17 ν o a1 a2 a3 10000 (0 : Int32) (0 : Int32)))
set_option maxRecDepth 20000 in
set_option maxHeartbeats 4000000 in
theorem k_X5_callsBefore (l : Launch) (D : va_G) (cA : Nat → ClassId) (s0 : State) (z : Nat) (b : Nat) (ν : Mm) (hG : xG l D cA s0) (o : Nat) (a1 : Int32) (a2 : Int32) (a3 : Int32) (r : Int32) (hF : g_X5_callsBefore ν o a1 a2 a3 = some r) : Met l yX5_callsBefore (wsG yX5_callsBefore cX5_callsBefore 9 (some (FieldType.int))) { frames := 0, cells := 0, slots := 0, locals := 0 } (xP D cA s0 [.ref (b + o), .int a1, .int a2, .int a3] (WC D cA s0 z b ν)) (xQr (some (.int r))) 0 0 xN := by
  refine x_start (own := RX5) [(0, .ref (b + o)), (1, .int a1), (2, .int a2), (3, .int a3)] rfl rfl (by decide) (nb rfl) ?_
  intro p e s m args below meth c C hw
  obtain ⟨hpo, hF⟩ := asr_e hF
  have h_L17 : ∀ (n : Nat) (x5 : Int32) (x6 : Int32), g_X5_callsBefore_L17 ν o a1 a2 a3 n x5 x6 = some r → xW p l e { frames := 0, cells := 0, slots := 0, locals := 0 } s m args below meth c 9 (MQ below (xQr (some (.int r))) args s 0 0 xN) s.heap [] 0 0 17 [(0, .ref (b + o)), (1, .int a1), (2, .int a2), (3, .int a3), (4, .int ((a2 / (360 : Int32)) * (360 : Int32))), (5, .int x5), (6, .int x6)] [] := by
    intro n
    induction n with
    | zero =>
      intro x5 x6 hF
      exact no_some hF
    | succ n ih =>
      intro x5 x6 hF
      have ih17 := ih
      refine x_iload C dX5_callsBefore_17 rfl ?_
      refine x_aload_n C dX5_callsBefore_19 rfl ?_
      refine x_get (.int (ν.1 o 6)) C fl_X5_50 (C_Led hpo hw) rfl dX5_callsBefore_20 ?_
      refine x_icmp_ge 107 C dX5_callsBefore_23 (by decide) (fun c1 => ?_) (fun c1 => ?_)
      · have hF := ite_t hF c1
        refine x_iload C dX5_callsBefore_107 rfl ?_
        exact x_iretR C rfl dX5_callsBefore_109  (r_i hF)
      · have hF := ite_f hF c1
        refine x_aload_n C dX5_callsBefore_26 rfl ?_
        refine x_get (.ref (b + (o + 2))) C fl_X5_19 (C_Led hpo hw) rfl dX5_callsBefore_27 ?_
        refine x_iload C dX5_callsBefore_30 rfl ?_
        obtain ⟨h2, hF⟩ := asr_e hF
        obtain ⟨hn3, hl4⟩ := vpn h2 (by decide)
        refine x_aald 4 C (C_calls hpo hw) rfl hn3 hl4 (by decide) rfl dX5_callsBefore_32 ?_
        refine x_astore [(7, .ref (b + (o + (22 + (cl x6))))), (0, .ref (b + o)), (1, .int a1), (2, .int a2), (3, .int a3), (4, .int ((a2 / (360 : Int32)) * (360 : Int32))), (5, .int x5), (6, .int x6)] C dX5_callsBefore_33 (by decide) rfl ?_
        refine x_aload C dX5_callsBefore_35 rfl ?_
        refine x_get (.int (ν.1 (o + (22 + (cl x6))) 1)) C fl_X5_102 (C_Cal (mk_Cal hpo hl4) hw) rfl dX5_callsBefore_37 ?_
        refine x_iload_n C dX5_callsBefore_40 rfl ?_
        refine x_icmp_lt 59 C dX5_callsBefore_41 (by decide) (fun c5 => ?_) (fun c5 => ?_)
        · have hF := ite_t hF c5
          refine x_iconst (1 : Int32) C dX5_callsBefore_59 rfl ?_
          refine x_goto 64 C dX5_callsBefore_60 (by decide) ?_
          refine x_istore [(8, .int (1 : Int32)), (7, .ref (b + (o + (22 + (cl x6))))), (0, .ref (b + o)), (1, .int a1), (2, .int a2), (3, .int a3), (4, .int ((a2 / (360 : Int32)) * (360 : Int32))), (5, .int x5), (6, .int x6)] C dX5_callsBefore_64 (by decide) rfl ?_
          refine x_aload C dX5_callsBefore_66 rfl ?_
          refine x_get (.int (ν.1 (o + (22 + (cl x6))) 0)) C fl_X5_99 (C_Cal (mk_Cal hpo hl4) hw) rfl dX5_callsBefore_68 ?_
          refine x_iload_n C dX5_callsBefore_71 rfl ?_
          refine x_icmp_ne 101 C dX5_callsBefore_72 (by decide) (fun c6 => ?_) (fun c6 => ?_)
          · have hF := ite_f hF c6
            refine x_iinc (x6 + (1 : Int32)) [(6, .int (x6 + (1 : Int32))), (8, .int (1 : Int32)), (7, .ref (b + (o + (22 + (cl x6))))), (0, .ref (b + o)), (1, .int a1), (2, .int a2), (3, .int a3), (4, .int ((a2 / (360 : Int32)) * (360 : Int32))), (5, .int x5)] C dX5_callsBefore_101 rfl rfl (by decide) rfl ?_
            refine x_goto 17 C dX5_callsBefore_104 (by decide) ?_
            refine x_sub [(0, .ref (b + o)), (1, .int a1), (2, .int a2), (3, .int a3), (4, .int ((a2 / (360 : Int32)) * (360 : Int32))), (5, .int x5), (6, .int (x6 + (1 : Int32)))] [3, 4, 5, 6, 7, 8, 0] rfl ?_
            exact ih17 x5 (x6 + (1 : Int32)) hF
          · have hF := ite_t hF c6
            refine x_aload C dX5_callsBefore_75 rfl ?_
            refine x_get (.int (ν.1 (o + (22 + (cl x6))) 4)) C fl_X5_111 (C_Cal (mk_Cal hpo hl4) hw) rfl dX5_callsBefore_77 ?_
            refine x_if_ne 101 C dX5_callsBefore_80 (by decide) (fun c7 => ?_) (fun c7 => ?_)
            · have hF := ite_f hF c7
              refine x_iinc (x6 + (1 : Int32)) [(6, .int (x6 + (1 : Int32))), (8, .int (1 : Int32)), (7, .ref (b + (o + (22 + (cl x6))))), (0, .ref (b + o)), (1, .int a1), (2, .int a2), (3, .int a3), (4, .int ((a2 / (360 : Int32)) * (360 : Int32))), (5, .int x5)] C dX5_callsBefore_101 rfl rfl (by decide) rfl ?_
              refine x_goto 17 C dX5_callsBefore_104 (by decide) ?_
              refine x_sub [(0, .ref (b + o)), (1, .int a1), (2, .int a2), (3, .int a3), (4, .int ((a2 / (360 : Int32)) * (360 : Int32))), (5, .int x5), (6, .int (x6 + (1 : Int32)))] [3, 4, 5, 6, 7, 8, 0] rfl ?_
              exact ih17 x5 (x6 + (1 : Int32)) hF
            · have hF := ite_t hF c7
              refine x_iload C dX5_callsBefore_83 rfl ?_
              refine x_if_eq 101 C dX5_callsBefore_85 (by decide) (fun z => absurd z (by decide)) (fun _ => ?_)
              refine x_aload C dX5_callsBefore_88 rfl ?_
              refine x_get (.int (ν.1 (o + (22 + (cl x6))) 1)) C fl_X5_102 (C_Cal (mk_Cal hpo hl4) hw) rfl dX5_callsBefore_90 ?_
              refine x_iload C dX5_callsBefore_93 rfl ?_
              refine x_icmp_lt 101 C dX5_callsBefore_95 (by decide) (fun c8 => ?_) (fun c8 => ?_)
              · have hF := ite_t hF c8
                refine x_iinc (x6 + (1 : Int32)) [(6, .int (x6 + (1 : Int32))), (8, .int (1 : Int32)), (7, .ref (b + (o + (22 + (cl x6))))), (0, .ref (b + o)), (1, .int a1), (2, .int a2), (3, .int a3), (4, .int ((a2 / (360 : Int32)) * (360 : Int32))), (5, .int x5)] C dX5_callsBefore_101 rfl rfl (by decide) rfl ?_
                refine x_goto 17 C dX5_callsBefore_104 (by decide) ?_
                refine x_sub [(0, .ref (b + o)), (1, .int a1), (2, .int a2), (3, .int a3), (4, .int ((a2 / (360 : Int32)) * (360 : Int32))), (5, .int x5), (6, .int (x6 + (1 : Int32)))] [3, 4, 5, 6, 7, 8, 0] rfl ?_
                exact ih17 x5 (x6 + (1 : Int32)) hF
              · have hF := ite_f hF c8
                refine x_iinc (x5 + (1 : Int32)) [(5, .int (x5 + (1 : Int32))), (8, .int (1 : Int32)), (7, .ref (b + (o + (22 + (cl x6))))), (0, .ref (b + o)), (1, .int a1), (2, .int a2), (3, .int a3), (4, .int ((a2 / (360 : Int32)) * (360 : Int32))), (6, .int x6)] C dX5_callsBefore_98 rfl rfl (by decide) rfl ?_
                refine x_iinc (x6 + (1 : Int32)) [(6, .int (x6 + (1 : Int32))), (5, .int (x5 + (1 : Int32))), (8, .int (1 : Int32)), (7, .ref (b + (o + (22 + (cl x6))))), (0, .ref (b + o)), (1, .int a1), (2, .int a2), (3, .int a3), (4, .int ((a2 / (360 : Int32)) * (360 : Int32)))] C dX5_callsBefore_101 rfl rfl (by decide) rfl ?_
                refine x_goto 17 C dX5_callsBefore_104 (by decide) ?_
                refine x_sub [(0, .ref (b + o)), (1, .int a1), (2, .int a2), (3, .int a3), (4, .int ((a2 / (360 : Int32)) * (360 : Int32))), (5, .int (x5 + (1 : Int32))), (6, .int (x6 + (1 : Int32)))] [4, 5, 6, 7, 8, 1, 0] rfl ?_
                exact ih17 (x5 + (1 : Int32)) (x6 + (1 : Int32)) hF
        · have hF := ite_f hF c5
          refine x_aload C dX5_callsBefore_44 rfl ?_
          refine x_get (.int (ν.1 (o + (22 + (cl x6))) 1)) C fl_X5_102 (C_Cal (mk_Cal hpo hl4) hw) rfl dX5_callsBefore_46 ?_
          refine x_iload_n C dX5_callsBefore_49 rfl ?_
          refine x_icmp_ne 63 C dX5_callsBefore_50 (by decide) (fun c9 => ?_) (fun c9 => ?_)
          · have hF := ite_f hF c9
            refine x_iconst (0 : Int32) C dX5_callsBefore_63 rfl ?_
            refine x_istore [(8, .int (0 : Int32)), (7, .ref (b + (o + (22 + (cl x6))))), (0, .ref (b + o)), (1, .int a1), (2, .int a2), (3, .int a3), (4, .int ((a2 / (360 : Int32)) * (360 : Int32))), (5, .int x5), (6, .int x6)] C dX5_callsBefore_64 (by decide) rfl ?_
            refine x_aload C dX5_callsBefore_66 rfl ?_
            refine x_get (.int (ν.1 (o + (22 + (cl x6))) 0)) C fl_X5_99 (C_Cal (mk_Cal hpo hl4) hw) rfl dX5_callsBefore_68 ?_
            refine x_iload_n C dX5_callsBefore_71 rfl ?_
            refine x_icmp_ne 101 C dX5_callsBefore_72 (by decide) (fun c10 => ?_) (fun c10 => ?_)
            · have hF := ite_f hF c10
              refine x_iinc (x6 + (1 : Int32)) [(6, .int (x6 + (1 : Int32))), (8, .int (0 : Int32)), (7, .ref (b + (o + (22 + (cl x6))))), (0, .ref (b + o)), (1, .int a1), (2, .int a2), (3, .int a3), (4, .int ((a2 / (360 : Int32)) * (360 : Int32))), (5, .int x5)] C dX5_callsBefore_101 rfl rfl (by decide) rfl ?_
              refine x_goto 17 C dX5_callsBefore_104 (by decide) ?_
              refine x_sub [(0, .ref (b + o)), (1, .int a1), (2, .int a2), (3, .int a3), (4, .int ((a2 / (360 : Int32)) * (360 : Int32))), (5, .int x5), (6, .int (x6 + (1 : Int32)))] [3, 4, 5, 6, 7, 8, 0] rfl ?_
              exact ih17 x5 (x6 + (1 : Int32)) hF
            · have hF := ite_t hF c10
              refine x_aload C dX5_callsBefore_75 rfl ?_
              refine x_get (.int (ν.1 (o + (22 + (cl x6))) 4)) C fl_X5_111 (C_Cal (mk_Cal hpo hl4) hw) rfl dX5_callsBefore_77 ?_
              refine x_if_ne 101 C dX5_callsBefore_80 (by decide) (fun c11 => ?_) (fun c11 => ?_)
              · have hF := ite_f hF c11
                refine x_iinc (x6 + (1 : Int32)) [(6, .int (x6 + (1 : Int32))), (8, .int (0 : Int32)), (7, .ref (b + (o + (22 + (cl x6))))), (0, .ref (b + o)), (1, .int a1), (2, .int a2), (3, .int a3), (4, .int ((a2 / (360 : Int32)) * (360 : Int32))), (5, .int x5)] C dX5_callsBefore_101 rfl rfl (by decide) rfl ?_
                refine x_goto 17 C dX5_callsBefore_104 (by decide) ?_
                refine x_sub [(0, .ref (b + o)), (1, .int a1), (2, .int a2), (3, .int a3), (4, .int ((a2 / (360 : Int32)) * (360 : Int32))), (5, .int x5), (6, .int (x6 + (1 : Int32)))] [3, 4, 5, 6, 7, 8, 0] rfl ?_
                exact ih17 x5 (x6 + (1 : Int32)) hF
              · have hF := ite_t hF c11
                refine x_iload C dX5_callsBefore_83 rfl ?_
                refine x_if_eq 101 C dX5_callsBefore_85 (by decide) (fun _ => ?_) (fun z => absurd z (by decide))
                refine x_iinc (x6 + (1 : Int32)) [(6, .int (x6 + (1 : Int32))), (8, .int (0 : Int32)), (7, .ref (b + (o + (22 + (cl x6))))), (0, .ref (b + o)), (1, .int a1), (2, .int a2), (3, .int a3), (4, .int ((a2 / (360 : Int32)) * (360 : Int32))), (5, .int x5)] C dX5_callsBefore_101 rfl rfl (by decide) rfl ?_
                refine x_goto 17 C dX5_callsBefore_104 (by decide) ?_
                refine x_sub [(0, .ref (b + o)), (1, .int a1), (2, .int a2), (3, .int a3), (4, .int ((a2 / (360 : Int32)) * (360 : Int32))), (5, .int x5), (6, .int (x6 + (1 : Int32)))] [3, 4, 5, 6, 7, 8, 0] rfl ?_
                exact ih17 x5 (x6 + (1 : Int32)) hF
          · have hF := ite_t hF c9
            refine x_iload C dX5_callsBefore_53 rfl ?_
            refine x_iload_n C dX5_callsBefore_55 rfl ?_
            refine x_icmp_ge 63 C dX5_callsBefore_56 (by decide) (fun c12 => ?_) (fun c12 => ?_)
            · have hF := ite_t hF c12
              refine x_iconst (0 : Int32) C dX5_callsBefore_63 rfl ?_
              refine x_istore [(8, .int (0 : Int32)), (7, .ref (b + (o + (22 + (cl x6))))), (0, .ref (b + o)), (1, .int a1), (2, .int a2), (3, .int a3), (4, .int ((a2 / (360 : Int32)) * (360 : Int32))), (5, .int x5), (6, .int x6)] C dX5_callsBefore_64 (by decide) rfl ?_
              refine x_aload C dX5_callsBefore_66 rfl ?_
              refine x_get (.int (ν.1 (o + (22 + (cl x6))) 0)) C fl_X5_99 (C_Cal (mk_Cal hpo hl4) hw) rfl dX5_callsBefore_68 ?_
              refine x_iload_n C dX5_callsBefore_71 rfl ?_
              refine x_icmp_ne 101 C dX5_callsBefore_72 (by decide) (fun c13 => ?_) (fun c13 => ?_)
              · have hF := ite_f hF c13
                refine x_iinc (x6 + (1 : Int32)) [(6, .int (x6 + (1 : Int32))), (8, .int (0 : Int32)), (7, .ref (b + (o + (22 + (cl x6))))), (0, .ref (b + o)), (1, .int a1), (2, .int a2), (3, .int a3), (4, .int ((a2 / (360 : Int32)) * (360 : Int32))), (5, .int x5)] C dX5_callsBefore_101 rfl rfl (by decide) rfl ?_
                refine x_goto 17 C dX5_callsBefore_104 (by decide) ?_
                refine x_sub [(0, .ref (b + o)), (1, .int a1), (2, .int a2), (3, .int a3), (4, .int ((a2 / (360 : Int32)) * (360 : Int32))), (5, .int x5), (6, .int (x6 + (1 : Int32)))] [3, 4, 5, 6, 7, 8, 0] rfl ?_
                exact ih17 x5 (x6 + (1 : Int32)) hF
              · have hF := ite_t hF c13
                refine x_aload C dX5_callsBefore_75 rfl ?_
                refine x_get (.int (ν.1 (o + (22 + (cl x6))) 4)) C fl_X5_111 (C_Cal (mk_Cal hpo hl4) hw) rfl dX5_callsBefore_77 ?_
                refine x_if_ne 101 C dX5_callsBefore_80 (by decide) (fun c14 => ?_) (fun c14 => ?_)
                · have hF := ite_f hF c14
                  refine x_iinc (x6 + (1 : Int32)) [(6, .int (x6 + (1 : Int32))), (8, .int (0 : Int32)), (7, .ref (b + (o + (22 + (cl x6))))), (0, .ref (b + o)), (1, .int a1), (2, .int a2), (3, .int a3), (4, .int ((a2 / (360 : Int32)) * (360 : Int32))), (5, .int x5)] C dX5_callsBefore_101 rfl rfl (by decide) rfl ?_
                  refine x_goto 17 C dX5_callsBefore_104 (by decide) ?_
                  refine x_sub [(0, .ref (b + o)), (1, .int a1), (2, .int a2), (3, .int a3), (4, .int ((a2 / (360 : Int32)) * (360 : Int32))), (5, .int x5), (6, .int (x6 + (1 : Int32)))] [3, 4, 5, 6, 7, 8, 0] rfl ?_
                  exact ih17 x5 (x6 + (1 : Int32)) hF
                · have hF := ite_t hF c14
                  refine x_iload C dX5_callsBefore_83 rfl ?_
                  refine x_if_eq 101 C dX5_callsBefore_85 (by decide) (fun _ => ?_) (fun z => absurd z (by decide))
                  refine x_iinc (x6 + (1 : Int32)) [(6, .int (x6 + (1 : Int32))), (8, .int (0 : Int32)), (7, .ref (b + (o + (22 + (cl x6))))), (0, .ref (b + o)), (1, .int a1), (2, .int a2), (3, .int a3), (4, .int ((a2 / (360 : Int32)) * (360 : Int32))), (5, .int x5)] C dX5_callsBefore_101 rfl rfl (by decide) rfl ?_
                  refine x_goto 17 C dX5_callsBefore_104 (by decide) ?_
                  refine x_sub [(0, .ref (b + o)), (1, .int a1), (2, .int a2), (3, .int a3), (4, .int ((a2 / (360 : Int32)) * (360 : Int32))), (5, .int x5), (6, .int (x6 + (1 : Int32)))] [3, 4, 5, 6, 7, 8, 0] rfl ?_
                  exact ih17 x5 (x6 + (1 : Int32)) hF
            · have hF := ite_f hF c12
              refine x_iconst (1 : Int32) C dX5_callsBefore_59 rfl ?_
              refine x_goto 64 C dX5_callsBefore_60 (by decide) ?_
              refine x_istore [(8, .int (1 : Int32)), (7, .ref (b + (o + (22 + (cl x6))))), (0, .ref (b + o)), (1, .int a1), (2, .int a2), (3, .int a3), (4, .int ((a2 / (360 : Int32)) * (360 : Int32))), (5, .int x5), (6, .int x6)] C dX5_callsBefore_64 (by decide) rfl ?_
              refine x_aload C dX5_callsBefore_66 rfl ?_
              refine x_get (.int (ν.1 (o + (22 + (cl x6))) 0)) C fl_X5_99 (C_Cal (mk_Cal hpo hl4) hw) rfl dX5_callsBefore_68 ?_
              refine x_iload_n C dX5_callsBefore_71 rfl ?_
              refine x_icmp_ne 101 C dX5_callsBefore_72 (by decide) (fun c15 => ?_) (fun c15 => ?_)
              · have hF := ite_f hF c15
                refine x_iinc (x6 + (1 : Int32)) [(6, .int (x6 + (1 : Int32))), (8, .int (1 : Int32)), (7, .ref (b + (o + (22 + (cl x6))))), (0, .ref (b + o)), (1, .int a1), (2, .int a2), (3, .int a3), (4, .int ((a2 / (360 : Int32)) * (360 : Int32))), (5, .int x5)] C dX5_callsBefore_101 rfl rfl (by decide) rfl ?_
                refine x_goto 17 C dX5_callsBefore_104 (by decide) ?_
                refine x_sub [(0, .ref (b + o)), (1, .int a1), (2, .int a2), (3, .int a3), (4, .int ((a2 / (360 : Int32)) * (360 : Int32))), (5, .int x5), (6, .int (x6 + (1 : Int32)))] [3, 4, 5, 6, 7, 8, 0] rfl ?_
                exact ih17 x5 (x6 + (1 : Int32)) hF
              · have hF := ite_t hF c15
                refine x_aload C dX5_callsBefore_75 rfl ?_
                refine x_get (.int (ν.1 (o + (22 + (cl x6))) 4)) C fl_X5_111 (C_Cal (mk_Cal hpo hl4) hw) rfl dX5_callsBefore_77 ?_
                refine x_if_ne 101 C dX5_callsBefore_80 (by decide) (fun c16 => ?_) (fun c16 => ?_)
                · have hF := ite_f hF c16
                  refine x_iinc (x6 + (1 : Int32)) [(6, .int (x6 + (1 : Int32))), (8, .int (1 : Int32)), (7, .ref (b + (o + (22 + (cl x6))))), (0, .ref (b + o)), (1, .int a1), (2, .int a2), (3, .int a3), (4, .int ((a2 / (360 : Int32)) * (360 : Int32))), (5, .int x5)] C dX5_callsBefore_101 rfl rfl (by decide) rfl ?_
                  refine x_goto 17 C dX5_callsBefore_104 (by decide) ?_
                  refine x_sub [(0, .ref (b + o)), (1, .int a1), (2, .int a2), (3, .int a3), (4, .int ((a2 / (360 : Int32)) * (360 : Int32))), (5, .int x5), (6, .int (x6 + (1 : Int32)))] [3, 4, 5, 6, 7, 8, 0] rfl ?_
                  exact ih17 x5 (x6 + (1 : Int32)) hF
                · have hF := ite_t hF c16
                  refine x_iload C dX5_callsBefore_83 rfl ?_
                  refine x_if_eq 101 C dX5_callsBefore_85 (by decide) (fun z => absurd z (by decide)) (fun _ => ?_)
                  refine x_aload C dX5_callsBefore_88 rfl ?_
                  refine x_get (.int (ν.1 (o + (22 + (cl x6))) 1)) C fl_X5_102 (C_Cal (mk_Cal hpo hl4) hw) rfl dX5_callsBefore_90 ?_
                  refine x_iload C dX5_callsBefore_93 rfl ?_
                  refine x_icmp_lt 101 C dX5_callsBefore_95 (by decide) (fun c17 => ?_) (fun c17 => ?_)
                  · have hF := ite_t hF c17
                    refine x_iinc (x6 + (1 : Int32)) [(6, .int (x6 + (1 : Int32))), (8, .int (1 : Int32)), (7, .ref (b + (o + (22 + (cl x6))))), (0, .ref (b + o)), (1, .int a1), (2, .int a2), (3, .int a3), (4, .int ((a2 / (360 : Int32)) * (360 : Int32))), (5, .int x5)] C dX5_callsBefore_101 rfl rfl (by decide) rfl ?_
                    refine x_goto 17 C dX5_callsBefore_104 (by decide) ?_
                    refine x_sub [(0, .ref (b + o)), (1, .int a1), (2, .int a2), (3, .int a3), (4, .int ((a2 / (360 : Int32)) * (360 : Int32))), (5, .int x5), (6, .int (x6 + (1 : Int32)))] [3, 4, 5, 6, 7, 8, 0] rfl ?_
                    exact ih17 x5 (x6 + (1 : Int32)) hF
                  · have hF := ite_f hF c17
                    refine x_iinc (x5 + (1 : Int32)) [(5, .int (x5 + (1 : Int32))), (8, .int (1 : Int32)), (7, .ref (b + (o + (22 + (cl x6))))), (0, .ref (b + o)), (1, .int a1), (2, .int a2), (3, .int a3), (4, .int ((a2 / (360 : Int32)) * (360 : Int32))), (6, .int x6)] C dX5_callsBefore_98 rfl rfl (by decide) rfl ?_
                    refine x_iinc (x6 + (1 : Int32)) [(6, .int (x6 + (1 : Int32))), (5, .int (x5 + (1 : Int32))), (8, .int (1 : Int32)), (7, .ref (b + (o + (22 + (cl x6))))), (0, .ref (b + o)), (1, .int a1), (2, .int a2), (3, .int a3), (4, .int ((a2 / (360 : Int32)) * (360 : Int32)))] C dX5_callsBefore_101 rfl rfl (by decide) rfl ?_
                    refine x_goto 17 C dX5_callsBefore_104 (by decide) ?_
                    refine x_sub [(0, .ref (b + o)), (1, .int a1), (2, .int a2), (3, .int a3), (4, .int ((a2 / (360 : Int32)) * (360 : Int32))), (5, .int (x5 + (1 : Int32))), (6, .int (x6 + (1 : Int32)))] [4, 5, 6, 7, 8, 1, 0] rfl ?_
                    exact ih17 (x5 + (1 : Int32)) (x6 + (1 : Int32)) hF
  refine x_iload_n C dX5_callsBefore_0 rfl ?_
  refine x_sipush (360 : Int32) C dX5_callsBefore_1 rfl ?_
  refine x_idiv C dX5_callsBefore_4 (by decide) ?_
  refine x_sipush (360 : Int32) C dX5_callsBefore_5 rfl ?_
  refine x_imul C dX5_callsBefore_8 ?_
  refine x_istore [(4, .int ((a2 / (360 : Int32)) * (360 : Int32))), (0, .ref (b + o)), (1, .int a1), (2, .int a2), (3, .int a3)] C dX5_callsBefore_9 (by decide) rfl ?_
  refine x_iconst (0 : Int32) C dX5_callsBefore_11 rfl ?_
  refine x_istore [(5, .int (0 : Int32)), (4, .int ((a2 / (360 : Int32)) * (360 : Int32))), (0, .ref (b + o)), (1, .int a1), (2, .int a2), (3, .int a3)] C dX5_callsBefore_12 (by decide) rfl ?_
  refine x_iconst (0 : Int32) C dX5_callsBefore_14 rfl ?_
  refine x_istore [(6, .int (0 : Int32)), (5, .int (0 : Int32)), (4, .int ((a2 / (360 : Int32)) * (360 : Int32))), (0, .ref (b + o)), (1, .int a1), (2, .int a2), (3, .int a3)] C dX5_callsBefore_15 (by decide) rfl ?_
  refine x_sub [(0, .ref (b + o)), (1, .int a1), (2, .int a2), (3, .int a3), (4, .int ((a2 / (360 : Int32)) * (360 : Int32))), (5, .int (0 : Int32)), (6, .int (0 : Int32))] [3, 4, 5, 6, 2, 1, 0] rfl ?_
  exact h_L17 10000 (0 : Int32) (0 : Int32) hF
noncomputable def g_X5_rankOf (ν : Mm) (o : Nat) (a1 : Int32) : Option (Int32) := asr (isLed o) (asr (vp_in a1 40) ((if (ν.1 (o + (22 + (cl a1))) 4) = 0 then bnd (g_X5_callsBefore ν o (ν.1 (o + (22 + (cl a1))) 0) (ν.1 (o + (22 + (cl a1))) 1) a1) (fun q5 => some ((1 : Int32) + q5)) else some (0 : Int32))))
set_option maxRecDepth 20000 in
set_option maxHeartbeats 4000000 in
theorem k_X5_rankOf (l : Launch) (D : va_G) (cA : Nat → ClassId) (s0 : State) (z : Nat) (b : Nat) (ν : Mm) (hG : xG l D cA s0) (o : Nat) (a1 : Int32) (r : Int32) (hF : g_X5_rankOf ν o a1 = some r) : Met l yX5_rankOf (wsG yX5_rankOf cX5_rankOf 3 (some (FieldType.int))) { frames := 1, cells := 0, slots := 0, locals := 28 } (xP D cA s0 [.ref (b + o), .int a1] (WC D cA s0 z b ν)) (xQr (some (.int r))) 0 0 xN := by
  refine x_start (own := RX5) [(0, .ref (b + o)), (1, .int a1)] rfl rfl (by decide) (nb rfl) ?_
  intro p e s m args below meth c C hw
  obtain ⟨hpo, hF⟩ := asr_e hF
  refine x_aload_n C dX5_rankOf_0 rfl ?_
  refine x_get (.ref (b + (o + 2))) C fl_X5_19 (C_Led hpo hw) rfl dX5_rankOf_1 ?_
  refine x_iload_n C dX5_rankOf_4 rfl ?_
  obtain ⟨h1, hF⟩ := asr_e hF
  obtain ⟨hn2, hl3⟩ := vpn h1 (by decide)
  refine x_aald 4 C (C_calls hpo hw) rfl hn2 hl3 (by decide) rfl dX5_rankOf_5 ?_
  refine x_astore_n [(2, .ref (b + (o + (22 + (cl a1))))), (0, .ref (b + o)), (1, .int a1)] C dX5_rankOf_6 rfl (by decide) rfl ?_
  refine x_aload_n C dX5_rankOf_7 rfl ?_
  refine x_get (.int (ν.1 (o + (22 + (cl a1))) 4)) C fl_X5_111 (C_Cal (mk_Cal hpo hl3) hw) rfl dX5_rankOf_8 ?_
  refine x_if_eq 18 C dX5_rankOf_11 (by decide) (fun c4 => ?_) (fun c4 => ?_)
  · have hF := ite_t hF c4
    refine x_iconst (1 : Int32) C dX5_rankOf_18 rfl ?_
    refine x_aload_n C dX5_rankOf_19 rfl ?_
    refine x_aload_n C dX5_rankOf_20 rfl ?_
    refine x_get (.int (ν.1 (o + (22 + (cl a1))) 0)) C fl_X5_99 (C_Cal (mk_Cal hpo hl3) hw) rfl dX5_rankOf_21 ?_
    refine x_aload_n C dX5_rankOf_24 rfl ?_
    refine x_get (.int (ν.1 (o + (22 + (cl a1))) 1)) C fl_X5_102 (C_Cal (mk_Cal hpo hl3) hw) rfl dX5_rankOf_25 ?_
    refine x_iload_n C dX5_rankOf_28 rfl ?_
    obtain ⟨q5, hq6, hF⟩ := bnd_e hF
    refine x_goR (fun ls h => x_runV (As := [.int (ν.1 (o + (22 + (cl a1))) 0), .int (ν.1 (o + (22 + (cl a1))) 1), .int a1]) [.int (1 : Int32)] h C ml_X5_131 (k_X5_callsBefore l D cA s0 z b ν hG o (ν.1 (o + (22 + (cl a1))) 0) (ν.1 (o + (22 + (cl a1))) 1) a1 q5 hq6) ⟨rfl, rfl, nb rfl, nb rfl⟩ rfl (C_Led hpo hw) rfl hw (nb rfl) ⟨Nat.zero_le _, Nat.zero_le _⟩ dX5_rankOf_29) ?_
    refine x_iadd C dX5_rankOf_32 ?_
    exact x_iretR C rfl dX5_rankOf_33  (r_i hF)
  · have hF := ite_f hF c4
    refine x_iconst (0 : Int32) C dX5_rankOf_14 rfl ?_
    refine x_goto 33 C dX5_rankOf_15 (by decide) ?_
    exact x_iretR C rfl dX5_rankOf_33  (r_i hF)
noncomputable def g_X10_duesFor_L12 (ν : Mm) (o : Nat) (a1 : Int32) : Nat → Int32 → Int32 → Int32 → Option (Int32)
  | 0, _, _, _ => none
  | n + 1, x2, x3, x4 => (if x4 < 0 then some x2 else asr (vp_in x4 6) ((if a1 < (ν.1 (o + 1) (cl x4)) then (g_X10_duesFor_L12 ν o a1 n x2 x3 (x4 + (-1 : Int32))) else (if (ν.1 o 6) = 0 then (g_X10_duesFor_L12 ν o a1 n (x2 + ((ν.1 (o + 2) (cl x4)) * (x3 - (ν.1 (o + 1) (cl x4))))) (ν.1 (o + 1) (cl x4)) (x4 + (-1 : Int32))) else some ((ν.1 (o + 2) (cl x4)) * a1)))))
noncomputable def g_X10_duesFor (ν : Mm) (o : Nat) (a1 : Int32) : Option (Int32) := asr (isTar o) ((g_X10_duesFor_L12 ν o a1 10000 (0 : Int32) a1 ((ν.1 o 4) - (1 : Int32))))
set_option maxRecDepth 20000 in
set_option maxHeartbeats 4000000 in
theorem k_X10_duesFor (l : Launch) (D : va_G) (cA : Nat → ClassId) (s0 : State) (z : Nat) (b : Nat) (ν : Mm) (hG : xG l D cA s0) (o : Nat) (a1 : Int32) (r : Int32) (hF : g_X10_duesFor ν o a1 = some r) : Met l yX10_duesFor (wsG yX10_duesFor cX10_duesFor 5 (some (FieldType.int))) { frames := 0, cells := 0, slots := 0, locals := 0 } (xP D cA s0 [.ref (b + o), .int a1] (WC D cA s0 z b ν)) (xQr (some (.int r))) 0 0 xN := by
  refine x_start (own := RX10) [(0, .ref (b + o)), (1, .int a1)] rfl rfl (by decide) (nb rfl) ?_
  intro p e s m args below meth c C hw
  obtain ⟨hpo, hF⟩ := asr_e hF
  have h_L12 : ∀ (n : Nat) (x2 : Int32) (x3 : Int32) (x4 : Int32), g_X10_duesFor_L12 ν o a1 n x2 x3 x4 = some r → xW p l e { frames := 0, cells := 0, slots := 0, locals := 0 } s m args below meth c 5 (MQ below (xQr (some (.int r))) args s 0 0 xN) s.heap [] 0 0 12 [(0, .ref (b + o)), (1, .int a1), (2, .int x2), (3, .int x3), (4, .int x4)] [] := by
    intro n
    induction n with
    | zero =>
      intro x2 x3 x4 hF
      exact no_some hF
    | succ n ih =>
      intro x2 x3 x4 hF
      have ih12 := ih
      refine x_iload C dX10_duesFor_12 rfl ?_
      refine x_if_lt 79 C dX10_duesFor_14 (by decide) (fun c1 => ?_) (fun c1 => ?_)
      · have hF := ite_t hF c1
        refine x_iload_n C dX10_duesFor_79 rfl ?_
        exact x_iretR C rfl dX10_duesFor_80  (r_i hF)
      · have hF := ite_f hF c1
        refine x_aload_n C dX10_duesFor_17 rfl ?_
        refine x_get (.ref (b + (o + 1))) C fl_X10_9 (C_Tar hpo hw) rfl dX10_duesFor_18 ?_
        refine x_iload C dX10_duesFor_21 rfl ?_
        obtain ⟨h2, hF⟩ := asr_e hF
        obtain ⟨hn3, hl4⟩ := vpn h2 (by decide)
        refine x_ialdN C (C_bandFrom hpo hw) hn3 hl4 (by decide) dX10_duesFor_23 ?_
        refine x_iload_n C dX10_duesFor_24 rfl ?_
        refine x_icmp_gt 73 C dX10_duesFor_25 (by decide) (fun c5 => ?_) (fun c5 => ?_)
        · have hF := ite_t hF c5
          refine x_iinc (x4 + (-1 : Int32)) [(4, .int (x4 + (-1 : Int32))), (0, .ref (b + o)), (1, .int a1), (2, .int x2), (3, .int x3)] C dX10_duesFor_73 rfl rfl (by decide) rfl ?_
          refine x_goto 12 C dX10_duesFor_76 (by decide) ?_
          refine x_sub [(0, .ref (b + o)), (1, .int a1), (2, .int x2), (3, .int x3), (4, .int (x4 + (-1 : Int32)))] [1, 2, 3, 4, 0] rfl ?_
          exact ih12 x2 x3 (x4 + (-1 : Int32)) hF
        · have hF := ite_f hF c5
          refine x_aload_n C dX10_duesFor_28 rfl ?_
          refine x_get (.int (ν.1 o 6)) C fl_X10_34 (C_Tar hpo hw) rfl dX10_duesFor_29 ?_
          refine x_if_eq 45 C dX10_duesFor_32 (by decide) (fun c6 => ?_) (fun c6 => ?_)
          · have hF := ite_t hF c6
            refine x_iload_n C dX10_duesFor_45 rfl ?_
            refine x_aload_n C dX10_duesFor_46 rfl ?_
            refine x_get (.ref (b + (o + 2))) C fl_X10_15 (C_Tar hpo hw) rfl dX10_duesFor_47 ?_
            refine x_iload C dX10_duesFor_50 rfl ?_
            refine x_ialdN C (C_bandRate hpo hw) hn3 hl4 (by decide) dX10_duesFor_52 ?_
            refine x_iload_n C dX10_duesFor_53 rfl ?_
            refine x_aload_n C dX10_duesFor_54 rfl ?_
            refine x_get (.ref (b + (o + 1))) C fl_X10_9 (C_Tar hpo hw) rfl dX10_duesFor_55 ?_
            refine x_iload C dX10_duesFor_58 rfl ?_
            refine x_ialdN C (C_bandFrom hpo hw) hn3 hl4 (by decide) dX10_duesFor_60 ?_
            refine x_isub C dX10_duesFor_61 ?_
            refine x_imul C dX10_duesFor_62 ?_
            refine x_iadd C dX10_duesFor_63 ?_
            refine x_istore_n [(2, .int (x2 + ((ν.1 (o + 2) (cl x4)) * (x3 - (ν.1 (o + 1) (cl x4)))))), (0, .ref (b + o)), (1, .int a1), (3, .int x3), (4, .int x4)] C dX10_duesFor_64 rfl (by decide) rfl ?_
            refine x_aload_n C dX10_duesFor_65 rfl ?_
            refine x_get (.ref (b + (o + 1))) C fl_X10_9 (C_Tar hpo hw) rfl dX10_duesFor_66 ?_
            refine x_iload C dX10_duesFor_69 rfl ?_
            refine x_ialdN C (C_bandFrom hpo hw) hn3 hl4 (by decide) dX10_duesFor_71 ?_
            refine x_istore_n [(3, .int (ν.1 (o + 1) (cl x4))), (2, .int (x2 + ((ν.1 (o + 2) (cl x4)) * (x3 - (ν.1 (o + 1) (cl x4)))))), (0, .ref (b + o)), (1, .int a1), (4, .int x4)] C dX10_duesFor_72 rfl (by decide) rfl ?_
            refine x_iinc (x4 + (-1 : Int32)) [(4, .int (x4 + (-1 : Int32))), (3, .int (ν.1 (o + 1) (cl x4))), (2, .int (x2 + ((ν.1 (o + 2) (cl x4)) * (x3 - (ν.1 (o + 1) (cl x4)))))), (0, .ref (b + o)), (1, .int a1)] C dX10_duesFor_73 rfl rfl (by decide) rfl ?_
            refine x_goto 12 C dX10_duesFor_76 (by decide) ?_
            refine x_sub [(0, .ref (b + o)), (1, .int a1), (2, .int (x2 + ((ν.1 (o + 2) (cl x4)) * (x3 - (ν.1 (o + 1) (cl x4)))))), (3, .int (ν.1 (o + 1) (cl x4))), (4, .int (x4 + (-1 : Int32)))] [3, 4, 2, 1, 0] rfl ?_
            exact ih12 (x2 + ((ν.1 (o + 2) (cl x4)) * (x3 - (ν.1 (o + 1) (cl x4))))) (ν.1 (o + 1) (cl x4)) (x4 + (-1 : Int32)) hF
          · have hF := ite_f hF c6
            refine x_aload_n C dX10_duesFor_35 rfl ?_
            refine x_get (.ref (b + (o + 2))) C fl_X10_15 (C_Tar hpo hw) rfl dX10_duesFor_36 ?_
            refine x_iload C dX10_duesFor_39 rfl ?_
            refine x_ialdN C (C_bandRate hpo hw) hn3 hl4 (by decide) dX10_duesFor_41 ?_
            refine x_iload_n C dX10_duesFor_42 rfl ?_
            refine x_imul C dX10_duesFor_43 ?_
            exact x_iretR C rfl dX10_duesFor_44  (r_i hF)
  refine x_iconst (0 : Int32) C dX10_duesFor_0 rfl ?_
  refine x_istore_n [(2, .int (0 : Int32)), (0, .ref (b + o)), (1, .int a1)] C dX10_duesFor_1 rfl (by decide) rfl ?_
  refine x_iload_n C dX10_duesFor_2 rfl ?_
  refine x_istore_n [(3, .int a1), (2, .int (0 : Int32)), (0, .ref (b + o)), (1, .int a1)] C dX10_duesFor_3 rfl (by decide) rfl ?_
  refine x_aload_n C dX10_duesFor_4 rfl ?_
  refine x_get (.int (ν.1 o 4)) C fl_X10_28 (C_Tar hpo hw) rfl dX10_duesFor_5 ?_
  refine x_iconst (1 : Int32) C dX10_duesFor_8 rfl ?_
  refine x_isub C dX10_duesFor_9 ?_
  refine x_istore [(4, .int ((ν.1 o 4) - (1 : Int32))), (3, .int a1), (2, .int (0 : Int32)), (0, .ref (b + o)), (1, .int a1)] C dX10_duesFor_10 (by decide) rfl ?_
  refine x_sub [(0, .ref (b + o)), (1, .int a1), (2, .int (0 : Int32)), (3, .int a1), (4, .int ((ν.1 o 4) - (1 : Int32)))] [3, 4, 2, 1, 0] rfl ?_
  exact h_L12 10000 (0 : Int32) a1 ((ν.1 o 4) - (1 : Int32)) hF
noncomputable def g_X10_percentAt_L7 (ν : Mm) (o : Nat) (a1 : Int32) : Nat → Int32 → Option (Int32)
  | 0, _ => none
  | n + 1, x2 => (if x2 < 0 then some (0 : Int32) else asr (vp_in x2 4) ((if a1 < (ν.1 (o + 3) (cl x2)) then (g_X10_percentAt_L7 ν o a1 n (x2 + (-1 : Int32))) else some (ν.1 (o + 4) (cl x2)))))
noncomputable def g_X10_percentAt (ν : Mm) (o : Nat) (a1 : Int32) : Option (Int32) := asr (isTar o) ((g_X10_percentAt_L7 ν o a1 10000 ((ν.1 o 5) - (1 : Int32))))
set_option maxRecDepth 20000 in
set_option maxHeartbeats 4000000 in
theorem k_X10_percentAt (l : Launch) (D : va_G) (cA : Nat → ClassId) (s0 : State) (z : Nat) (b : Nat) (ν : Mm) (hG : xG l D cA s0) (o : Nat) (a1 : Int32) (r : Int32) (hF : g_X10_percentAt ν o a1 = some r) : Met l yX10_percentAt (wsG yX10_percentAt cX10_percentAt 3 (some (FieldType.int))) { frames := 0, cells := 0, slots := 0, locals := 0 } (xP D cA s0 [.ref (b + o), .int a1] (WC D cA s0 z b ν)) (xQr (some (.int r))) 0 0 xN := by
  refine x_start (own := RX10) [(0, .ref (b + o)), (1, .int a1)] rfl rfl (by decide) (nb rfl) ?_
  intro p e s m args below meth c C hw
  obtain ⟨hpo, hF⟩ := asr_e hF
  have h_L7 : ∀ (n : Nat) (x2 : Int32), g_X10_percentAt_L7 ν o a1 n x2 = some r → xW p l e { frames := 0, cells := 0, slots := 0, locals := 0 } s m args below meth c 3 (MQ below (xQr (some (.int r))) args s 0 0 xN) s.heap [] 0 0 7 [(0, .ref (b + o)), (1, .int a1), (2, .int x2)] [] := by
    intro n
    induction n with
    | zero =>
      intro x2 hF
      exact no_some hF
    | succ n ih =>
      intro x2 hF
      have ih7 := ih
      refine x_iload_n C dX10_percentAt_7 rfl ?_
      refine x_if_lt 34 C dX10_percentAt_8 (by decide) (fun c1 => ?_) (fun c1 => ?_)
      · have hF := ite_t hF c1
        refine x_iconst (0 : Int32) C dX10_percentAt_34 rfl ?_
        exact x_iretR C rfl dX10_percentAt_35  (r_i hF)
      · have hF := ite_f hF c1
        refine x_aload_n C dX10_percentAt_11 rfl ?_
        refine x_get (.ref (b + (o + 3))) C fl_X10_18 (C_Tar hpo hw) rfl dX10_percentAt_12 ?_
        refine x_iload_n C dX10_percentAt_15 rfl ?_
        obtain ⟨h2, hF⟩ := asr_e hF
        obtain ⟨hn3, hl4⟩ := vpn h2 (by decide)
        refine x_ialdN C (C_rebateFrom hpo hw) hn3 hl4 (by decide) dX10_percentAt_16 ?_
        refine x_iload_n C dX10_percentAt_17 rfl ?_
        refine x_icmp_gt 28 C dX10_percentAt_18 (by decide) (fun c5 => ?_) (fun c5 => ?_)
        · have hF := ite_t hF c5
          refine x_iinc (x2 + (-1 : Int32)) [(2, .int (x2 + (-1 : Int32))), (0, .ref (b + o)), (1, .int a1)] C dX10_percentAt_28 rfl rfl (by decide) rfl ?_
          refine x_goto 7 C dX10_percentAt_31 (by decide) ?_
          refine x_sub [(0, .ref (b + o)), (1, .int a1), (2, .int (x2 + (-1 : Int32)))] [1, 2, 0] rfl ?_
          exact ih7 (x2 + (-1 : Int32)) hF
        · have hF := ite_f hF c5
          refine x_aload_n C dX10_percentAt_21 rfl ?_
          refine x_get (.ref (b + (o + 4))) C fl_X10_21 (C_Tar hpo hw) rfl dX10_percentAt_22 ?_
          refine x_iload_n C dX10_percentAt_25 rfl ?_
          refine x_ialdN C (C_rebatePercent hpo hw) hn3 hl4 (by decide) dX10_percentAt_26 ?_
          exact x_iretR C rfl dX10_percentAt_27  (r_i hF)
  refine x_aload_n C dX10_percentAt_0 rfl ?_
  refine x_get (.int (ν.1 o 5)) C fl_X10_31 (C_Tar hpo hw) rfl dX10_percentAt_1 ?_
  refine x_iconst (1 : Int32) C dX10_percentAt_4 rfl ?_
  refine x_isub C dX10_percentAt_5 ?_
  refine x_istore_n [(2, .int ((ν.1 o 5) - (1 : Int32))), (0, .ref (b + o)), (1, .int a1)] C dX10_percentAt_6 rfl (by decide) rfl ?_
  refine x_sub [(0, .ref (b + o)), (1, .int a1), (2, .int ((ν.1 o 5) - (1 : Int32)))] [1, 2, 0] rfl ?_
  exact h_L7 10000 ((ν.1 o 5) - (1 : Int32)) hF
noncomputable def g_X10_rebateFor (ν : Mm) (o : Nat) (a1 : Int32) (a2 : Int32) : Option (Int32) := asr (isTar o) (bnd (g_X10_duesFor ν o a1) (fun q1 => bnd (g_X10_percentAt ν o a2) (fun q3 => some (-((q1 * q3) / (100 : Int32))))))
set_option maxRecDepth 20000 in
set_option maxHeartbeats 4000000 in
theorem k_X10_rebateFor (l : Launch) (D : va_G) (cA : Nat → ClassId) (s0 : State) (z : Nat) (b : Nat) (ν : Mm) (hG : xG l D cA s0) (o : Nat) (a1 : Int32) (a2 : Int32) (r : Int32) (hF : g_X10_rebateFor ν o a1 a2 = some r) : Met l yX10_rebateFor (wsG yX10_rebateFor cX10_rebateFor 3 (some (FieldType.int))) { frames := 1, cells := 0, slots := 0, locals := 24 } (xP D cA s0 [.ref (b + o), .int a1, .int a2] (WC D cA s0 z b ν)) (xQr (some (.int r))) 0 0 xN := by
  refine x_start (own := RX10) [(0, .ref (b + o)), (1, .int a1), (2, .int a2)] rfl rfl (by decide) (nb rfl) ?_
  intro p e s m args below meth c C hw
  obtain ⟨hpo, hF⟩ := asr_e hF
  refine x_aload_n C dX10_rebateFor_0 rfl ?_
  refine x_iload_n C dX10_rebateFor_1 rfl ?_
  obtain ⟨q1, hq2, hF⟩ := bnd_e hF
  refine x_goR (fun ls h => x_runV (As := [.int a1]) [] h C ml_X10_65 (k_X10_duesFor l D cA s0 z b ν hG o a1 q1 hq2) ⟨rfl, rfl, nb rfl, nb rfl⟩ rfl (C_Tar hpo hw) rfl hw (nb rfl) ⟨Nat.zero_le _, Nat.zero_le _⟩ dX10_rebateFor_2) ?_
  refine x_aload_n C dX10_rebateFor_5 rfl ?_
  refine x_iload_n C dX10_rebateFor_6 rfl ?_
  obtain ⟨q3, hq4, hF⟩ := bnd_e hF
  refine x_goR (fun ls h => x_runV (As := [.int a2]) [.int q1] h C ml_X10_69 (k_X10_percentAt l D cA s0 z b ν hG o a2 q3 hq4) ⟨rfl, rfl, nb rfl, nb rfl⟩ rfl (C_Tar hpo hw) rfl hw (nb rfl) ⟨Nat.zero_le _, Nat.zero_le _⟩ dX10_rebateFor_7) ?_
  refine x_imul C dX10_rebateFor_10 ?_
  refine x_bipush (100 : Int32) C dX10_rebateFor_11 rfl ?_
  refine x_idiv C dX10_rebateFor_13 (by decide) ?_
  refine x_ineg C dX10_rebateFor_14 ?_
  exact x_iretR C rfl dX10_rebateFor_15  (r_i hF)
noncomputable def g_X10_wasteFeeFor (ν : Mm) (o : Nat) (a1 : Int32) : Option (Int32) := asr (isTar o) (some ((ν.1 o 7) + ((ν.1 o 9) * (imax (a1 - (ν.1 o 8)) (0 : Int32)))))
set_option maxRecDepth 20000 in
set_option maxHeartbeats 4000000 in
theorem k_X10_wasteFeeFor (l : Launch) (D : va_G) (cA : Nat → ClassId) (s0 : State) (z : Nat) (b : Nat) (ν : Mm) (hG : xG l D cA s0) (o : Nat) (a1 : Int32) (r : Int32) (hF : g_X10_wasteFeeFor ν o a1 = some r) : Met l yX10_wasteFeeFor (wsG yX10_wasteFeeFor cX10_wasteFeeFor 2 (some (FieldType.int))) { frames := 1, cells := 0, slots := 0, locals := 21 } (xP D cA s0 [.ref (b + o), .int a1] (WC D cA s0 z b ν)) (xQr (some (.int r))) 0 0 xN := by
  refine x_start (own := RX10) [(0, .ref (b + o)), (1, .int a1)] rfl rfl (by decide) (nb rfl) ?_
  intro p e s m args below meth c C hw
  obtain ⟨hpo, hF⟩ := asr_e hF
  refine x_aload_n C dX10_wasteFeeFor_0 rfl ?_
  refine x_get (.int (ν.1 o 7)) C fl_X10_38 (C_Tar hpo hw) rfl dX10_wasteFeeFor_1 ?_
  refine x_aload_n C dX10_wasteFeeFor_4 rfl ?_
  refine x_get (.int (ν.1 o 9)) C fl_X10_44 (C_Tar hpo hw) rfl dX10_wasteFeeFor_5 ?_
  refine x_iload_n C dX10_wasteFeeFor_8 rfl ?_
  refine x_aload_n C dX10_wasteFeeFor_9 rfl ?_
  refine x_get (.int (ν.1 o 8)) C fl_X10_41 (C_Tar hpo hw) rfl dX10_wasteFeeFor_10 ?_
  refine x_isub C dX10_wasteFeeFor_13 ?_
  refine x_iconst (0 : Int32) C dX10_wasteFeeFor_14 rfl ?_
  refine x_mmax C ml_X10_62 (nb rfl) (nb rfl) ⟨Nat.zero_le _, Nat.zero_le _⟩ dX10_wasteFeeFor_15 ?_
  refine x_imul C dX10_wasteFeeFor_18 ?_
  refine x_iadd C dX10_wasteFeeFor_19 ?_
  exact x_iretR C rfl dX10_wasteFeeFor_20  (r_i hF)
noncomputable def g_X5_lineAtRank (ν : Mm) (o : Nat) (a3 : Nat) (a1 : Int32) (a2 : Int32) (a4 : Int32) : Option (Int32) := asr (isLed o) (asr (isTar a3) (asr (vp_in a1 40) (asr (vp_in (ν.1 (o + (22 + (cl a1))) 0) 8) ((if a2 = 0 then bnd (g_X10_duesFor ν a3 (ν.1 (o + (6 + 2 * (cl (ν.1 (o + (22 + (cl a1))) 0)))) 2)) (fun q8 => some q8) else (if a2 = 1 then bnd (g_X10_rebateFor ν a3 (ν.1 (o + (6 + 2 * (cl (ν.1 (o + (22 + (cl a1))) 0)))) 2) a4) (fun q11 => some q11) else (if a2 = 2 then bnd (g_X10_wasteFeeFor ν a3 (ν.1 (o + (22 + (cl a1))) 3)) (fun q14 => some q14) else bnd (g_X2_days ν (o + (22 + (cl a1)))) (fun q16 => bnd (g_X10_laySet ν a3 q16) (fun q18 => bnd (g_X2_contestedDays ν (o + (22 + (cl a1)))) (fun q20 => bnd (g_J6_bitCount_0f7a4 (q18 &&& (q20 ^^^ (-1 : Int32)))) (fun q22 => some ((ν.1 a3 11) * q22))))))))))))
set_option maxRecDepth 20000 in
set_option maxHeartbeats 4000000 in
theorem k_X5_lineAtRank (l : Launch) (D : va_G) (cA : Nat → ClassId) (s0 : State) (z : Nat) (b : Nat) (ν : Mm) (hG : xG l D cA s0) (o : Nat) (a3 : Nat) (a1 : Int32) (a2 : Int32) (a4 : Int32) (r : Int32) (hF : g_X5_lineAtRank ν o a3 a1 a2 a4 = some r) : Met l yX5_lineAtRank (wsG yX5_lineAtRank cX5_lineAtRank 7 (some (FieldType.int))) { frames := 2, cells := 0, slots := 0, locals := 46 } (xP D cA s0 [.ref (b + o), .int a1, .int a2, .ref (b + a3), .int a4] (WC D cA s0 z b ν)) (xQr (some (.int r))) 0 0 xN := by
  refine x_start (own := RX5) [(0, .ref (b + o)), (1, .int a1), (2, .int a2), (3, .ref (b + a3)), (4, .int a4)] rfl rfl (by decide) (nb rfl) ?_
  intro p e s m args below meth c C hw
  obtain ⟨hpo, hF⟩ := asr_e hF
  obtain ⟨hpa3, hF⟩ := asr_e hF
  refine x_aload_n C dX5_lineAtRank_0 rfl ?_
  refine x_get (.ref (b + (o + 2))) C fl_X5_19 (C_Led hpo hw) rfl dX5_lineAtRank_1 ?_
  refine x_iload_n C dX5_lineAtRank_4 rfl ?_
  obtain ⟨h1, hF⟩ := asr_e hF
  obtain ⟨hn2, hl3⟩ := vpn h1 (by decide)
  refine x_aald 4 C (C_calls hpo hw) rfl hn2 hl3 (by decide) rfl dX5_lineAtRank_5 ?_
  refine x_astore [(5, .ref (b + (o + (22 + (cl a1))))), (0, .ref (b + o)), (1, .int a1), (2, .int a2), (3, .ref (b + a3)), (4, .int a4)] C dX5_lineAtRank_6 (by decide) rfl ?_
  refine x_aload_n C dX5_lineAtRank_8 rfl ?_
  refine x_get (.ref (b + (o + 1))) C fl_X5_11 (C_Led hpo hw) rfl dX5_lineAtRank_9 ?_
  refine x_aload C dX5_lineAtRank_12 rfl ?_
  refine x_get (.int (ν.1 (o + (22 + (cl a1))) 0)) C fl_X5_99 (C_Cal (mk_Cal hpo hl3) hw) rfl dX5_lineAtRank_14 ?_
  obtain ⟨h4, hF⟩ := asr_e hF
  obtain ⟨hn5, hl6⟩ := vpn h4 (by decide)
  refine x_aald 3 C (C_ships hpo hw) rfl hn5 hl6 (by decide) rfl dX5_lineAtRank_17 ?_
  refine x_get (.int (ν.1 (o + (6 + 2 * (cl (ν.1 (o + (22 + (cl a1))) 0)))) 2)) C fl_X5_92 (C_Ship (mk_Ship hpo hl6) hw) rfl dX5_lineAtRank_18 ?_
  refine x_istore [(6, .int (ν.1 (o + (6 + 2 * (cl (ν.1 (o + (22 + (cl a1))) 0)))) 2)), (5, .ref (b + (o + (22 + (cl a1))))), (0, .ref (b + o)), (1, .int a1), (2, .int a2), (3, .ref (b + a3)), (4, .int a4)] C dX5_lineAtRank_21 (by decide) rfl ?_
  refine x_iload_n C dX5_lineAtRank_23 rfl ?_
  by_cases c7 : a2 = 0
  · have hF := ite_t hF c7
    refine x_tabIn 0 52 C dX5_lineAtRank_24 (by rw [c7]; rfl) (by decide) (by decide) rfl (by decide) ?_
    refine x_aload_n C dX5_lineAtRank_52 rfl ?_
    refine x_iload C dX5_lineAtRank_53 rfl ?_
    obtain ⟨q8, hq9, hF⟩ := bnd_e hF
    refine x_goR (fun ls h => x_runV (As := [.int (ν.1 (o + (6 + 2 * (cl (ν.1 (o + (22 + (cl a1))) 0)))) 2)]) [] h C ml_X5_142 (k_X10_duesFor l D cA s0 z b ν hG a3 (ν.1 (o + (6 + 2 * (cl (ν.1 (o + (22 + (cl a1))) 0)))) 2) q8 hq9) ⟨rfl, rfl, nb rfl, nb rfl⟩ rfl (C_Tar hpa3 hw) rfl hw (nb rfl) ⟨Nat.zero_le _, Nat.zero_le _⟩ dX5_lineAtRank_55) ?_
    exact x_iretR C rfl dX5_lineAtRank_58  (r_i hF)
  · have hF := ite_f hF c7
    by_cases c10 : a2 = 1
    · have hF := ite_t hF c10
      refine x_tabIn 1 59 C dX5_lineAtRank_24 (by rw [c10]; rfl) (by decide) (by decide) rfl (by decide) ?_
      refine x_aload_n C dX5_lineAtRank_59 rfl ?_
      refine x_iload C dX5_lineAtRank_60 rfl ?_
      refine x_iload C dX5_lineAtRank_62 rfl ?_
      obtain ⟨q11, hq12, hF⟩ := bnd_e hF
      refine x_goR (fun ls h => x_runV (As := [.int (ν.1 (o + (6 + 2 * (cl (ν.1 (o + (22 + (cl a1))) 0)))) 2), .int a4]) [] h C ml_X5_145 (k_X10_rebateFor l D cA s0 z b ν hG a3 (ν.1 (o + (6 + 2 * (cl (ν.1 (o + (22 + (cl a1))) 0)))) 2) a4 q11 hq12) ⟨rfl, rfl, nb rfl, nb rfl⟩ rfl (C_Tar hpa3 hw) rfl hw (nb rfl) ⟨Nat.zero_le _, Nat.zero_le _⟩ dX5_lineAtRank_64) ?_
      exact x_iretR C rfl dX5_lineAtRank_67  (r_i hF)
    · have hF := ite_f hF c10
      by_cases c13 : a2 = 2
      · have hF := ite_t hF c13
        refine x_tabIn 2 68 C dX5_lineAtRank_24 (by rw [c13]; rfl) (by decide) (by decide) rfl (by decide) ?_
        refine x_aload_n C dX5_lineAtRank_68 rfl ?_
        refine x_aload C dX5_lineAtRank_69 rfl ?_
        refine x_get (.int (ν.1 (o + (22 + (cl a1))) 3)) C fl_X5_108 (C_Cal (mk_Cal hpo hl3) hw) rfl dX5_lineAtRank_71 ?_
        obtain ⟨q14, hq15, hF⟩ := bnd_e hF
        refine x_goR (fun ls h => x_runV (As := [.int (ν.1 (o + (22 + (cl a1))) 3)]) [] h C ml_X5_149 (k_X10_wasteFeeFor l D cA s0 z b ν hG a3 (ν.1 (o + (22 + (cl a1))) 3) q14 hq15) ⟨rfl, rfl, nb rfl, nb rfl⟩ rfl (C_Tar hpa3 hw) rfl hw (nb rfl) ⟨Nat.zero_le _, Nat.zero_le _⟩ dX5_lineAtRank_74) ?_
        exact x_iretR C rfl dX5_lineAtRank_77  (r_i hF)
      · have hF := ite_f hF c13
        have t24 : a2.toInt ≠ 0 := fun z => c7 ((fa_eqI _ _).mpr z)
        have t25 : a2.toInt ≠ 1 := fun z => c10 ((fa_eqI _ _).mpr z)
        have t26 : a2.toInt ≠ 2 := fun z => c13 ((fa_eqI _ _).mpr z)
        refine x_tabOut 78 C dX5_lineAtRank_24 (by omega) (by decide) ?_
        refine x_aload_n C dX5_lineAtRank_78 rfl ?_
        refine x_get (.int (ν.1 a3 11)) C fl_X5_152 (C_Tar hpa3 hw) rfl dX5_lineAtRank_79 ?_
        refine x_aload_n C dX5_lineAtRank_82 rfl ?_
        refine x_aload C dX5_lineAtRank_83 rfl ?_
        obtain ⟨q16, hq17, hF⟩ := bnd_e hF
        refine x_goR (fun ls h => x_runV (As := []) [.ref (b + a3), .int (ν.1 a3 11)] h C ml_X5_135 (k_X2_days l D cA s0 z b ν hG (o + (22 + (cl a1))) q16 hq17) ⟨rfl, rfl, nb rfl, nb rfl⟩ rfl (C_Cal (mk_Cal hpo hl3) hw) rfl hw (nb rfl) ⟨Nat.zero_le _, Nat.zero_le _⟩ dX5_lineAtRank_85) ?_
        obtain ⟨q18, hq19, hF⟩ := bnd_e hF
        refine x_goR (fun ls h => x_runV (As := [.int q16]) [.int (ν.1 a3 11)] h C ml_X5_139 (k_X10_laySet l D cA s0 z b ν hG a3 q16 q18 hq19) ⟨rfl, rfl, nb rfl, nb rfl⟩ rfl (C_Tar hpa3 hw) rfl hw (nb rfl) ⟨Nat.zero_le _, Nat.zero_le _⟩ dX5_lineAtRank_88) ?_
        refine x_aload C dX5_lineAtRank_91 rfl ?_
        obtain ⟨q20, hq21, hF⟩ := bnd_e hF
        refine x_goR (fun ls h => x_runV (As := []) [.int q18, .int (ν.1 a3 11)] h C ml_X5_155 (k_X2_contestedDays l D cA s0 z b ν hG (o + (22 + (cl a1))) q20 hq21) ⟨rfl, rfl, nb rfl, nb rfl⟩ rfl (C_Cal (mk_Cal hpo hl3) hw) rfl hw (nb rfl) ⟨Nat.zero_le _, Nat.zero_le _⟩ dX5_lineAtRank_93) ?_
        refine x_iconst (-1 : Int32) C dX5_lineAtRank_96 rfl ?_
        refine x_ixor C dX5_lineAtRank_97 ?_
        refine x_iand C dX5_lineAtRank_98 ?_
        obtain ⟨q22, hq23, hF⟩ := bnd_e hF
        refine x_goR (fun ls h => x_runS (As := [.int (q18 &&& (q20 ^^^ (-1 : Int32)))]) [.int (ν.1 a3 11)] h C ml_X5_125 (k_J6_bitCount_0f7a4 l D cA s0 z hG (q18 &&& (q20 ^^^ (-1 : Int32))) q22 hq23) ⟨rfl, rfl, nb rfl, nb rfl⟩ rfl trivial (nb rfl) ⟨Nat.zero_le _, Nat.zero_le _⟩ dX5_lineAtRank_99) ?_
        refine x_imul C dX5_lineAtRank_102 ?_
        exact x_iretR C rfl dX5_lineAtRank_103  (r_i hF)
