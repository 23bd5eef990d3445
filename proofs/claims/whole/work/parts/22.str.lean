/-! The JDK own code of String.length and charAt, over Str. -/
theorem dJ0_length_8abf5_0 : decode cJ0_length_8abf5 0 = .ok (.aload_n 0, 1) := by decide +kernel
theorem dJ0_length_8abf5_1 : decode cJ0_length_8abf5 1 = .ok (.getfield 9, 3) := by decide +kernel
theorem dJ0_length_8abf5_4 : decode cJ0_length_8abf5 4 = .ok (.arraylength, 1) := by decide +kernel
theorem dJ0_length_8abf5_5 : decode cJ0_length_8abf5 5 = .ok (.aload_n 0, 1) := by decide +kernel
theorem dJ0_length_8abf5_6 : decode cJ0_length_8abf5 6 = .ok (.invokevirtual 335, 3) := by decide +kernel
theorem dJ0_length_8abf5_9 : decode cJ0_length_8abf5 9 = .ok (.ishr, 1) := by decide +kernel
theorem dJ0_length_8abf5_10 : decode cJ0_length_8abf5 10 = .ok (.ireturn, 1) := by decide +kernel
theorem dJ0_coder_7d493_0 : decode cJ0_coder_7d493 0 = .ok (.getstatic 38, 3) := by decide +kernel
theorem dJ0_coder_7d493_3 : decode cJ0_coder_7d493 3 = .ok (.ifCond .eq 10, 3) := by decide +kernel
theorem dJ0_coder_7d493_6 : decode cJ0_coder_7d493 6 = .ok (.aload_n 0, 1) := by decide +kernel
theorem dJ0_coder_7d493_7 : decode cJ0_coder_7d493 7 = .ok (.getfield 15, 3) := by decide +kernel
theorem dJ0_coder_7d493_10 : decode cJ0_coder_7d493 10 = .ok (.goto 4, 3) := by decide +kernel
theorem dJ0_coder_7d493_13 : decode cJ0_coder_7d493 13 = .ok (.iconst 1, 1) := by decide +kernel
theorem dJ0_coder_7d493_14 : decode cJ0_coder_7d493 14 = .ok (.ireturn, 1) := by decide +kernel
theorem dJ0_isLatin1_aae02_0 : decode cJ0_isLatin1_aae02 0 = .ok (.getstatic 38, 3) := by decide +kernel
theorem dJ0_isLatin1_aae02_3 : decode cJ0_isLatin1_aae02 3 = .ok (.ifCond .eq 14, 3) := by decide +kernel
theorem dJ0_isLatin1_aae02_6 : decode cJ0_isLatin1_aae02 6 = .ok (.aload_n 0, 1) := by decide +kernel
theorem dJ0_isLatin1_aae02_7 : decode cJ0_isLatin1_aae02 7 = .ok (.getfield 15, 3) := by decide +kernel
theorem dJ0_isLatin1_aae02_10 : decode cJ0_isLatin1_aae02 10 = .ok (.ifCond .ne 7, 3) := by decide +kernel
theorem dJ0_isLatin1_aae02_13 : decode cJ0_isLatin1_aae02 13 = .ok (.iconst 1, 1) := by decide +kernel
theorem dJ0_isLatin1_aae02_14 : decode cJ0_isLatin1_aae02 14 = .ok (.goto 4, 3) := by decide +kernel
theorem dJ0_isLatin1_aae02_17 : decode cJ0_isLatin1_aae02 17 = .ok (.iconst 0, 1) := by decide +kernel
theorem dJ0_isLatin1_aae02_18 : decode cJ0_isLatin1_aae02 18 = .ok (.ireturn, 1) := by decide +kernel
theorem dJ0_charAt_5068e_0 : decode cJ0_charAt_5068e 0 = .ok (.aload_n 0, 1) := by decide +kernel
theorem dJ0_charAt_5068e_1 : decode cJ0_charAt_5068e 1 = .ok (.invokevirtual 492, 3) := by decide +kernel
theorem dJ0_charAt_5068e_4 : decode cJ0_charAt_5068e 4 = .ok (.ifCond .eq 12, 3) := by decide +kernel
theorem dJ0_charAt_5068e_7 : decode cJ0_charAt_5068e 7 = .ok (.aload_n 0, 1) := by decide +kernel
theorem dJ0_charAt_5068e_8 : decode cJ0_charAt_5068e 8 = .ok (.getfield 9, 3) := by decide +kernel
theorem dJ0_charAt_5068e_11 : decode cJ0_charAt_5068e 11 = .ok (.iload_n 1, 1) := by decide +kernel
theorem dJ0_charAt_5068e_12 : decode cJ0_charAt_5068e 12 = .ok (.invokestatic 495, 3) := by decide +kernel
theorem dJ0_charAt_5068e_15 : decode cJ0_charAt_5068e 15 = .ok (.ireturn, 1) := by decide +kernel
theorem dJ0_charAt_5068e_16 : decode cJ0_charAt_5068e 16 = .ok (.aload_n 0, 1) := by decide +kernel
theorem dJ0_charAt_5068e_17 : decode cJ0_charAt_5068e 17 = .ok (.getfield 9, 3) := by decide +kernel
theorem dJ0_charAt_5068e_20 : decode cJ0_charAt_5068e 20 = .ok (.iload_n 1, 1) := by decide +kernel
theorem dJ0_charAt_5068e_21 : decode cJ0_charAt_5068e 21 = .ok (.invokestatic 498, 3) := by decide +kernel
theorem dJ0_charAt_5068e_24 : decode cJ0_charAt_5068e 24 = .ok (.ireturn, 1) := by decide +kernel
theorem dJ0_checkIndex_df160_0 : decode cJ0_checkIndex_df160 0 = .ok (.iload_n 0, 1) := by decide +kernel
theorem dJ0_checkIndex_df160_1 : decode cJ0_checkIndex_df160 1 = .ok (.iload_n 1, 1) := by decide +kernel
theorem dJ0_checkIndex_df160_2 : decode cJ0_checkIndex_df160 2 = .ok (.getstatic 1053, 3) := by decide +kernel
theorem dJ0_checkIndex_df160_5 : decode cJ0_checkIndex_df160 5 = .ok (.invokestatic 1059, 3) := by decide +kernel
theorem dJ0_checkIndex_df160_8 : decode cJ0_checkIndex_df160 8 = .ok (.pop, 1) := by decide +kernel
theorem dJ0_checkIndex_df160_9 : decode cJ0_checkIndex_df160 9 = .ok (.return_, 1) := by decide +kernel
theorem dJ3_checkIndex_8e157_0 : decode cJ3_checkIndex_8e157 0 = .ok (.iload_n 0, 1) := by decide +kernel
theorem dJ3_checkIndex_8e157_1 : decode cJ3_checkIndex_8e157 1 = .ok (.ifCond .lt 8, 3) := by decide +kernel
theorem dJ3_checkIndex_8e157_4 : decode cJ3_checkIndex_8e157 4 = .ok (.iload_n 0, 1) := by decide +kernel
theorem dJ3_checkIndex_8e157_5 : decode cJ3_checkIndex_8e157 5 = .ok (.iload_n 1, 1) := by decide +kernel
theorem dJ3_checkIndex_8e157_6 : decode cJ3_checkIndex_8e157 6 = .ok (.if_icmp .lt 10, 3) := by decide +kernel
theorem dJ3_checkIndex_8e157_9 : decode cJ3_checkIndex_8e157 9 = .ok (.aload_n 2, 1) := by decide +kernel
theorem dJ3_checkIndex_8e157_10 : decode cJ3_checkIndex_8e157 10 = .ok (.iload_n 0, 1) := by decide +kernel
theorem dJ3_checkIndex_8e157_11 : decode cJ3_checkIndex_8e157 11 = .ok (.iload_n 1, 1) := by decide +kernel
theorem dJ3_checkIndex_8e157_12 : decode cJ3_checkIndex_8e157 12 = .ok (.invokestatic 95, 3) := by decide +kernel
theorem dJ3_checkIndex_8e157_15 : decode cJ3_checkIndex_8e157 15 = .ok (.athrow, 1) := by decide +kernel
theorem dJ3_checkIndex_8e157_16 : decode cJ3_checkIndex_8e157 16 = .ok (.iload_n 0, 1) := by decide +kernel
theorem dJ3_checkIndex_8e157_17 : decode cJ3_checkIndex_8e157 17 = .ok (.ireturn, 1) := by decide +kernel
theorem dJ1_charAt_3b067_0 : decode cJ1_charAt_3b067 0 = .ok (.iload_n 1, 1) := by decide +kernel
theorem dJ1_charAt_3b067_1 : decode cJ1_charAt_3b067 1 = .ok (.aload_n 0, 1) := by decide +kernel
theorem dJ1_charAt_3b067_2 : decode cJ1_charAt_3b067 2 = .ok (.arraylength, 1) := by decide +kernel
theorem dJ1_charAt_3b067_3 : decode cJ1_charAt_3b067 3 = .ok (.invokestatic 9, 3) := by decide +kernel
theorem dJ1_charAt_3b067_6 : decode cJ1_charAt_3b067 6 = .ok (.aload_n 0, 1) := by decide +kernel
theorem dJ1_charAt_3b067_7 : decode cJ1_charAt_3b067 7 = .ok (.iload_n 1, 1) := by decide +kernel
theorem dJ1_charAt_3b067_8 : decode cJ1_charAt_3b067 8 = .ok (.baload, 1) := by decide +kernel
theorem dJ1_charAt_3b067_9 : decode cJ1_charAt_3b067 9 = .ok (.sipush 255, 3) := by decide +kernel
theorem dJ1_charAt_3b067_12 : decode cJ1_charAt_3b067 12 = .ok (.iand, 1) := by decide +kernel
theorem dJ1_charAt_3b067_13 : decode cJ1_charAt_3b067 13 = .ok (.i2c, 1) := by decide +kernel
theorem dJ1_charAt_3b067_14 : decode cJ1_charAt_3b067 14 = .ok (.ireturn, 1) := by decide +kernel
theorem ml_J0_335 : xMV RJ0 335 RJ0 yJ0_coder_7d493 cJ0_coder_7d493 1 (some (FieldType.byte)) 0 := ⟨gW_in (gT3 (List.mem_of_getElem? (i := 42) (by decide +kernel))) (by decide +kernel), gW_in (gT3 (List.mem_of_getElem? (i := 43) (by decide +kernel))) (by decide +kernel), gW_in (gT3 (List.mem_of_getElem? (i := 44) (by decide +kernel))) (by decide +kernel), gW_in (gT1 (List.mem_of_getElem? (i := 20) (by decide +kernel))) (by decide +kernel), gW_in (gT3 (List.mem_of_getElem? (i := 45) (by decide +kernel))) (by decide +kernel), rfl, by decide, by decide, by decide +kernel⟩
theorem ml_J0_492 : xMV RJ0 492 RJ0 yJ0_isLatin1_aae02 cJ0_isLatin1_aae02 1 (some (FieldType.boolean)) 0 := ⟨gW_in (gT3 (List.mem_of_getElem? (i := 52) (by decide +kernel))) (by decide +kernel), gW_in (gT3 (List.mem_of_getElem? (i := 53) (by decide +kernel))) (by decide +kernel), gW_in (gT3 (List.mem_of_getElem? (i := 54) (by decide +kernel))) (by decide +kernel), gW_in (gT1 (List.mem_of_getElem? (i := 20) (by decide +kernel))) (by decide +kernel), gW_in (gT3 (List.mem_of_getElem? (i := 55) (by decide +kernel))) (by decide +kernel), rfl, by decide, by decide, by decide +kernel⟩
theorem ml_J0_495 : xMS RJ0 495 yJ1_charAt_3b067 cJ1_charAt_3b067 2 (some (FieldType.char)) 2 := ⟨gW_in (gT3 (List.mem_of_getElem? (i := 56) (by decide +kernel))) (by decide +kernel), gW_in (gT3 (List.mem_of_getElem? (i := 57) (by decide +kernel))) (by decide +kernel), gW_in (gT1 (List.mem_of_getElem? (i := 21) (by decide +kernel))) (by decide +kernel), gW_in (gT3 (List.mem_of_getElem? (i := 58) (by decide +kernel))) (by decide +kernel), by decide, by decide, by decide +kernel⟩
theorem ml_J0_1059 : xMS RJ0 1059 yJ3_checkIndex_8e157 cJ3_checkIndex_8e157 3 (some (FieldType.int)) 3 := ⟨gW_in (gT3 (List.mem_of_getElem? (i := 64) (by decide +kernel))) (by decide +kernel), gW_in (gT3 (List.mem_of_getElem? (i := 65) (by decide +kernel))) (by decide +kernel), gW_in (gT1 (List.mem_of_getElem? (i := 22) (by decide +kernel))) (by decide +kernel), gW_in (gT3 (List.mem_of_getElem? (i := 66) (by decide +kernel))) (by decide +kernel), by decide, by decide, by decide +kernel⟩
theorem ml_J1_9 : xMS RJ1 9 yJ0_checkIndex_df160 cJ0_checkIndex_df160 2 none 2 := ⟨gW_in (gT3 (List.mem_of_getElem? (i := 59) (by decide +kernel))) (by decide +kernel), gW_in (gT3 (List.mem_of_getElem? (i := 60) (by decide +kernel))) (by decide +kernel), gW_in (gT1 (List.mem_of_getElem? (i := 20) (by decide +kernel))) (by decide +kernel), gW_in (gT3 (List.mem_of_getElem? (i := 61) (by decide +kernel))) (by decide +kernel), by decide, by decide, by decide +kernel⟩
theorem flw_J0_9 : Cond.fieldLink "java/lang/String" 9 "java/lang/String" "value" "[B" ∈ gW := gW_in (gT10 (List.mem_of_getElem? (i := 156) (by decide +kernel))) (by decide +kernel)
theorem flw_J0_38 : Cond.fieldLink "java/lang/String" 38 "java/lang/String" "COMPACT_STRINGS" "Z" ∈ gW := gW_in (gT3 (List.mem_of_getElem? (i := 46) (by decide +kernel))) (by decide +kernel)
theorem flw_J0_15 : Cond.fieldLink "java/lang/String" 15 "java/lang/String" "coder" "B" ∈ gW := gW_in (gT10 (List.mem_of_getElem? (i := 157) (by decide +kernel))) (by decide +kernel)
theorem flw_J0_1053 : Cond.fieldLink "java/lang/String" 1053 "jdk/internal/util/Preconditions" "SIOOBE_FORMATTER" "Ljava/util/function/BiFunction;" ∈ gW := gW_in (gT3 (List.mem_of_getElem? (i := 62) (by decide +kernel))) (by decide +kernel)
/-- the statics that String's code asks -/
def xSt (s0 : State) : Prop := va_Z "java/lang/String" "COMPACT_STRINGS" "Z" (.int 1) xF s0 s0.heap ∧ va_Zq "jdk/internal/util/Preconditions" "SIOOBE_FORMATTER" "Ljava/util/function/BiFunction;" xF s0 s0.heap
def StrW (s0 : State) (a v c : Nat) (H : Heap) : Prop := extS s0 H ∧ okT c ∧ StrAt s0 a v c H
theorem slen_le (c : Nat) : slen c ≤ 16 := by
  have h : ∀ (n c : Nat), (dgs n c).length ≤ n := by
    intro n
    induction n with
    | zero => intro c; exact Nat.le_refl 0
    | succ n ih =>
      intro c
      show (if c = 0 then [] else c % 256 :: dgs n (c / 256)).length ≤ n + 1
      split
      · exact Nat.zero_le _
      · have := ih (c / 256)
        simp only [List.length_cons]
        omega
  exact h 16 c
section STRR
variable {p : Program} {l : Launch} {e : Env} {R : Room} {s : State} {m : MethodId} {args : Array Value} {below : List Frame} {meth : Method} {c : Code} {nL : Nat} {Q : State → Prop} {cells slots : Nat} {pc : Nat} {lv : List (Nat × Value)} {st : List Value}
  {D : va_G} {cA : Nat → ClassId} {s0 : State} {own : String} {cc : ByteArray} {rt : Option FieldType}
theorem x_gets {ix : Nat} {C0 n d : String} {v : Value} (C : xC D cA s0 own cc nL rt p s m args meth c) (hZ : va_Z C0 n d v xF s0 s0.heap) (hx : extS s0 s.heap) (hl : Cond.fieldLink own ix C0 n d ∈ gW) (hd : decode cc pc = .ok (.getstatic ix, 3)) (kk : xW p l e R s m args below meth c nL Q s.heap [] cells slots (pc + 3) lv (v :: st)) : xW p l e R s m args below meth c nL Q s.heap [] cells slots pc lv st := fun ls hl' =>
  va_gets C.1 C.2.1 ((va_Z.moved C.2.2.2.2.2.2.2.2.2.alike hZ).kept (fun a h _ => hx.2 a h)) va_S.rf C.2.2.2.2.1 (C.2.2.2.2.2.1 _ hl) (fun _ h9 => h9) hd (kk ls hl')
theorem x_getSv {ix a v k : Nat} (C : xC D cA s0 "java/lang/String" cc nL rt p s m args meth c) (hst : StrAt s0 a v k s.heap) (hl : Cond.fieldLink "java/lang/String" ix "java/lang/String" "value" "[B" ∈ gW) (hd : decode cc pc = .ok (.getfield ix, 3)) (kk : xW p l e R s m args below meth c nL Q s.heap [] cells slots (pc + 3) lv (.ref v :: st)) : xW p l e R s m args below meth c nL Q s.heap [] cells slots pc lv (.ref a :: st) := fun ls hl' =>
  vk_getf C.1 C.2.1 (va_OF.moved C.2.2.2.2.2.2.2.2.2.alike hst.2.2.1) va_S.rf C.2.2.2.2.1 (C.2.2.2.2.2.1 _ hl) (fun _ h9 => h9) hd (kk ls hl')
theorem x_getSc {ix a v k : Nat} (C : xC D cA s0 "java/lang/String" cc nL rt p s m args meth c) (hst : StrAt s0 a v k s.heap) (hl : Cond.fieldLink "java/lang/String" ix "java/lang/String" "coder" "B" ∈ gW) (hd : decode cc pc = .ok (.getfield ix, 3)) (kk : xW p l e R s m args below meth c nL Q s.heap [] cells slots (pc + 3) lv (.int 0 :: st)) : xW p l e R s m args below meth c nL Q s.heap [] cells slots pc lv (.ref a :: st) := fun ls hl' =>
  vk_getf C.1 C.2.1 (va_OF.moved C.2.2.2.2.2.2.2.2.2.alike hst.2.1) va_S.rf C.2.2.2.2.1 (C.2.2.2.2.2.1 _ hl) (fun _ h9 => h9) hd (kk ls hl')
theorem x_alenS {a v k : Nat} (C : xC D cA s0 own cc nL rt p s m args meth c) (hst : StrAt s0 a v k s.heap) (hd : decode cc pc = .ok (.arraylength, 1)) (kk : xW p l e R s m args below meth c nL Q s.heap [] cells slots (pc + 1) lv (.int (nI (slen k)) :: st)) : xW p l e R s m args below meth c nL Q s.heap [] cells slots pc lv (.ref v :: st) := fun ls hl' =>
  va_tlen C.1 C.2.1 (va_T.moved C.2.2.2.2.2.2.2.2.2.alike hst.2.2.2) va_S.rf rfl hd (kk ls hl')
theorem x_baldS {a v k j : Nat} (C : xC D cA s0 own cc nL rt p s m args meth c) (hst : StrAt s0 a v k s.heap) (hj : j < slen k) (h31 : j < 2 ^ 31) (hd : decode cc pc = .ok (.baload, 1)) (kk : xW p l e R s m args below meth c nL Q s.heap [] cells slots (pc + 1) lv (.int (schar k j) :: st)) : xW p l e R s m args below meth c nL Q s.heap [] cells slots pc lv (.int (nI j) :: .ref v :: st) := fun ls hl' =>
  va_tb C.1 C.2.1 (va_T.moved C.2.2.2.2.2.2.2.2.2.alike hst.2.2.2) va_S.rf (vp_in_nI hj (by have := slen_le k; omega)) (v := .int (schar k j)) (by show Value.int (schar k _) = _; rw [nI_clamp h31]) hd (kk ls hl')
theorem x_runVS {H : Heap} {locs : List Loc} {ix n k mc ms a v kc : Nat} {y : MethodName} {bytes : ByteArray} {r : Option FieldType} {rm : Room} {As : List Value} {Wd : Heap → Prop} {Qc : Array Value → State → Outcome → State → Prop} {free : Nat → Prop} {ls : Array Slot} (rest : List Value) (hl : ls.size = nL) (C : xC D cA s0 own cc nL rt p s m args meth c) (ML : xMV own ix "java/lang/String" y bytes n r k) (hM : Met l y (wsG y bytes n r) rm (xP D cA s0 (.ref a :: As) Wd) Qc mc ms free) (hrm : xRm rm R mc ms n) (hn : As.length = k) (hst : StrAt s0 a v kc H) (hWd : Wd H) (hro : (rest.map fun v => v.category).sum ≤ 8) (hcs : cells + mc ≤ R.cells ∧ slots + ms ≤ R.slots) (hd : decode cc pc = .ok (.invokevirtual ix, 3)) :
    va_Run p l e R s m args below meth c H locs cells slots mc ms (F0 m pc ls (As.reverse ++ .ref a :: rest)) rest (Qc (Value.ref a :: As).toArray) free :=
  va_runV (As := As) (rest := rest) ⟨C.1, C.2.1, C.2.2.2.1, C.2.2.2.2.1, C.2.2.2.2.2.1⟩ hM (cwV k C.2.2.2.2.2.1 ML.good rfl hrm.1 hrm.2.1 ML.2.2.2.2.2 hrm.2.2) ⟨xP_blind, by
    obtain ⟨cell, h1, h2, h3, -⟩ := hst.1
    exact ⟨cell, h1, h2, by rw [C.2.2.2.2.2.2.2.2.2.alike.findClass]; exact h3⟩, fun U hU hW => ⟨rfl, C.2.2.2.2.2.2.2.warm hW, by rw [hU]; exact hWd⟩⟩ rfl hn hl rfl (lv_room hro) hd hcs
end STRR
theorem sc_and {d : Nat} (h : d < 128) : (((nI d) &&& (255 : Int32)).toUInt32 % 65536).toInt32 = nI d ∧ narrow .char (.int (nI d)) = .int (nI d) := by
  have h1 : ∀ d, d < 128 → ((((nI d) &&& (255 : Int32)).toUInt32 % 65536).toInt32 = nI d ∧ narrow .char (.int (nI d)) = .int (nI d)) := by decide +kernel
  exact h1 d h
set_option maxRecDepth 20000 in
set_option maxHeartbeats 4000000 in
theorem cJ_coder (l : Launch) (D : va_G) (cA : Nat → ClassId) (s0 : State) (hZ : xSt s0) (a v k : Nat) : Met l yJ0_coder_7d493 (wsG yJ0_coder_7d493 cJ0_coder_7d493 1 (some .byte)) { frames := 0, cells := 0, slots := 0, locals := 0 } (xP D cA s0 [.ref a] (StrW s0 a v k)) (xQr (some (.int 0))) 0 0 xN := by
  refine x_start (own := RJ0) [(0, .ref a)] rfl rfl (by decide) (nb rfl) ?_
  intro p e s m args below meth c C hw
  obtain ⟨hx, hk, hst⟩ := hw
  refine x_gets C hZ.1 hx flw_J0_38 dJ0_coder_7d493_0 ?_
  refine x_if_eq 13 C dJ0_coder_7d493_3 (by decide) (fun z => absurd z (by decide)) (fun _ => ?_)
  refine x_aload_n C dJ0_coder_7d493_6 rfl ?_
  refine x_getSc C hst flw_J0_15 dJ0_coder_7d493_7 ?_
  refine x_goto 14 C dJ0_coder_7d493_10 (by decide) ?_
  exact x_zretR C rfl dJ0_coder_7d493_14 rfl rfl
set_option maxRecDepth 20000 in
set_option maxHeartbeats 4000000 in
theorem cJ_isLatin1 (l : Launch) (D : va_G) (cA : Nat → ClassId) (s0 : State) (hZ : xSt s0) (a v k : Nat) : Met l yJ0_isLatin1_aae02 (wsG yJ0_isLatin1_aae02 cJ0_isLatin1_aae02 1 (some .boolean)) { frames := 0, cells := 0, slots := 0, locals := 0 } (xP D cA s0 [.ref a] (StrW s0 a v k)) (xQr (some (.int 1))) 0 0 xN := by
  refine x_start (own := RJ0) [(0, .ref a)] rfl rfl (by decide) (nb rfl) ?_
  intro p e s m args below meth c C hw
  obtain ⟨hx, hk, hst⟩ := hw
  refine x_gets C hZ.1 hx flw_J0_38 dJ0_isLatin1_aae02_0 ?_
  refine x_if_eq 17 C dJ0_isLatin1_aae02_3 (by decide) (fun z => absurd z (by decide)) (fun _ => ?_)
  refine x_aload_n C dJ0_isLatin1_aae02_6 rfl ?_
  refine x_getSc C hst flw_J0_15 dJ0_isLatin1_aae02_7 ?_
  refine x_if_ne 17 C dJ0_isLatin1_aae02_10 (by decide) (fun z => absurd rfl z) (fun _ => ?_)
  refine x_iconst (1 : Int32) C dJ0_isLatin1_aae02_13 rfl ?_
  refine x_goto 18 C dJ0_isLatin1_aae02_14 (by decide) ?_
  exact x_zretR C rfl dJ0_isLatin1_aae02_18 rfl rfl
set_option maxRecDepth 20000 in
set_option maxHeartbeats 4000000 in
theorem cJ_length (l : Launch) (D : va_G) (cA : Nat → ClassId) (s0 : State) (hZ : xSt s0) (a v k : Nat) : Met l yJ0_length_8abf5 (wsG yJ0_length_8abf5 cJ0_length_8abf5 1 (some .int)) { frames := 1, cells := 0, slots := 0, locals := 20 } (xP D cA s0 [.ref a] (StrW s0 a v k)) (xQr (some (.int (nI (slen k))))) 0 0 xN := by
  refine x_start (own := RJ0) [(0, .ref a)] rfl rfl (by decide) (nb rfl) ?_
  intro p e s m args below meth c C hw
  have hst := hw.2.2
  refine x_aload_n C dJ0_length_8abf5_0 rfl ?_
  refine x_getSv C hst flw_J0_9 dJ0_length_8abf5_1 ?_
  refine x_alenS C hst dJ0_length_8abf5_4 ?_
  refine x_aload_n C dJ0_length_8abf5_5 rfl ?_
  refine x_goR (fun ls h => x_runVS (As := []) [.int (nI (slen k))] h C ml_J0_335 (cJ_coder l D cA s0 hZ a v k) ⟨rfl, rfl, nb rfl, nb rfl⟩ rfl hst hw (nb rfl) ⟨Nat.zero_le _, Nat.zero_le _⟩ dJ0_length_8abf5_6) ?_
  refine x_ishr C dJ0_length_8abf5_9 ?_
  exact x_iretR C rfl dJ0_length_8abf5_10 (by rw [sb_shr0])
set_option maxRecDepth 20000 in
set_option maxHeartbeats 4000000 in
theorem cJ_check3 (l : Launch) (D : va_G) (cA : Nat → ClassId) (s0 : State) (w : Option Nat) {i n : Nat} (h : i < n) (hn : n < 2 ^ 31) : Met l yJ3_checkIndex_8e157 (wsG yJ3_checkIndex_8e157 cJ3_checkIndex_8e157 3 (some .int)) { frames := 0, cells := 0, slots := 0, locals := 0 } (xP D cA s0 [.int (nI i), .int (nI n), va_rf w] (fun _ => True)) (xQr (some (.int (nI i)))) 0 0 xN := by
  cases w with
  | none =>
    refine x_start (own := RJ3) [(0, .int (nI i)), (1, .int (nI n)), (2, .null)] rfl rfl (by decide) (nb rfl) ?_
    intro p e s m args below meth c C hw
    refine x_iload_n C dJ3_checkIndex_8e157_0 rfl ?_
    refine x_if_lt 9 C dJ3_checkIndex_8e157_1 (by decide) (fun z => absurd z (nI_pos (by omega))) (fun _ => ?_)
    refine x_iload_n C dJ3_checkIndex_8e157_4 rfl ?_
    refine x_iload_n C dJ3_checkIndex_8e157_5 rfl ?_
    refine x_icmp_lt 16 C dJ3_checkIndex_8e157_6 (by decide) (fun _ => ?_) (fun z => absurd (nI_lt h hn) z)
    refine x_iload_n C dJ3_checkIndex_8e157_16 rfl ?_
    exact x_iretR C rfl dJ3_checkIndex_8e157_17 rfl
  | some t =>
    refine x_start (own := RJ3) [(0, .int (nI i)), (1, .int (nI n)), (2, .ref t)] rfl rfl (by decide) (nb rfl) ?_
    intro p e s m args below meth c C hw
    refine x_iload_n C dJ3_checkIndex_8e157_0 rfl ?_
    refine x_if_lt 9 C dJ3_checkIndex_8e157_1 (by decide) (fun z => absurd z (nI_pos (by omega))) (fun _ => ?_)
    refine x_iload_n C dJ3_checkIndex_8e157_4 rfl ?_
    refine x_iload_n C dJ3_checkIndex_8e157_5 rfl ?_
    refine x_icmp_lt 16 C dJ3_checkIndex_8e157_6 (by decide) (fun _ => ?_) (fun z => absurd (nI_lt h hn) z)
    refine x_iload_n C dJ3_checkIndex_8e157_16 rfl ?_
    exact x_iretR C rfl dJ3_checkIndex_8e157_17 rfl
theorem va_Zq.ex {C n d : String} {A : Nat → Prop} {U : State} {H : Heap} (h : va_Zq C n d A U H) : ∃ w : Option Nat, va_Z C n d (va_rf w) A U H := by
  rcases h with h | ⟨t, h⟩
  · exact ⟨none, h⟩
  · exact ⟨some t, h⟩
set_option maxRecDepth 20000 in
set_option maxHeartbeats 4000000 in
theorem cJ_check (l : Launch) (D : va_G) (cA : Nat → ClassId) (s0 : State) (hZ : xSt s0) {i n : Nat} (h : i < n) (hn : n < 2 ^ 31) : Met l yJ0_checkIndex_df160 (wsG yJ0_checkIndex_df160 cJ0_checkIndex_df160 2 none) { frames := 1, cells := 0, slots := 0, locals := 22 } (xP D cA s0 [.int (nI i), .int (nI n)] (extS s0)) (xQr none) 0 0 xN := by
  refine x_start (own := RJ0) [(0, .int (nI i)), (1, .int (nI n))] rfl rfl (by decide) (nb rfl) ?_
  intro p e s m args below meth c C hx
  obtain ⟨w, hw⟩ := hZ.2.ex
  refine x_iload_n C dJ0_checkIndex_df160_0 rfl ?_
  refine x_iload_n C dJ0_checkIndex_df160_1 rfl ?_
  refine x_gets C hw hx flw_J0_1053 dJ0_checkIndex_df160_2 ?_
  refine x_goR (fun ls hls => x_runS (As := [.int (nI i), .int (nI n), va_rf w]) [] hls C ml_J0_1059 (cJ_check3 l D cA s0 w h hn) ⟨rfl, rfl, nb rfl, nb rfl⟩ rfl trivial (nb rfl) ⟨Nat.zero_le _, Nat.zero_le _⟩ dJ0_checkIndex_df160_5) ?_
  refine x_pop C dJ0_checkIndex_df160_8 rfl ?_
  exact x_vretR C rfl dJ0_checkIndex_df160_9 rfl
set_option maxRecDepth 20000 in
set_option maxHeartbeats 4000000 in
theorem cJ_charAt1 (l : Launch) (D : va_G) (cA : Nat → ClassId) (s0 : State) (hZ : xSt s0) (a v k j : Nat) (hj : j < slen k) : Met l yJ1_charAt_3b067 (wsG yJ1_charAt_3b067 cJ1_charAt_3b067 2 (some .char)) { frames := 2, cells := 0, slots := 0, locals := 43 } (xP D cA s0 [.ref v, .int (nI j)] (StrW s0 a v k)) (xQr (some (.int (schar k j)))) 0 0 xN := by
  refine x_start (own := RJ1) [(0, .ref v), (1, .int (nI j))] rfl rfl (by decide) (nb rfl) ?_
  intro p e s m args below meth c C hw
  obtain ⟨hx, hk, hst⟩ := hw
  have h16 := slen_le k
  obtain ⟨d, hd, hdd⟩ := hk j hj
  refine x_iload_n C dJ1_charAt_3b067_0 rfl ?_
  refine x_aload_n C dJ1_charAt_3b067_1 rfl ?_
  refine x_alenS C hst dJ1_charAt_3b067_2 ?_
  refine x_goR (fun ls hls => x_runS (As := [.int (nI j), .int (nI (slen k))]) [] hls C ml_J1_9 (cJ_check l D cA s0 hZ hj (by omega)) ⟨rfl, rfl, nb rfl, nb rfl⟩ rfl hx (nb rfl) ⟨Nat.zero_le _, Nat.zero_le _⟩ dJ1_charAt_3b067_3) ?_
  refine x_aload_n C dJ1_charAt_3b067_6 rfl ?_
  refine x_iload_n C dJ1_charAt_3b067_7 rfl ?_
  refine x_baldS C hst hj (by omega) dJ1_charAt_3b067_8 ?_
  refine x_sipush (255 : Int32) C dJ1_charAt_3b067_9 rfl ?_
  refine x_iand C dJ1_charAt_3b067_12 ?_
  refine x_i2c C dJ1_charAt_3b067_13 ?_
  refine x_topi (schar k j) (by rw [hdd]; exact (sc_and hd).1) ?_
  exact x_zretR C rfl dJ1_charAt_3b067_14 (by rw [hdd]; exact (sc_and hd).2) rfl
set_option maxRecDepth 20000 in
set_option maxHeartbeats 4000000 in
theorem cJ_charAt (l : Launch) (D : va_G) (cA : Nat → ClassId) (s0 : State) (hZ : xSt s0) (a v k j : Nat) (hj : j < slen k) : Met l yJ0_charAt_5068e (wsG yJ0_charAt_5068e cJ0_charAt_5068e 2 (some .char)) { frames := 3, cells := 0, slots := 0, locals := 64 } (xP D cA s0 [.ref a, .int (nI j)] (StrW s0 a v k)) (xQr (some (.int (schar k j)))) 0 0 xN := by
  refine x_start (own := RJ0) [(0, .ref a), (1, .int (nI j))] rfl rfl (by decide) (nb rfl) ?_
  intro p e s m args below meth c C hw
  have hst := hw.2.2
  obtain ⟨d, hd, hdd⟩ := hw.2.1 j hj
  refine x_aload_n C dJ0_charAt_5068e_0 rfl ?_
  refine x_goR (fun ls h => x_runVS (As := []) [] h C ml_J0_492 (cJ_isLatin1 l D cA s0 hZ a v k) ⟨rfl, rfl, nb rfl, nb rfl⟩ rfl hst hw (nb rfl) ⟨Nat.zero_le _, Nat.zero_le _⟩ dJ0_charAt_5068e_1) ?_
  refine x_if_eq 16 C dJ0_charAt_5068e_4 (by decide) (fun z => absurd z (by decide)) (fun _ => ?_)
  refine x_aload_n C dJ0_charAt_5068e_7 rfl ?_
  refine x_getSv C hst flw_J0_9 dJ0_charAt_5068e_8 ?_
  refine x_iload_n C dJ0_charAt_5068e_11 rfl ?_
  refine x_goR (fun ls h => x_runS (As := [.ref v, .int (nI j)]) [] h C ml_J0_495 (cJ_charAt1 l D cA s0 hZ a v k j hj) ⟨rfl, rfl, nb rfl, nb rfl⟩ rfl hw (nb rfl) ⟨Nat.zero_le _, Nat.zero_le _⟩ dJ0_charAt_5068e_12) ?_
  exact x_zretR C rfl dJ0_charAt_5068e_15 (by rw [hdd]; exact (sc_and hd).2) rfl
/-- the texts of the class's and the model's code, by class and place in its pool: a String with this code -/
def xLit (D : va_G) (cA : Nat → ClassId) (s0 : State) (ls : List (String × Nat × Nat)) : Prop := ∀ q ∈ ls, ∃ (a : Nat) (tx : String), vk_R q.1 q.2.1 tx a s0 ∧ ∀ z, Str D cA s0 z a q.2.2 s0.heap
def xlits : List (String × Nat × Nat) := [("PortDues$Parser", 62, 126879296744563), ("PortDues$Parser", 72, 1650551923), ("PortDues$Parser", 74, 1684955490), ("PortDues$Parser", 84, 111550524450162), ("PortDues$Parser", 89, 435745415543), ("PortDues$Parser", 94, 7954796), ("PortDues$Parser", 99, 1885956211), ("PortDues$Parser", 104, 1819042147), ("PortDues$Parser", 127, 1702125938), ("PortDues$Parser", 141, 32772479037629808), ("PortDues$Parser", 146, 431199119718), ("PortDues$Parser", 151, 1701147238), ("PortDues$Parser", 156, 435459551856), ("PortDues$Parser", 180, 1936617332), ("PortDues$Parser", 189, 28532), ("PortDues$Reports", 56, 32), ("PortDues$Reports", 79, 2334381286354218601), ("PortDues$Reports", 81, 35667176878880), ("PortDues$Reports", 87, 35650046878496), ("PortDues$Reports", 92, 35620116325408), ("PortDues$Reports", 108, 544499054), ("PortDues$Reports", 110, 35658520358688), ("PortDues$Reports", 132, 1851984991346003960608), ("PortDues$Reports", 134, 139442744864), ("PortDues$Reports", 136, 139374982500), ("PortDues$Reports", 138, 9118749779191154), ("PortDues$Reports", 140, 35620117504375), ("PortDues$Reports", 142, 544825708), ("PortDues$Reports", 148, 495957664800), ("PortDues$Reports", 171, 2336927755350992246), ("PortDues$Reports", 179, 11417657570058), ("PortDues$Reports", 181, 753057040345887498), ("PortDues$Reports", 186, 139123908962), ("PortDues$Reports", 191, 35620116328992), ("PortDues$Reports", 206, 598685564992338882592), ("PortDues$Reports", 211, 10024892076463357237700813175), ("PortDues$Reports", 216, 35619865781792), ("PortDues$Reports", 221, 9118676900016160), ("PortDues$Reports", 226, 597602182112141205868), ("PortDues$Reports", 234, 191701742837314380576), ("PortDues$Reports", 236, 10), ("PortDuesModel", 128, 126879296744563), ("PortDuesModel", 130, 1650551923), ("PortDuesModel", 132, 1684955490), ("PortDuesModel", 134, 1702125938), ("PortDuesModel", 136, 111550524450162), ("PortDuesModel", 138, 32772479037629808), ("PortDuesModel", 140, 435745415543), ("PortDuesModel", 142, 431199119718), ("PortDuesModel", 144, 1701147238), ("PortDuesModel", 146, 435459551856), ("PortDuesModel", 148, 7954796), ("PortDuesModel", 150, 1885956211), ("PortDuesModel", 152, 1936617332), ("PortDuesModel", 154, 1819042147), ("PortDuesModel", 156, 28532), ("PortDuesModel", 466, 139374982500), ("PortDuesModel", 468, 9118749779191154), ("PortDuesModel", 470, 35620117504375), ("PortDuesModel", 472, 544825708), ("PortDuesModel", 474, 495957664800), ("PortDuesModel", 476, 32), ("PortDuesModel", 489, 1851984991346003960608), ("PortDuesModel", 491, 139442744864), ("PortDuesModel", 493, 2334381286354218601), ("PortDuesModel", 495, 35667176878880), ("PortDuesModel", 497, 35650046878496), ("PortDuesModel", 499, 35620116325408), ("PortDuesModel", 505, 544499054), ("PortDuesModel", 507, 35658520358688), ("PortDuesModel", 509, 7234302100218864416), ("PortDuesModel", 511, 2336927755350992246), ("PortDuesModel", 513, 753057040345887498), ("PortDuesModel", 515, 11417657570058), ("PortDuesModel", 517, 139123908962), ("PortDuesModel", 519, 35620116328992), ("PortDuesModel", 524, 598685564992338882592), ("PortDuesModel", 526, 10024892076463357237700813175), ("PortDuesModel", 528, 35619865781792), ("PortDuesModel", 530, 9118676900016160), ("PortDuesModel", 532, 597602182112141205868)]
section LITR
variable {p : Program} {l : Launch} {e : Env} {R : Room} {s : State} {m : MethodId} {args : Array Value} {below : List Frame} {meth : Method} {c : Code} {nL : Nat} {Q : State → Prop} {H : Heap} {locs : List Loc} {cells slots : Nat} {pc : Nat} {lv : List (Nat × Value)} {st : List Value}
  {D : va_G} {cA : Nat → ClassId} {s0 : State} {own : String} {cc : ByteArray} {rt : Option FieldType}
theorem Str.ext {z a k : Nat} {H : Heap} (h : ∀ z, Str D cA s0 z a k s0.heap) (hx : extS s0 H) : Str D cA s0 z a k H := by
  obtain ⟨h0, h1, v, h2, h3⟩ := h s0.heap.size
  obtain ⟨h0', h1', v', h2', h3'⟩ := h z
  exact ⟨h0', h1', v', h2', h3'.kept (fun g => hx.2 _ g) (fun g => hx.2 _ g)⟩
theorem x_ldcS {ix z : Nat} (k : Nat) (C : xC D cA s0 own cc nL rt p s m args meth c) (hL : xLit D cA s0 xlits) (hm : (own, ix, k) ∈ xlits) (hx : extS s0 H) (hd : decode cc pc = .ok (.ldc ix, 2)) (kk : ∀ a, Str D cA s0 z a k H → xW p l e R s m args below meth c nL Q H locs cells slots (pc + 2) lv (.ref a :: st)) : xW p l e R s m args below meth c nL Q H locs cells slots pc lv st := fun ls hl => by
  obtain ⟨a, tx, h1, h2⟩ := hL _ hm
  exact va_ldcS C.1 C.2.1 C.2.2.2.2.1 (vk_R.warm C.2.2.2.2.2.2.2.2.2 h1) hd (kk a (Str.ext h2 hx) ls hl)
theorem x_ldcSw {ix z : Nat} (k : Nat) (C : xC D cA s0 own cc nL rt p s m args meth c) (hL : xLit D cA s0 xlits) (hm : (own, ix, k) ∈ xlits) (hx : extS s0 H) (hd : decode cc pc = .ok (.ldc_w ix, 3)) (kk : ∀ a, Str D cA s0 z a k H → xW p l e R s m args below meth c nL Q H locs cells slots (pc + 3) lv (.ref a :: st)) : xW p l e R s m args below meth c nL Q H locs cells slots pc lv st := fun ls hl => by
  obtain ⟨a, tx, h1, h2⟩ := hL _ hm
  intro T hT X
  obtain ⟨t, a1, b1⟩ := kk a (Str.ext h2 hx) ls hl T hT X
  have h3 := vk_R.warm C.2.2.2.2.2.2.2.2.2 h1
  exact ⟨t, X.ldcStringW C.1 C.2.2.2.2.1 (text := tx) (a := a) h3.1 h3.2 (g := F0 m pc ls st) rfl (by rw [C.2.1]; exact hd) t a1, b1⟩
/-- a text at the heap of a body's start is one still -/
theorem Str.now {z b a k N : Nat} (h : Str D cA s0 z a k s.heap) (hb : s0.heap.size ≤ b) (hz : b + N ≤ z) (hS : va_S (xA b N s.heap.size) s.heap H locs) : Str D cA s0 z a k H := h.kept fun q hq hlt => hS.2.1 q hlt (fun z' => by
  rcases z' with ⟨g1, g2⟩ | g
  · rcases hq with g3 | g3
    · exact absurd (Nat.lt_of_lt_of_le g3 hb) (by omega)
    · omega
  · omega)
end LITR
