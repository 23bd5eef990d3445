/-! The law's world, its script, its cases. -/
def LW (D : va_G) (cA : Nat → ClassId) (s0 : State) (b : Nat) (ν μ : Mm) (oc : Nat → Int64) (H : Heap) : Prop := WC D cA s0 (b + 2637) b ν H ∧ RX D cA s0 (b + 2637) (b + 2628) μ H ∧ oCell cA D (b + 2636) oc H
section LWS
variable {D : va_G} {cA : Nat → ClassId} {s0 : State} {b : Nat} {ν ν1 μ μ1 : Mm} {oc oc1 : Nat → Int64} {H H1 : Heap}
theorem LW.base (h : LW D cA s0 b ν μ oc H) : s0.heap.size ≤ b ∧ b + 2637 ≤ H.size := ⟨h.1.1, h.1.2.2.1⟩
theorem LW.aL (h : LW D cA s0 b ν μ oc H) : ∀ q, xAL b (b + 2636) H.size q → xOut s0 q := fun q hq => by
  have h1 := h.base
  rcases hq with (g | g) | g
  · exact Nat.le_trans h1.1 g.1
  · exact Nat.le_trans h1.1 (by omega)
  · exact Nat.le_trans h1.1 (by omega)
theorem LW.aC (h : LW D cA s0 b ν μ oc H) : ∀ q, xA b 2628 H.size q → xOut s0 q := fun q hq => h.aL q (Or.inl hq)
theorem LW.aM (h : LW D cA s0 b ν μ oc H) : ∀ q, xA (b + 2628) 8 H.size q → xOut s0 q := fun q hq => by
  have h1 := h.base
  rcases hq with g | g
  · exact Nat.le_trans h1.1 (by omega)
  · exact Nat.le_trans h1.1 (by omega)
theorem LW.cls (h : LW D cA s0 b ν μ oc H) (hw : WC D cA s0 (b + 2637) b ν1 H1 ∧ oCell cA D (b + 2636) oc1 H1) (hk : ∀ q : Nat, q < H.size → ¬ xAL b (b + 2636) H.size q → H1[q]? = H[q]?) : LW D cA s0 b ν1 μ oc1 H1 := by
  have h1 := h.base
  obtain ⟨-, g1, g2, -, g3⟩ := h.2.1
  refine ⟨hw.1, ⟨Nat.le_trans h1.1 (by omega), by omega, hw.1.2.2.1, hw.1.2.2.2.1, ?_⟩, hw.2⟩
  exact g3.kept (fun q g4 g5 => hk q (by omega) (fun z => by
    rcases z with (z | z) | z <;> omega))
theorem LW.clsT (h : LW D cA s0 b ν μ oc H) (hw : WC D cA s0 (b + 2637) b ν1 H1) (hk : ∀ q : Nat, q < H.size → ¬ xA b 2628 H.size q → H1[q]? = H[q]?) : LW D cA s0 b ν1 μ oc H1 := by
  have h1 := h.base
  exact h.cls ⟨hw, h.2.2.kept (hk (b + 2636) (by omega) (fun z => by rcases z with z | z <;> omega))⟩ (fun q hq hn => hk q hq (fun z => hn (Or.inl z)))
theorem LW.mod (h : LW D cA s0 b ν μ oc H) (hw : RX D cA s0 (b + 2637) (b + 2628) μ1 H1) (hk : ∀ q : Nat, q < H.size → ¬ xA (b + 2628) 8 H.size q → H1[q]? = H[q]?) : LW D cA s0 b ν μ1 oc H1 := by
  have h1 := h.base
  obtain ⟨g1, g2, g3, g4, nm, hR⟩ := h.1
  refine ⟨⟨g1, g2, hw.2.2.1, hw.2.2.2.1, nm, hR.kept (fun q g5 g6 => hk q (by omega) (fun z => by rcases z with z | z <;> omega))⟩, hw, h.2.2.kept (hk (b + 2636) (by omega) (fun z => by rcases z with z | z <;> omega))⟩
theorem LW.modM (h : LW D cA s0 b ν μ oc H) (hw : RM D cA (b + 2628) μ1 H1) (hz : H.size ≤ H1.size) (hk : ∀ q : Nat, q < H.size → ¬ xA (b + 2628) 8 H.size q → H1[q]? = H[q]?) : LW D cA s0 b ν μ1 oc H1 := h.mod (RX.of h.2.1 hw hz hk) hk
end LWS
section LSLD
variable {p : Program} {l : Launch} {e : Env} {R : Room} {s : State} {m : MethodId} {args : Array Value} {below : List Frame} {meth : Method} {c : Code} {nL : Nat} {Q : State → Prop} {H : Heap} {locs : List Loc} {cells slots : Nat} {pc : Nat} {lv : List (Nat × Value)} {st : List Value}
  {D : va_G} {cA : Nat → ClassId} {s0 : State} {own : String} {cc : ByteArray} {rt : Option FieldType}
theorem x_sld {a L : Nat} {xs : Nat → Int32} {i v : Int32} (C : xC D cA s0 own cc nL rt p s m args meth c) (hX : va_X a L xs s s.heap) (hal : a < s.heap.size) (hS : va_S (xOut s) s.heap H locs) (hr : vp_in i L ∧ xs i.toNatClampNeg = v) (hd : decode cc pc = .ok (.iaload, 1)) (kk : xW p l e R s m args below meth c nL Q H locs cells slots (pc + 1) lv (.int v :: st)) : xW p l e R s m args below meth c nL Q H locs cells slots pc lv (.int i :: .ref a :: st) := fun ls hl => va_sld C.1 C.2.1 hX hal (fun z => absurd hal (Nat.not_lt.mpr z)) hS hr.1 hd (by rw [hr.2]; exact kk ls hl)
theorem x_slen {a L : Nat} {xs : Nat → Int32} (C : xC D cA s0 own cc nL rt p s m args meth c) (hX : va_X a L xs s s.heap) (hal : a < s.heap.size) (hS : va_S (xOut s) s.heap H locs) (hd : decode cc pc = .ok (.arraylength, 1)) (kk : xW p l e R s m args below meth c nL Q H locs cells slots (pc + 1) lv (.int (nI L) :: st)) : xW p l e R s m args below meth c nL Q H locs cells slots pc lv (.ref a :: st) := fun ls hl => va_slen C.1 C.2.1 hX hal (fun z => absurd hal (Nat.not_lt.mpr z)) hS hd (kk ls hl)
end LSLD
theorem mlk_203 : Cond.methodLink RL 203 yL_append ∈ gW := gW_in (gT4 (List.mem_of_getElem? (i := 59) (by decide +kernel))) (by decide +kernel)
theorem mlk_212 : Cond.methodLink RL 212 yL_truncate ∈ gW := gW_in (gT4 (List.mem_of_getElem? (i := 145) (by decide +kernel))) (by decide +kernel)
theorem mlk_232 : Cond.methodLink RL 232 yL_count ∈ gW := gW_in (gT4 (List.mem_of_getElem? (i := 175) (by decide +kernel))) (by decide +kernel)
theorem mlk_236 : Cond.methodLink RL 236 yL_tariff ∈ gW := gW_in (gT4 (List.mem_of_getElem? (i := 187) (by decide +kernel))) (by decide +kernel)
theorem mlk_239 : Cond.methodLink RL 239 yL_band ∈ gW := gW_in (gT4 (List.mem_of_getElem? (i := 194) (by decide +kernel))) (by decide +kernel)
theorem mlk_243 : Cond.methodLink RL 243 yL_rebate ∈ gW := gW_in (gT4 (List.mem_of_getElem? (i := 221) (by decide +kernel))) (by decide +kernel)
theorem mlk_246 : Cond.methodLink RL 246 yL_bandOf ∈ gW := gW_in (gT4 (List.mem_of_getElem? (i := 228) (by decide +kernel))) (by decide +kernel)
theorem mlk_249 : Cond.methodLink RL 249 yL_dues ∈ gW := gW_in (gT4 (List.mem_of_getElem? (i := 239) (by decide +kernel))) (by decide +kernel)
theorem mlk_252 : Cond.methodLink RL 252 yL_tonsIn ∈ gW := gW_in (gT5 (List.mem_of_getElem? (i := 7) (by decide +kernel))) (by decide +kernel)
theorem mlk_255 : Cond.methodLink RL 255 yL_wasteFee ∈ gW := gW_in (gT5 (List.mem_of_getElem? (i := 19) (by decide +kernel))) (by decide +kernel)
theorem mlk_258 : Cond.methodLink RL 258 yL_tons ∈ gW := gW_in (gT5 (List.mem_of_getElem? (i := 27) (by decide +kernel))) (by decide +kernel)
theorem mlk_261 : Cond.methodLink RL 261 yL_calls ∈ gW := gW_in (gT5 (List.mem_of_getElem? (i := 38) (by decide +kernel))) (by decide +kernel)
theorem mlk_264 : Cond.methodLink RL 264 yL_call ∈ gW := gW_in (gT5 (List.mem_of_getElem? (i := 49) (by decide +kernel))) (by decide +kernel)
theorem mlk_267 : Cond.methodLink RL 267 yL_layDays ∈ gW := gW_in (gT5 (List.mem_of_getElem? (i := 67) (by decide +kernel))) (by decide +kernel)
theorem mlk_270 : Cond.methodLink RL 270 yL_pending ∈ gW := gW_in (gT5 (List.mem_of_getElem? (i := 79) (by decide +kernel))) (by decide +kernel)
theorem mlk_273 : Cond.methodLink RL 273 yL_upheld ∈ gW := gW_in (gT5 (List.mem_of_getElem? (i := 86) (by decide +kernel))) (by decide +kernel)
theorem mlk_276 : Cond.methodLink RL 276 yL_billedDays ∈ gW := gW_in (gT5 (List.mem_of_getElem? (i := 93) (by decide +kernel))) (by decide +kernel)
theorem mlk_279 : Cond.methodLink RL 279 yL_billable ∈ gW := gW_in (gT5 (List.mem_of_getElem? (i := 104) (by decide +kernel))) (by decide +kernel)
theorem mlk_282 : Cond.methodLink RL 282 yL_amount ∈ gW := gW_in (gT5 (List.mem_of_getElem? (i := 117) (by decide +kernel))) (by decide +kernel)
theorem mlk_285 : Cond.methodLink RL 285 yL_callTotal ∈ gW := gW_in (gT5 (List.mem_of_getElem? (i := 128) (by decide +kernel))) (by decide +kernel)
theorem mlk_288 : Cond.methodLink RL 288 yL_invoice ∈ gW := gW_in (gT5 (List.mem_of_getElem? (i := 140) (by decide +kernel))) (by decide +kernel)
theorem mlk_291 : Cond.methodLink RL 291 yL_line ∈ gW := gW_in (gT5 (List.mem_of_getElem? (i := 151) (by decide +kernel))) (by decide +kernel)
theorem mlk_294 : Cond.methodLink RL 294 yL_net ∈ gW := gW_in (gT5 (List.mem_of_getElem? (i := 158) (by decide +kernel))) (by decide +kernel)
theorem mlk_297 : Cond.methodLink RL 297 yL_open ∈ gW := gW_in (gT5 (List.mem_of_getElem? (i := 173) (by decide +kernel))) (by decide +kernel)
theorem mlk_300 : Cond.methodLink RL 300 yL_rebuilt ∈ gW := gW_in (gT5 (List.mem_of_getElem? (i := 201) (by decide +kernel))) (by decide +kernel)
theorem mlk_303 : Cond.methodLink RL 303 yL_isStale ∈ gW := gW_in (gT5 (List.mem_of_getElem? (i := 209) (by decide +kernel))) (by decide +kernel)
theorem mlk_310 : Cond.methodLink RL 310 yL_contested ∈ gW := gW_in (gT5 (List.mem_of_getElem? (i := 216) (by decide +kernel))) (by decide +kernel)
theorem mlk_313 : Cond.methodLink RL 313 yL_note ∈ gW := gW_in (gT5 (List.mem_of_getElem? (i := 226) (by decide +kernel))) (by decide +kernel)
theorem mlk_316 : Cond.methodLink RL 316 yL_balance ∈ gW := gW_in (gT5 (List.mem_of_getElem? (i := 233) (by decide +kernel))) (by decide +kernel)
theorem mlk_319 : Cond.methodLink RL 319 yL_paid ∈ gW := gW_in (gT6 (List.mem_of_getElem? (i := 4) (by decide +kernel))) (by decide +kernel)
theorem mlk_322 : Cond.methodLink RL 322 yL_oldestOpen ∈ gW := gW_in (gT6 (List.mem_of_getElem? (i := 11) (by decide +kernel))) (by decide +kernel)
theorem mlk_325 : Cond.methodLink RL 325 yL_overdue ∈ gW := gW_in (gT6 (List.mem_of_getElem? (i := 19) (by decide +kernel))) (by decide +kernel)
theorem mlk_328 : Cond.methodLink RL 328 yL_revenue ∈ gW := gW_in (gT6 (List.mem_of_getElem? (i := 26) (by decide +kernel))) (by decide +kernel)
theorem mlk_331 : Cond.methodLink RL 331 yL_rebates ∈ gW := gW_in (gT6 (List.mem_of_getElem? (i := 37) (by decide +kernel))) (by decide +kernel)
theorem mlk_334 : Cond.methodLink RL 334 yL_quote ∈ gW := gW_in (gT6 (List.mem_of_getElem? (i := 44) (by decide +kernel))) (by decide +kernel)
theorem mlk_338 : Cond.methodLink RL 338 yL_callsToRebate ∈ gW := gW_in (gT6 (List.mem_of_getElem? (i := 57) (by decide +kernel))) (by decide +kernel)
theorem mlk_341 : Cond.methodLink RL 341 yL_worth ∈ gW := gW_in (gT6 (List.mem_of_getElem? (i := 64) (by decide +kernel))) (by decide +kernel)
theorem mlk_344 : Cond.methodLink RL 344 yL_busiestYear ∈ gW := gW_in (gT6 (List.mem_of_getElem? (i := 71) (by decide +kernel))) (by decide +kernel)
theorem mlk_347 : Cond.methodLink RL 347 yL_addCall ∈ gW := gW_in (gT6 (List.mem_of_getElem? (i := 78) (by decide +kernel))) (by decide +kernel)
theorem mlk_350 : Cond.methodLink RL 350 yL_cancel ∈ gW := gW_in (gT6 (List.mem_of_getElem? (i := 86) (by decide +kernel))) (by decide +kernel)
theorem mlk_353 : Cond.methodLink RL 353 yL_setWaste ∈ gW := gW_in (gT6 (List.mem_of_getElem? (i := 97) (by decide +kernel))) (by decide +kernel)
theorem mlk_356 : Cond.methodLink RL 356 yL_setTons ∈ gW := gW_in (gT6 (List.mem_of_getElem? (i := 104) (by decide +kernel))) (by decide +kernel)
theorem mlk_359 : Cond.methodLink RL 359 yL_bill ∈ gW := gW_in (gT6 (List.mem_of_getElem? (i := 111) (by decide +kernel))) (by decide +kernel)
theorem mlk_362 : Cond.methodLink RL 362 yL_billAll ∈ gW := gW_in (gT6 (List.mem_of_getElem? (i := 128) (by decide +kernel))) (by decide +kernel)
theorem mlk_365 : Cond.methodLink RL 365 yL_credit ∈ gW := gW_in (gT6 (List.mem_of_getElem? (i := 135) (by decide +kernel))) (by decide +kernel)
theorem mlk_368 : Cond.methodLink RL 368 yL_dispute ∈ gW := gW_in (gT6 (List.mem_of_getElem? (i := 148) (by decide +kernel))) (by decide +kernel)
theorem mlk_371 : Cond.methodLink RL 371 yL_settle ∈ gW := gW_in (gT6 (List.mem_of_getElem? (i := 156) (by decide +kernel))) (by decide +kernel)
theorem mlk_375 : Cond.methodLink RL 375 yL_pay ∈ gW := gW_in (gT6 (List.mem_of_getElem? (i := 163) (by decide +kernel))) (by decide +kernel)
theorem mlk_378 : Cond.methodLink RL 378 yL_advance ∈ gW := gW_in (gT6 (List.mem_of_getElem? (i := 171) (by decide +kernel))) (by decide +kernel)
theorem mlk_381 : Cond.methodLink RL 381 yL_setRate ∈ gW := gW_in (gT6 (List.mem_of_getElem? (i := 179) (by decide +kernel))) (by decide +kernel)
theorem mlk_384 : Cond.methodLink RL 384 yL_setPercent ∈ gW := gW_in (gT6 (List.mem_of_getElem? (i := 190) (by decide +kernel))) (by decide +kernel)
theorem mlk_387 : Cond.methodLink RL 387 yL_setLay ∈ gW := gW_in (gT6 (List.mem_of_getElem? (i := 197) (by decide +kernel))) (by decide +kernel)
theorem mlk_390 : Cond.methodLink RL 390 yL_undo ∈ gW := gW_in (gT6 (List.mem_of_getElem? (i := 204) (by decide +kernel))) (by decide +kernel)
theorem mlk_398 : Cond.methodLink RL 398 yL_writeStatement ∈ gW := gW_in (gT6 (List.mem_of_getElem? (i := 215) (by decide +kernel))) (by decide +kernel)
theorem mlk_401 : Cond.methodLink RL 401 yL_writeInvoice ∈ gW := gW_in (gT7 (List.mem_of_getElem? (i := 10) (by decide +kernel))) (by decide +kernel)
theorem mlk_404 : Cond.methodLink RL 404 yL_writeTariff ∈ gW := gW_in (gT7 (List.mem_of_getElem? (i := 48) (by decide +kernel))) (by decide +kernel)
theorem mlk_407 : Cond.methodLink RL 407 yL_bestDay ∈ gW := gW_in (gT7 (List.mem_of_getElem? (i := 76) (by decide +kernel))) (by decide +kernel)
theorem mlk_410 : Cond.methodLink RL 410 yL_outputByte ∈ gW := gW_in (gT7 (List.mem_of_getElem? (i := 88) (by decide +kernel))) (by decide +kernel)
set_option maxRecDepth 20000 in
set_option maxHeartbeats 4000000 in
theorem cs_0 {p : Program} {l : Launch} {e : Env} {s : State} {m : MethodId} {args : Array Value} {below : List Frame} {meth : Method} {c : Code} {Q : State → Prop} {H : Heap} {locs : List Loc} {cells slots : Nat} {D : va_G} {cA : Nat → ClassId} {a b L : Nat} {xs : Nat → Int32} {i : Int32} {ν μ : Mm} {oc : Nat → Int64} (C : xC D cA s RL cL_law 8 (some .boolean) p s m args meth c) (hG : xG l D cA s) (hNc : xNc s) (hX : va_X a L xs s s.heap) (hal : a < s.heap.size) (hw : LW D cA s b ν μ oc H) (hS : va_S (xOut s) s.heap H locs) (hcs : cells + 200 ≤ 601024 ∧ slots + 2000 ≤ 7293034) (a1 : Int32) (a2 : Int32) (a3 : Int32) (a4 : Int32) (a5 : Int32) (r1 : vp_in (i + 1) L ∧ xs (i + 1).toNatClampNeg = a1) (r2 : vp_in (i + 2) L ∧ xs (i + 2).toNatClampNeg = a2) (r3 : vp_in (i + 3) L ∧ xs (i + 3).toNatClampNeg = a3) (r4 : vp_in (i + 4) L ∧ xs (i + 4).toNatClampNeg = a4) (r5 : vp_in (i + 5) L ∧ xs (i + 5).toNatClampNeg = a5) (r : Thr (Int32 × Mm)) (q : Int32 × Mm) (hF : g_X11_append ν a1 a2 a3 a4 a5 = some r) (hk : ∀ k, r = .error k → k = 3) (hM : g_X12_append μ a1 a2 a3 a4 a5 = some q) (ht : (thC (fun k => if k = 3 then 1 else 0) r) = f_X12_thrown q.2) (ho : (thC (fun k => if k = 3 then 1 else 0) r) = 0 → (thO (fun q => q.1.toInt64) oc r) 0 = q.1.toInt64) (kk : ∀ (H1 : Heap) (locs1 : List Loc), LW D cA s b (thM (fun q => q.2) ν r) q.2 (thO (fun q => q.1.toInt64) oc r) H1 → va_S (xOut s) s.heap H1 locs1 → xW p l e room_1 s m args below meth c 8 Q H1 locs1 (cells + 200) (slots + 2000) 4068 [(4, .int i), (3, .ref (b + 2636)), (2, .ref (b + 2628)), (1, .ref b), (0, .ref a)] []) : xW p l e room_1 s m args below meth c 8 Q H locs cells slots 312 [(4, .int i), (3, .ref (b + 2636)), (2, .ref (b + 2628)), (1, .ref b), (0, .ref a)] [] := by
  refine x_aload_n C dL_law_312 rfl ?_
  refine x_aload_n C dL_law_313 rfl ?_
  refine x_iload C dL_law_314 rfl ?_
  refine x_iconst (1 : Int32) C dL_law_316 rfl ?_
  refine x_iadd C dL_law_317 ?_
  refine x_sld C hX hal hS r1 dL_law_318 ?_
  refine x_aload_n C dL_law_319 rfl ?_
  refine x_iload C dL_law_320 rfl ?_
  refine x_iconst (2 : Int32) C dL_law_322 rfl ?_
  refine x_iadd C dL_law_323 ?_
  refine x_sld C hX hal hS r2 dL_law_324 ?_
  refine x_aload_n C dL_law_325 rfl ?_
  refine x_iload C dL_law_326 rfl ?_
  refine x_iconst (3 : Int32) C dL_law_328 rfl ?_
  refine x_iadd C dL_law_329 ?_
  refine x_sld C hX hal hS r3 dL_law_330 ?_
  refine x_aload_n C dL_law_331 rfl ?_
  refine x_iload C dL_law_332 rfl ?_
  refine x_iconst (4 : Int32) C dL_law_334 rfl ?_
  refine x_iadd C dL_law_335 ?_
  refine x_sld C hX hal hS r4 dL_law_336 ?_
  refine x_aload_n C dL_law_337 rfl ?_
  refine x_iload C dL_law_338 rfl ?_
  refine x_iconst (5 : Int32) C dL_law_340 rfl ?_
  refine x_iadd C dL_law_341 ?_
  refine x_sld C hX hal hS r5 dL_law_342 ?_
  refine x_aload_n C dL_law_343 rfl ?_
  refine x_goM (fun ls h => x_runH (As := [.ref b, .int a1, .int a2, .int a3, .int a4, .int a5, .ref (b + 2636)]) [] h C (mw_L_append 203 mlk_203) (k_L_append l D cA s (b + 2637) b ν _ hG hNc (b + 2636) (by omega) (by omega) oc a1 a2 a3 a4 a5 r hF hk) ⟨rfl, rfl, nb rfl, nb rfl⟩ rfl ⟨rfl, hw.1, hw.2.2⟩ (nb rfl) ⟨by show _ ≤ 601024; omega, by show _ ≤ 7293034; omega⟩ dL_law_344) hS hw.aL (fun H1 locs1 hw1 hz1 hk1 hS1 => ?_)
  replace hw := hw.cls hw1 hk1
  replace hS := hS1
  clear hw1 hk1 hz1 hS1
  refine x_istore [(5, .int (thC (fun k => if k = 3 then 1 else 0) r)), (4, .int i), (3, .ref (b + 2636)), (2, .ref (b + 2628)), (1, .ref b), (0, .ref a)] C dL_law_347 (by decide) rfl ?_
  refine x_aload_n C dL_law_349 rfl ?_
  refine x_aload_n C dL_law_350 rfl ?_
  refine x_iload C dL_law_351 rfl ?_
  refine x_iconst (1 : Int32) C dL_law_353 rfl ?_
  refine x_iadd C dL_law_354 ?_
  refine x_sld C hX hal hS r1 dL_law_355 ?_
  refine x_aload_n C dL_law_356 rfl ?_
  refine x_iload C dL_law_357 rfl ?_
  refine x_iconst (2 : Int32) C dL_law_359 rfl ?_
  refine x_iadd C dL_law_360 ?_
  refine x_sld C hX hal hS r2 dL_law_361 ?_
  refine x_aload_n C dL_law_362 rfl ?_
  refine x_iload C dL_law_363 rfl ?_
  refine x_iconst (3 : Int32) C dL_law_365 rfl ?_
  refine x_iadd C dL_law_366 ?_
  refine x_sld C hX hal hS r3 dL_law_367 ?_
  refine x_aload_n C dL_law_368 rfl ?_
  refine x_iload C dL_law_369 rfl ?_
  refine x_iconst (4 : Int32) C dL_law_371 rfl ?_
  refine x_iadd C dL_law_372 ?_
  refine x_sld C hX hal hS r4 dL_law_373 ?_
  refine x_aload_n C dL_law_374 rfl ?_
  refine x_iload C dL_law_375 rfl ?_
  refine x_iconst (5 : Int32) C dL_law_377 rfl ?_
  refine x_iadd C dL_law_378 ?_
  refine x_sld C hX hal hS r5 dL_law_379 ?_
  refine x_goM (fun ls h => x_runV (As := [.int a1, .int a2, .int a3, .int a4, .int a5]) [] h C ml_L_208 (k_X12_append l D cA s (b + 2637) (b + 2628) μ _ hG a1 a2 a3 a4 a5 q hM) ⟨rfl, rfl, nb rfl, nb rfl⟩ rfl (M_obj hw.2.1.2.2.2.2) rfl ⟨rfl, hw.2.1⟩ (nb rfl) ⟨by show _ ≤ 601024; omega, by show _ ≤ 7293034; omega⟩ dL_law_380) hS hw.aM (fun H2 locs2 hw1 hz1 hk1 hS1 => ?_)
  replace hw := hw.mod hw1 hk1
  replace hS := hS1
  clear hw1 hk1 hz1 hS1
  refine x_istore [(6, .int q.1), (5, .int (thC (fun k => if k = 3 then 1 else 0) r)), (4, .int i), (3, .ref (b + 2636)), (2, .ref (b + 2628)), (1, .ref b), (0, .ref a)] C dL_law_383 (by decide) rfl ?_
  refine x_aload_n C dL_law_385 rfl ?_
  refine x_goR (fun ls h => x_runV (As := []) [] h C ml_L_209 (c_X12_thrown l D cA s (b + 2628) q.2) ⟨rfl, rfl, nb rfl, nb rfl⟩ rfl (M_obj hw.2.1.2.2.2.2) rfl hw.2.1.2.2.2.2 (nb rfl) ⟨by show _ ≤ 601024; omega, by show _ ≤ 7293034; omega⟩ dL_law_386) ?_
  refine x_iload C dL_law_389 rfl ?_
  refine x_icmp_eq 396 C dL_law_391 (by decide) (fun _ => ?_) (fun z => absurd ht.symm z)
  refine x_iload C dL_law_396 rfl ?_
  refine x_if_ne 413 C dL_law_398 (by decide) (fun _ => ?_) (fun h0 => ?_)
  · refine x_goto 4068 C dL_law_413 (by decide) ?_
    refine x_sub [(4, .int i), (3, .ref (b + 2636)), (2, .ref (b + 2628)), (1, .ref b), (0, .ref a)] [2, 3, 4, 5, 6] rfl ?_
    refine x_widen (k := cells + 200) (n := slots + 2000) (by omega) (by omega) ?_
    exact kk _ _ hw hS
  have ho := ho h0
  refine x_aload_n C dL_law_401 rfl ?_
  refine x_iconst (0 : Int32) C dL_law_402 rfl ?_
  refine x_lald C hw.2.2 in01 dL_law_403 ?_
  refine x_iload C dL_law_404 rfl ?_
  refine x_i2l C dL_law_406 ?_
  refine x_lcmp_eq 413 C dL_law_407 dL_law_408 (by decide) (fun _ => ?_) (fun z => absurd ho z)
  refine x_goto 4068 C dL_law_413 (by decide) ?_
  refine x_sub [(4, .int i), (3, .ref (b + 2636)), (2, .ref (b + 2628)), (1, .ref b), (0, .ref a)] [2, 3, 4, 5, 6] rfl ?_
  refine x_widen (k := cells + 200) (n := slots + 2000) (by omega) (by omega) ?_
  exact kk _ _ hw hS
set_option maxRecDepth 20000 in
set_option maxHeartbeats 4000000 in
theorem cs_1 {p : Program} {l : Launch} {e : Env} {s : State} {m : MethodId} {args : Array Value} {below : List Frame} {meth : Method} {c : Code} {Q : State → Prop} {H : Heap} {locs : List Loc} {cells slots : Nat} {D : va_G} {cA : Nat → ClassId} {a b L : Nat} {xs : Nat → Int32} {i : Int32} {ν μ : Mm} {oc : Nat → Int64} (C : xC D cA s RL cL_law 8 (some .boolean) p s m args meth c) (hG : xG l D cA s) (hNc : xNc s) (hX : va_X a L xs s s.heap) (hal : a < s.heap.size) (hw : LW D cA s b ν μ oc H) (hS : va_S (xOut s) s.heap H locs) (hcs : cells + 200 ≤ 601024 ∧ slots + 2000 ≤ 7293034) (a1 : Int32) (r1 : vp_in (i + 1) L ∧ xs (i + 1).toNatClampNeg = a1) (r : Thr (Mm)) (q : Mm) (hF : g_X11_truncate ν a1 = some r) (hk : ∀ k, r = .error k → k = 2) (hM : g_X12_truncate μ a1 = some q) (ht : (thC (fun k => if k = 2 then 1 else 0) r) = f_X12_thrown q) (kk : ∀ (H1 : Heap) (locs1 : List Loc), LW D cA s b (thM (fun q => q) ν r) q oc H1 → va_S (xOut s) s.heap H1 locs1 → xW p l e room_1 s m args below meth c 8 Q H1 locs1 (cells + 200) (slots + 2000) 4068 [(4, .int i), (3, .ref (b + 2636)), (2, .ref (b + 2628)), (1, .ref b), (0, .ref a)] []) : xW p l e room_1 s m args below meth c 8 Q H locs cells slots 416 [(4, .int i), (3, .ref (b + 2636)), (2, .ref (b + 2628)), (1, .ref b), (0, .ref a)] [] := by
  refine x_aload_n C dL_law_416 rfl ?_
  refine x_aload_n C dL_law_417 rfl ?_
  refine x_iload C dL_law_418 rfl ?_
  refine x_iconst (1 : Int32) C dL_law_420 rfl ?_
  refine x_iadd C dL_law_421 ?_
  refine x_sld C hX hal hS r1 dL_law_422 ?_
  refine x_goM (fun ls h => x_runH (As := [.ref b, .int a1]) [] h C (mw_L_truncate 212 mlk_212) (k_L_truncate l D cA s (b + 2637) b ν _ hG hNc a1 r hF hk) ⟨rfl, rfl, nb rfl, nb rfl⟩ rfl ⟨rfl, hw.1⟩ (nb rfl) ⟨by show _ ≤ 601024; omega, by show _ ≤ 7293034; omega⟩ dL_law_423) hS hw.aC (fun H1 locs1 hw1 hz1 hk1 hS1 => ?_)
  replace hw := hw.clsT hw1 hk1
  replace hS := hS1
  clear hw1 hk1 hz1 hS1
  refine x_istore [(5, .int (thC (fun k => if k = 2 then 1 else 0) r)), (4, .int i), (3, .ref (b + 2636)), (2, .ref (b + 2628)), (1, .ref b), (0, .ref a)] C dL_law_426 (by decide) rfl ?_
  refine x_aload_n C dL_law_428 rfl ?_
  refine x_aload_n C dL_law_429 rfl ?_
  refine x_iload C dL_law_430 rfl ?_
  refine x_iconst (1 : Int32) C dL_law_432 rfl ?_
  refine x_iadd C dL_law_433 ?_
  refine x_sld C hX hal hS r1 dL_law_434 ?_
  refine x_goM (fun ls h => x_runV (As := [.int a1]) [] h C ml_L_215 (k_X12_truncate l D cA s (b + 2637) (b + 2628) μ _ hG a1 q hM) ⟨rfl, rfl, nb rfl, nb rfl⟩ rfl (M_obj hw.2.1.2.2.2.2) rfl ⟨rfl, hw.2.1⟩ (nb rfl) ⟨by show _ ≤ 601024; omega, by show _ ≤ 7293034; omega⟩ dL_law_435) hS hw.aM (fun H2 locs2 hw1 hz1 hk1 hS1 => ?_)
  replace hw := hw.mod hw1 hk1
  replace hS := hS1
  clear hw1 hk1 hz1 hS1
  refine x_aload_n C dL_law_438 rfl ?_
  refine x_goR (fun ls h => x_runV (As := []) [] h C ml_L_209 (c_X12_thrown l D cA s (b + 2628) q) ⟨rfl, rfl, nb rfl, nb rfl⟩ rfl (M_obj hw.2.1.2.2.2.2) rfl hw.2.1.2.2.2.2 (nb rfl) ⟨by show _ ≤ 601024; omega, by show _ ≤ 7293034; omega⟩ dL_law_439) ?_
  refine x_iload C dL_law_442 rfl ?_
  refine x_icmp_eq 449 C dL_law_444 (by decide) (fun _ => ?_) (fun z => absurd ht.symm z)
  refine x_goto 4068 C dL_law_449 (by decide) ?_
  refine x_sub [(4, .int i), (3, .ref (b + 2636)), (2, .ref (b + 2628)), (1, .ref b), (0, .ref a)] [1, 2, 3, 4, 5] rfl ?_
  refine x_widen (k := cells + 200) (n := slots + 2000) (by omega) (by omega) ?_
  exact kk _ _ hw hS
set_option maxRecDepth 20000 in
set_option maxHeartbeats 4000000 in
theorem cs_2 {p : Program} {l : Launch} {e : Env} {s : State} {m : MethodId} {args : Array Value} {below : List Frame} {meth : Method} {c : Code} {Q : State → Prop} {H : Heap} {locs : List Loc} {cells slots : Nat} {D : va_G} {cA : Nat → ClassId} {a b L : Nat} {xs : Nat → Int32} {i : Int32} {ν μ : Mm} {oc : Nat → Int64} (C : xC D cA s RL cL_law 8 (some .boolean) p s m args meth c) (hG : xG l D cA s) (hNc : xNc s) (hX : va_X a L xs s s.heap) (hal : a < s.heap.size) (hw : LW D cA s b ν μ oc H) (hS : va_S (xOut s) s.heap H locs) (hcs : cells + 200 ≤ 601024 ∧ slots + 2000 ≤ 7293034)   (r : Int32 × Mm) (q : Int32 × Mm) (hF : g_X11_load ν = some r) (hM : g_X12_load μ = some q) (hx : r.1 = q.1) (kk : ∀ (H1 : Heap) (locs1 : List Loc), LW D cA s b r.2 q.2 oc H1 → va_S (xOut s) s.heap H1 locs1 → xW p l e room_1 s m args below meth c 8 Q H1 locs1 (cells + 200) (slots + 2000) 4068 [(4, .int i), (3, .ref (b + 2636)), (2, .ref (b + 2628)), (1, .ref b), (0, .ref a)] []) : xW p l e room_1 s m args below meth c 8 Q H locs cells slots 452 [(4, .int i), (3, .ref (b + 2636)), (2, .ref (b + 2628)), (1, .ref b), (0, .ref a)] [] := by
  refine x_aload_n C dL_law_452 rfl ?_
  refine x_goM (fun ls h => x_runV (As := []) [] h C ml_L_216 (k_X11_load l D cA s (b + 2637) b ν _ hG r hF) ⟨rfl, rfl, nb rfl, nb rfl⟩ rfl (C_PD hw.1) rfl ⟨rfl, hw.1⟩ (nb rfl) ⟨by show _ ≤ 601024; omega, by show _ ≤ 7293034; omega⟩ dL_law_453) hS hw.aC (fun H1 locs1 hw1 hz1 hk1 hS1 => ?_)
  replace hw := hw.clsT hw1 hk1
  replace hS := hS1
  clear hw1 hk1 hz1 hS1
  refine x_aload_n C dL_law_456 rfl ?_
  refine x_goM (fun ls h => x_runV (As := []) [.int r.1] h C ml_L_219 (k_X12_load l D cA s (b + 2637) (b + 2628) μ _ hG q hM) ⟨rfl, rfl, nb rfl, nb rfl⟩ rfl (M_obj hw.2.1.2.2.2.2) rfl ⟨rfl, hw.2.1⟩ (nb rfl) ⟨by show _ ≤ 601024; omega, by show _ ≤ 7293034; omega⟩ dL_law_457) hS hw.aM (fun H2 locs2 hw1 hz1 hk1 hS1 => ?_)
  replace hw := hw.mod hw1 hk1
  replace hS := hS1
  clear hw1 hk1 hz1 hS1
  refine x_icmp_eq 4068 C dL_law_460 (by decide) (fun _ => ?_) (fun z => absurd hx z)
  refine x_widen (k := cells + 200) (n := slots + 2000) (by omega) (by omega) ?_
  exact kk _ _ hw hS
set_option maxRecDepth 20000 in
set_option maxHeartbeats 4000000 in
theorem cs_3 {p : Program} {l : Launch} {e : Env} {s : State} {m : MethodId} {args : Array Value} {below : List Frame} {meth : Method} {c : Code} {Q : State → Prop} {H : Heap} {locs : List Loc} {cells slots : Nat} {D : va_G} {cA : Nat → ClassId} {a b L : Nat} {xs : Nat → Int32} {i : Int32} {ν μ : Mm} {oc : Nat → Int64} (C : xC D cA s RL cL_law 8 (some .boolean) p s m args meth c) (hG : xG l D cA s) (hNc : xNc s) (hX : va_X a L xs s s.heap) (hal : a < s.heap.size) (hw : LW D cA s b ν μ oc H) (hS : va_S (xOut s) s.heap H locs) (hcs : cells + 200 ≤ 601024 ∧ slots + 2000 ≤ 7293034)   (r : Int32) (q : Int32 × Mm) (hF : g_X11_errorCode ν = some r) (hM : g_X12_errorCode μ = some q) (hx : r = q.1) (kk : ∀ (H1 : Heap) (locs1 : List Loc), LW D cA s b ν q.2 oc H1 → va_S (xOut s) s.heap H1 locs1 → xW p l e room_1 s m args below meth c 8 Q H1 locs1 (cells + 200) (slots + 2000) 4068 [(4, .int i), (3, .ref (b + 2636)), (2, .ref (b + 2628)), (1, .ref b), (0, .ref a)] []) : xW p l e room_1 s m args below meth c 8 Q H locs cells slots 465 [(4, .int i), (3, .ref (b + 2636)), (2, .ref (b + 2628)), (1, .ref b), (0, .ref a)] [] := by
  refine x_aload_n C dL_law_465 rfl ?_
  refine x_goR (fun ls h => x_runV (As := []) [] h C ml_L_220 (k_X11_errorCode l D cA s (b + 2637) b ν hG r hF) ⟨rfl, rfl, nb rfl, nb rfl⟩ rfl (C_PD hw.1) rfl hw.1 (nb rfl) ⟨by show _ ≤ 601024; omega, by show _ ≤ 7293034; omega⟩ dL_law_466) ?_
  refine x_aload_n C dL_law_469 rfl ?_
  refine x_goM (fun ls h => x_runV (As := []) [.int r] h C ml_L_223 (k_X12_errorCode l D cA s (b + 2637) (b + 2628) μ _ hG q hM) ⟨rfl, rfl, nb rfl, nb rfl⟩ rfl (M_obj hw.2.1.2.2.2.2) rfl ⟨rfl, hw.2.1⟩ (nb rfl) ⟨by show _ ≤ 601024; omega, by show _ ≤ 7293034; omega⟩ dL_law_470) hS hw.aM (fun H2 locs2 hw1 hz1 hk1 hS1 => ?_)
  replace hw := hw.mod hw1 hk1
  replace hS := hS1
  clear hw1 hk1 hz1 hS1
  refine x_icmp_eq 4068 C dL_law_473 (by decide) (fun _ => ?_) (fun z => absurd hx z)
  refine x_widen (k := cells + 200) (n := slots + 2000) (by omega) (by omega) ?_
  exact kk _ _ hw hS
set_option maxRecDepth 20000 in
set_option maxHeartbeats 4000000 in
theorem cs_4 {p : Program} {l : Launch} {e : Env} {s : State} {m : MethodId} {args : Array Value} {below : List Frame} {meth : Method} {c : Code} {Q : State → Prop} {H : Heap} {locs : List Loc} {cells slots : Nat} {D : va_G} {cA : Nat → ClassId} {a b L : Nat} {xs : Nat → Int32} {i : Int32} {ν μ : Mm} {oc : Nat → Int64} (C : xC D cA s RL cL_law 8 (some .boolean) p s m args meth c) (hG : xG l D cA s) (hNc : xNc s) (hX : va_X a L xs s s.heap) (hal : a < s.heap.size) (hw : LW D cA s b ν μ oc H) (hS : va_S (xOut s) s.heap H locs) (hcs : cells + 200 ≤ 601024 ∧ slots + 2000 ≤ 7293034)   (r : Int32) (q : Int32 × Mm) (hF : g_X11_errorPosition ν = some r) (hM : g_X12_errorPosition μ = some q) (hx : r = q.1) (kk : ∀ (H1 : Heap) (locs1 : List Loc), LW D cA s b ν q.2 oc H1 → va_S (xOut s) s.heap H1 locs1 → xW p l e room_1 s m args below meth c 8 Q H1 locs1 (cells + 200) (slots + 2000) 4068 [(4, .int i), (3, .ref (b + 2636)), (2, .ref (b + 2628)), (1, .ref b), (0, .ref a)] []) : xW p l e room_1 s m args below meth c 8 Q H locs cells slots 478 [(4, .int i), (3, .ref (b + 2636)), (2, .ref (b + 2628)), (1, .ref b), (0, .ref a)] [] := by
  refine x_aload_n C dL_law_478 rfl ?_
  refine x_goR (fun ls h => x_runV (As := []) [] h C ml_L_224 (k_X11_errorPosition l D cA s (b + 2637) b ν hG r hF) ⟨rfl, rfl, nb rfl, nb rfl⟩ rfl (C_PD hw.1) rfl hw.1 (nb rfl) ⟨by show _ ≤ 601024; omega, by show _ ≤ 7293034; omega⟩ dL_law_479) ?_
  refine x_aload_n C dL_law_482 rfl ?_
  refine x_goM (fun ls h => x_runV (As := []) [.int r] h C ml_L_227 (k_X12_errorPosition l D cA s (b + 2637) (b + 2628) μ _ hG q hM) ⟨rfl, rfl, nb rfl, nb rfl⟩ rfl (M_obj hw.2.1.2.2.2.2) rfl ⟨rfl, hw.2.1⟩ (nb rfl) ⟨by show _ ≤ 601024; omega, by show _ ≤ 7293034; omega⟩ dL_law_483) hS hw.aM (fun H2 locs2 hw1 hz1 hk1 hS1 => ?_)
  replace hw := hw.mod hw1 hk1
  replace hS := hS1
  clear hw1 hk1 hz1 hS1
  refine x_icmp_eq 4068 C dL_law_486 (by decide) (fun _ => ?_) (fun z => absurd hx z)
  refine x_widen (k := cells + 200) (n := slots + 2000) (by omega) (by omega) ?_
  exact kk _ _ hw hS
set_option maxRecDepth 20000 in
set_option maxHeartbeats 4000000 in
theorem cs_5 {p : Program} {l : Launch} {e : Env} {s : State} {m : MethodId} {args : Array Value} {below : List Frame} {meth : Method} {c : Code} {Q : State → Prop} {H : Heap} {locs : List Loc} {cells slots : Nat} {D : va_G} {cA : Nat → ClassId} {a b L : Nat} {xs : Nat → Int32} {i : Int32} {ν μ : Mm} {oc : Nat → Int64} (C : xC D cA s RL cL_law 8 (some .boolean) p s m args meth c) (hG : xG l D cA s) (hNc : xNc s) (hX : va_X a L xs s s.heap) (hal : a < s.heap.size) (hw : LW D cA s b ν μ oc H) (hS : va_S (xOut s) s.heap H locs) (hcs : cells + 200 ≤ 601024 ∧ slots + 2000 ≤ 7293034)   (r : Int32 × Mm) (q : Int32 × Mm) (hF : g_X11_find ν = some r) (hM : g_X12_find μ = some q) (hx : r.1 = q.1) (kk : ∀ (H1 : Heap) (locs1 : List Loc), LW D cA s b r.2 q.2 oc H1 → va_S (xOut s) s.heap H1 locs1 → xW p l e room_1 s m args below meth c 8 Q H1 locs1 (cells + 200) (slots + 2000) 4068 [(4, .int i), (3, .ref (b + 2636)), (2, .ref (b + 2628)), (1, .ref b), (0, .ref a)] []) : xW p l e room_1 s m args below meth c 8 Q H locs cells slots 491 [(4, .int i), (3, .ref (b + 2636)), (2, .ref (b + 2628)), (1, .ref b), (0, .ref a)] [] := by
  refine x_aload_n C dL_law_491 rfl ?_
  refine x_goM (fun ls h => x_runV (As := []) [] h C ml_L_228 (k_X11_find l D cA s (b + 2637) b ν _ hG r hF) ⟨rfl, rfl, nb rfl, nb rfl⟩ rfl (C_PD hw.1) rfl ⟨rfl, hw.1⟩ (nb rfl) ⟨by show _ ≤ 601024; omega, by show _ ≤ 7293034; omega⟩ dL_law_492) hS hw.aC (fun H1 locs1 hw1 hz1 hk1 hS1 => ?_)
  replace hw := hw.clsT hw1 hk1
  replace hS := hS1
  clear hw1 hk1 hz1 hS1
  refine x_aload_n C dL_law_495 rfl ?_
  refine x_goM (fun ls h => x_runV (As := []) [.int r.1] h C ml_L_231 (k_X12_find l D cA s (b + 2637) (b + 2628) μ _ hG q hM) ⟨rfl, rfl, nb rfl, nb rfl⟩ rfl (M_obj hw.2.1.2.2.2.2) rfl ⟨rfl, hw.2.1⟩ (nb rfl) ⟨by show _ ≤ 601024; omega, by show _ ≤ 7293034; omega⟩ dL_law_496) hS hw.aM (fun H2 locs2 hw1 hz1 hk1 hS1 => ?_)
  replace hw := hw.mod hw1 hk1
  replace hS := hS1
  clear hw1 hk1 hz1 hS1
  refine x_icmp_eq 4068 C dL_law_499 (by decide) (fun _ => ?_) (fun z => absurd hx z)
  refine x_widen (k := cells + 200) (n := slots + 2000) (by omega) (by omega) ?_
  exact kk _ _ hw hS
set_option maxRecDepth 20000 in
set_option maxHeartbeats 4000000 in
theorem cs_6 {p : Program} {l : Launch} {e : Env} {s : State} {m : MethodId} {args : Array Value} {below : List Frame} {meth : Method} {c : Code} {Q : State → Prop} {H : Heap} {locs : List Loc} {cells slots : Nat} {D : va_G} {cA : Nat → ClassId} {a b L : Nat} {xs : Nat → Int32} {i : Int32} {ν μ : Mm} {oc : Nat → Int64} (C : xC D cA s RL cL_law 8 (some .boolean) p s m args meth c) (hG : xG l D cA s) (hNc : xNc s) (hX : va_X a L xs s s.heap) (hal : a < s.heap.size) (hw : LW D cA s b ν μ oc H) (hS : va_S (xOut s) s.heap H locs) (hcs : cells + 200 ≤ 601024 ∧ slots + 2000 ≤ 7293034) (a1 : Int32) (r1 : vp_in (i + 1) L ∧ xs (i + 1).toNatClampNeg = a1) (r : Thr Int32) (q : Int32 × Mm) (hF : g_X11_count ν a1 = some r) (hk : ∀ k, r = .error k → k = 2) (hok : OkR (μ.1 1)) (hM : f_X12_count μ a1 = q) (ht : (thC (fun k => if k = 2 then 1 else 0) r) = f_X12_thrown q.2) (ho : (thC (fun k => if k = 2 then 1 else 0) r) = 0 → (thO (fun q => q.toInt64) oc r) 0 = q.1.toInt64) (kk : ∀ (H1 : Heap) (locs1 : List Loc), LW D cA s b (thM (fun _ => ν) ν r) q.2 (thO (fun q => q.toInt64) oc r) H1 → va_S (xOut s) s.heap H1 locs1 → xW p l e room_1 s m args below meth c 8 Q H1 locs1 (cells + 200) (slots + 2000) 4068 [(4, .int i), (3, .ref (b + 2636)), (2, .ref (b + 2628)), (1, .ref b), (0, .ref a)] []) : xW p l e room_1 s m args below meth c 8 Q H locs cells slots 504 [(4, .int i), (3, .ref (b + 2636)), (2, .ref (b + 2628)), (1, .ref b), (0, .ref a)] [] := by
  refine x_aload_n C dL_law_504 rfl ?_
  refine x_aload_n C dL_law_505 rfl ?_
  refine x_iload C dL_law_506 rfl ?_
  refine x_iconst (1 : Int32) C dL_law_508 rfl ?_
  refine x_iadd C dL_law_509 ?_
  refine x_sld C hX hal hS r1 dL_law_510 ?_
  refine x_aload_n C dL_law_511 rfl ?_
  refine x_goM (fun ls h => x_runH (As := [.ref b, .int a1, .ref (b + 2636)]) [] h C (mw_L_count 232 mlk_232) (k_L_count l D cA s (b + 2637) b ν _ hG hNc (b + 2636) (by omega) (by omega) oc a1 r hF hk) ⟨rfl, rfl, nb rfl, nb rfl⟩ rfl ⟨rfl, hw.1, hw.2.2⟩ (nb rfl) ⟨by show _ ≤ 601024; omega, by show _ ≤ 7293034; omega⟩ dL_law_512) hS hw.aL (fun H1 locs1 hw1 hz1 hk1 hS1 => ?_)
  replace hw := hw.cls hw1 hk1
  replace hS := hS1
  clear hw1 hk1 hz1 hS1
  refine x_istore [(5, .int (thC (fun k => if k = 2 then 1 else 0) r)), (4, .int i), (3, .ref (b + 2636)), (2, .ref (b + 2628)), (1, .ref b), (0, .ref a)] C dL_law_515 (by decide) rfl ?_
  refine x_aload_n C dL_law_517 rfl ?_
  refine x_aload_n C dL_law_518 rfl ?_
  refine x_iload C dL_law_519 rfl ?_
  refine x_iconst (1 : Int32) C dL_law_521 rfl ?_
  refine x_iadd C dL_law_522 ?_
  refine x_sld C hX hal hS r1 dL_law_523 ?_
  have K := c_X12_count l D cA s (b + 2628) μ H1.size hok a1
  rw [hM] at K
  refine x_goM (fun ls h => x_runV (As := [.int a1]) [] h C ml_L_235 K ⟨rfl, rfl, nb rfl, nb rfl⟩ rfl (M_obj hw.2.1.2.2.2.2) rfl ⟨rfl, hw.2.1.2.2.2.2⟩ (nb rfl) ⟨by show _ ≤ 601024; omega, by show _ ≤ 7293034; omega⟩ dL_law_524) hS hw.aM (fun H2 locs2 hw1 hz1 hk1 hS1 => ?_)
  replace hw := hw.modM hw1 hz1 hk1
  replace hS := hS1
  clear hw1 hk1 hz1 hS1
  refine x_istore [(6, .int q.1), (5, .int (thC (fun k => if k = 2 then 1 else 0) r)), (4, .int i), (3, .ref (b + 2636)), (2, .ref (b + 2628)), (1, .ref b), (0, .ref a)] C dL_law_527 (by decide) rfl ?_
  refine x_aload_n C dL_law_529 rfl ?_
  refine x_goR (fun ls h => x_runV (As := []) [] h C ml_L_209 (c_X12_thrown l D cA s (b + 2628) q.2) ⟨rfl, rfl, nb rfl, nb rfl⟩ rfl (M_obj hw.2.1.2.2.2.2) rfl hw.2.1.2.2.2.2 (nb rfl) ⟨by show _ ≤ 601024; omega, by show _ ≤ 7293034; omega⟩ dL_law_530) ?_
  refine x_iload C dL_law_533 rfl ?_
  refine x_icmp_eq 540 C dL_law_535 (by decide) (fun _ => ?_) (fun z => absurd ht.symm z)
  refine x_iload C dL_law_540 rfl ?_
  refine x_if_ne 557 C dL_law_542 (by decide) (fun _ => ?_) (fun h0 => ?_)
  · refine x_goto 4068 C dL_law_557 (by decide) ?_
    refine x_sub [(4, .int i), (3, .ref (b + 2636)), (2, .ref (b + 2628)), (1, .ref b), (0, .ref a)] [2, 3, 4, 5, 6] rfl ?_
    refine x_widen (k := cells + 200) (n := slots + 2000) (by omega) (by omega) ?_
    exact kk _ _ hw hS
  have ho := ho h0
  refine x_aload_n C dL_law_545 rfl ?_
  refine x_iconst (0 : Int32) C dL_law_546 rfl ?_
  refine x_lald C hw.2.2 in01 dL_law_547 ?_
  refine x_iload C dL_law_548 rfl ?_
  refine x_i2l C dL_law_550 ?_
  refine x_lcmp_eq 557 C dL_law_551 dL_law_552 (by decide) (fun _ => ?_) (fun z => absurd ho z)
  refine x_goto 4068 C dL_law_557 (by decide) ?_
  refine x_sub [(4, .int i), (3, .ref (b + 2636)), (2, .ref (b + 2628)), (1, .ref b), (0, .ref a)] [2, 3, 4, 5, 6] rfl ?_
  refine x_widen (k := cells + 200) (n := slots + 2000) (by omega) (by omega) ?_
  exact kk _ _ hw hS
set_option maxRecDepth 20000 in
set_option maxHeartbeats 4000000 in
theorem cs_7 {p : Program} {l : Launch} {e : Env} {s : State} {m : MethodId} {args : Array Value} {below : List Frame} {meth : Method} {c : Code} {Q : State → Prop} {H : Heap} {locs : List Loc} {cells slots : Nat} {D : va_G} {cA : Nat → ClassId} {a b L : Nat} {xs : Nat → Int32} {i : Int32} {ν μ : Mm} {oc : Nat → Int64} (C : xC D cA s RL cL_law 8 (some .boolean) p s m args meth c) (hG : xG l D cA s) (hNc : xNc s) (hX : va_X a L xs s s.heap) (hal : a < s.heap.size) (hw : LW D cA s b ν μ oc H) (hS : va_S (xOut s) s.heap H locs) (hcs : cells + 200 ≤ 601024 ∧ slots + 2000 ≤ 7293034) (a1 : Int32) (r1 : vp_in (i + 1) L ∧ xs (i + 1).toNatClampNeg = a1) (r : Thr Int32) (q : Int32 × Mm) (hF : g_X11_tariff ν a1 = some r) (hk : ∀ k, r = .error k → k = 2) (hok : OkR (μ.1 1)) (hM : f_X12_tariff μ a1 = q) (ht : (thC (fun k => if k = 2 then 1 else 0) r) = f_X12_thrown q.2) (ho : (thC (fun k => if k = 2 then 1 else 0) r) = 0 → (thO (fun q => q.toInt64) oc r) 0 = q.1.toInt64) (kk : ∀ (H1 : Heap) (locs1 : List Loc), LW D cA s b (thM (fun _ => ν) ν r) q.2 (thO (fun q => q.toInt64) oc r) H1 → va_S (xOut s) s.heap H1 locs1 → xW p l e room_1 s m args below meth c 8 Q H1 locs1 (cells + 200) (slots + 2000) 4068 [(4, .int i), (3, .ref (b + 2636)), (2, .ref (b + 2628)), (1, .ref b), (0, .ref a)] []) : xW p l e room_1 s m args below meth c 8 Q H locs cells slots 560 [(4, .int i), (3, .ref (b + 2636)), (2, .ref (b + 2628)), (1, .ref b), (0, .ref a)] [] := by
  refine x_aload_n C dL_law_560 rfl ?_
  refine x_aload_n C dL_law_561 rfl ?_
  refine x_iload C dL_law_562 rfl ?_
  refine x_iconst (1 : Int32) C dL_law_564 rfl ?_
  refine x_iadd C dL_law_565 ?_
  refine x_sld C hX hal hS r1 dL_law_566 ?_
  refine x_aload_n C dL_law_567 rfl ?_
  refine x_goM (fun ls h => x_runH (As := [.ref b, .int a1, .ref (b + 2636)]) [] h C (mw_L_tariff 236 mlk_236) (k_L_tariff l D cA s (b + 2637) b ν _ hG hNc (b + 2636) (by omega) (by omega) oc a1 r hF hk) ⟨rfl, rfl, nb rfl, nb rfl⟩ rfl ⟨rfl, hw.1, hw.2.2⟩ (nb rfl) ⟨by show _ ≤ 601024; omega, by show _ ≤ 7293034; omega⟩ dL_law_568) hS hw.aL (fun H1 locs1 hw1 hz1 hk1 hS1 => ?_)
  replace hw := hw.cls hw1 hk1
  replace hS := hS1
  clear hw1 hk1 hz1 hS1
  refine x_istore [(5, .int (thC (fun k => if k = 2 then 1 else 0) r)), (4, .int i), (3, .ref (b + 2636)), (2, .ref (b + 2628)), (1, .ref b), (0, .ref a)] C dL_law_571 (by decide) rfl ?_
  refine x_aload_n C dL_law_573 rfl ?_
  refine x_aload_n C dL_law_574 rfl ?_
  refine x_iload C dL_law_575 rfl ?_
  refine x_iconst (1 : Int32) C dL_law_577 rfl ?_
  refine x_iadd C dL_law_578 ?_
  refine x_sld C hX hal hS r1 dL_law_579 ?_
  have K := c_X12_tariff l D cA s (b + 2628) μ H1.size hok a1
  rw [hM] at K
  refine x_goM (fun ls h => x_runV (As := [.int a1]) [] h C ml_L_238 K ⟨rfl, rfl, nb rfl, nb rfl⟩ rfl (M_obj hw.2.1.2.2.2.2) rfl ⟨rfl, hw.2.1.2.2.2.2⟩ (nb rfl) ⟨by show _ ≤ 601024; omega, by show _ ≤ 7293034; omega⟩ dL_law_580) hS hw.aM (fun H2 locs2 hw1 hz1 hk1 hS1 => ?_)
  replace hw := hw.modM hw1 hz1 hk1
  replace hS := hS1
  clear hw1 hk1 hz1 hS1
  refine x_istore [(6, .int q.1), (5, .int (thC (fun k => if k = 2 then 1 else 0) r)), (4, .int i), (3, .ref (b + 2636)), (2, .ref (b + 2628)), (1, .ref b), (0, .ref a)] C dL_law_583 (by decide) rfl ?_
  refine x_aload_n C dL_law_585 rfl ?_
  refine x_goR (fun ls h => x_runV (As := []) [] h C ml_L_209 (c_X12_thrown l D cA s (b + 2628) q.2) ⟨rfl, rfl, nb rfl, nb rfl⟩ rfl (M_obj hw.2.1.2.2.2.2) rfl hw.2.1.2.2.2.2 (nb rfl) ⟨by show _ ≤ 601024; omega, by show _ ≤ 7293034; omega⟩ dL_law_586) ?_
  refine x_iload C dL_law_589 rfl ?_
  refine x_icmp_eq 596 C dL_law_591 (by decide) (fun _ => ?_) (fun z => absurd ht.symm z)
  refine x_iload C dL_law_596 rfl ?_
  refine x_if_ne 613 C dL_law_598 (by decide) (fun _ => ?_) (fun h0 => ?_)
  · refine x_goto 4068 C dL_law_613 (by decide) ?_
    refine x_sub [(4, .int i), (3, .ref (b + 2636)), (2, .ref (b + 2628)), (1, .ref b), (0, .ref a)] [2, 3, 4, 5, 6] rfl ?_
    refine x_widen (k := cells + 200) (n := slots + 2000) (by omega) (by omega) ?_
    exact kk _ _ hw hS
  have ho := ho h0
  refine x_aload_n C dL_law_601 rfl ?_
  refine x_iconst (0 : Int32) C dL_law_602 rfl ?_
  refine x_lald C hw.2.2 in01 dL_law_603 ?_
  refine x_iload C dL_law_604 rfl ?_
  refine x_i2l C dL_law_606 ?_
  refine x_lcmp_eq 613 C dL_law_607 dL_law_608 (by decide) (fun _ => ?_) (fun z => absurd ho z)
  refine x_goto 4068 C dL_law_613 (by decide) ?_
  refine x_sub [(4, .int i), (3, .ref (b + 2636)), (2, .ref (b + 2628)), (1, .ref b), (0, .ref a)] [2, 3, 4, 5, 6] rfl ?_
  refine x_widen (k := cells + 200) (n := slots + 2000) (by omega) (by omega) ?_
  exact kk _ _ hw hS
set_option maxRecDepth 20000 in
set_option maxHeartbeats 4000000 in
theorem cs_8 {p : Program} {l : Launch} {e : Env} {s : State} {m : MethodId} {args : Array Value} {below : List Frame} {meth : Method} {c : Code} {Q : State → Prop} {H : Heap} {locs : List Loc} {cells slots : Nat} {D : va_G} {cA : Nat → ClassId} {a b L : Nat} {xs : Nat → Int32} {i : Int32} {ν μ : Mm} {oc : Nat → Int64} (C : xC D cA s RL cL_law 8 (some .boolean) p s m args meth c) (hG : xG l D cA s) (hNc : xNc s) (hX : va_X a L xs s s.heap) (hal : a < s.heap.size) (hw : LW D cA s b ν μ oc H) (hS : va_S (xOut s) s.heap H locs) (hcs : cells + 200 ≤ 601024 ∧ slots + 2000 ≤ 7293034) (a1 : Int32) (a2 : Int32) (r1 : vp_in (i + 1) L ∧ xs (i + 1).toNatClampNeg = a1) (r2 : vp_in (i + 2) L ∧ xs (i + 2).toNatClampNeg = a2) (r : Thr Int32) (q : Int32 × Mm) (hF : g_X11_band ν a1 a2 = some r) (hk : ∀ k, r = .error k → k = 1 ∨ k = 2) (hok : OkR (μ.1 1)) (hM : f_X12_band μ a1 a2 = q) (ht : (thC (fun k => if k = 1 then 1 else if k = 2 then 2 else 0) r) = f_X12_thrown q.2) (ho : (thC (fun k => if k = 1 then 1 else if k = 2 then 2 else 0) r) = 0 → (thO (fun q => q.toInt64) oc r) 0 = q.1.toInt64) (kk : ∀ (H1 : Heap) (locs1 : List Loc), LW D cA s b (thM (fun _ => ν) ν r) q.2 (thO (fun q => q.toInt64) oc r) H1 → va_S (xOut s) s.heap H1 locs1 → xW p l e room_1 s m args below meth c 8 Q H1 locs1 (cells + 200) (slots + 2000) 4068 [(4, .int i), (3, .ref (b + 2636)), (2, .ref (b + 2628)), (1, .ref b), (0, .ref a)] []) : xW p l e room_1 s m args below meth c 8 Q H locs cells slots 616 [(4, .int i), (3, .ref (b + 2636)), (2, .ref (b + 2628)), (1, .ref b), (0, .ref a)] [] := by
  refine x_aload_n C dL_law_616 rfl ?_
  refine x_aload_n C dL_law_617 rfl ?_
  refine x_iload C dL_law_618 rfl ?_
  refine x_iconst (1 : Int32) C dL_law_620 rfl ?_
  refine x_iadd C dL_law_621 ?_
  refine x_sld C hX hal hS r1 dL_law_622 ?_
  refine x_aload_n C dL_law_623 rfl ?_
  refine x_iload C dL_law_624 rfl ?_
  refine x_iconst (2 : Int32) C dL_law_626 rfl ?_
  refine x_iadd C dL_law_627 ?_
  refine x_sld C hX hal hS r2 dL_law_628 ?_
  refine x_aload_n C dL_law_629 rfl ?_
  refine x_goM (fun ls h => x_runH (As := [.ref b, .int a1, .int a2, .ref (b + 2636)]) [] h C (mw_L_band 239 mlk_239) (k_L_band l D cA s (b + 2637) b ν _ hG hNc (b + 2636) (by omega) (by omega) oc a1 a2 r hF hk) ⟨rfl, rfl, nb rfl, nb rfl⟩ rfl ⟨rfl, hw.1, hw.2.2⟩ (nb rfl) ⟨by show _ ≤ 601024; omega, by show _ ≤ 7293034; omega⟩ dL_law_630) hS hw.aL (fun H1 locs1 hw1 hz1 hk1 hS1 => ?_)
  replace hw := hw.cls hw1 hk1
  replace hS := hS1
  clear hw1 hk1 hz1 hS1
  refine x_istore [(5, .int (thC (fun k => if k = 1 then 1 else if k = 2 then 2 else 0) r)), (4, .int i), (3, .ref (b + 2636)), (2, .ref (b + 2628)), (1, .ref b), (0, .ref a)] C dL_law_633 (by decide) rfl ?_
  refine x_aload_n C dL_law_635 rfl ?_
  refine x_aload_n C dL_law_636 rfl ?_
  refine x_iload C dL_law_637 rfl ?_
  refine x_iconst (1 : Int32) C dL_law_639 rfl ?_
  refine x_iadd C dL_law_640 ?_
  refine x_sld C hX hal hS r1 dL_law_641 ?_
  refine x_aload_n C dL_law_642 rfl ?_
  refine x_iload C dL_law_643 rfl ?_
  refine x_iconst (2 : Int32) C dL_law_645 rfl ?_
  refine x_iadd C dL_law_646 ?_
  refine x_sld C hX hal hS r2 dL_law_647 ?_
  have K := c_X12_band l D cA s (b + 2628) μ H1.size hok a1 a2
  rw [hM] at K
  refine x_goM (fun ls h => x_runV (As := [.int a1, .int a2]) [] h C ml_L_242 K ⟨rfl, rfl, nb rfl, nb rfl⟩ rfl (M_obj hw.2.1.2.2.2.2) rfl ⟨rfl, hw.2.1.2.2.2.2⟩ (nb rfl) ⟨by show _ ≤ 601024; omega, by show _ ≤ 7293034; omega⟩ dL_law_648) hS hw.aM (fun H2 locs2 hw1 hz1 hk1 hS1 => ?_)
  replace hw := hw.modM hw1 hz1 hk1
  replace hS := hS1
  clear hw1 hk1 hz1 hS1
  refine x_istore [(6, .int q.1), (5, .int (thC (fun k => if k = 1 then 1 else if k = 2 then 2 else 0) r)), (4, .int i), (3, .ref (b + 2636)), (2, .ref (b + 2628)), (1, .ref b), (0, .ref a)] C dL_law_651 (by decide) rfl ?_
  refine x_aload_n C dL_law_653 rfl ?_
  refine x_goR (fun ls h => x_runV (As := []) [] h C ml_L_209 (c_X12_thrown l D cA s (b + 2628) q.2) ⟨rfl, rfl, nb rfl, nb rfl⟩ rfl (M_obj hw.2.1.2.2.2.2) rfl hw.2.1.2.2.2.2 (nb rfl) ⟨by show _ ≤ 601024; omega, by show _ ≤ 7293034; omega⟩ dL_law_654) ?_
  refine x_iload C dL_law_657 rfl ?_
  refine x_icmp_eq 664 C dL_law_659 (by decide) (fun _ => ?_) (fun z => absurd ht.symm z)
  refine x_iload C dL_law_664 rfl ?_
  refine x_if_ne 681 C dL_law_666 (by decide) (fun _ => ?_) (fun h0 => ?_)
  · refine x_goto 4068 C dL_law_681 (by decide) ?_
    refine x_sub [(4, .int i), (3, .ref (b + 2636)), (2, .ref (b + 2628)), (1, .ref b), (0, .ref a)] [2, 3, 4, 5, 6] rfl ?_
    refine x_widen (k := cells + 200) (n := slots + 2000) (by omega) (by omega) ?_
    exact kk _ _ hw hS
  have ho := ho h0
  refine x_aload_n C dL_law_669 rfl ?_
  refine x_iconst (0 : Int32) C dL_law_670 rfl ?_
  refine x_lald C hw.2.2 in01 dL_law_671 ?_
  refine x_iload C dL_law_672 rfl ?_
  refine x_i2l C dL_law_674 ?_
  refine x_lcmp_eq 681 C dL_law_675 dL_law_676 (by decide) (fun _ => ?_) (fun z => absurd ho z)
  refine x_goto 4068 C dL_law_681 (by decide) ?_
  refine x_sub [(4, .int i), (3, .ref (b + 2636)), (2, .ref (b + 2628)), (1, .ref b), (0, .ref a)] [2, 3, 4, 5, 6] rfl ?_
  refine x_widen (k := cells + 200) (n := slots + 2000) (by omega) (by omega) ?_
  exact kk _ _ hw hS
set_option maxRecDepth 20000 in
set_option maxHeartbeats 4000000 in
theorem cs_9 {p : Program} {l : Launch} {e : Env} {s : State} {m : MethodId} {args : Array Value} {below : List Frame} {meth : Method} {c : Code} {Q : State → Prop} {H : Heap} {locs : List Loc} {cells slots : Nat} {D : va_G} {cA : Nat → ClassId} {a b L : Nat} {xs : Nat → Int32} {i : Int32} {ν μ : Mm} {oc : Nat → Int64} (C : xC D cA s RL cL_law 8 (some .boolean) p s m args meth c) (hG : xG l D cA s) (hNc : xNc s) (hX : va_X a L xs s s.heap) (hal : a < s.heap.size) (hw : LW D cA s b ν μ oc H) (hS : va_S (xOut s) s.heap H locs) (hcs : cells + 200 ≤ 601024 ∧ slots + 2000 ≤ 7293034) (a1 : Int32) (a2 : Int32) (r1 : vp_in (i + 1) L ∧ xs (i + 1).toNatClampNeg = a1) (r2 : vp_in (i + 2) L ∧ xs (i + 2).toNatClampNeg = a2) (r : Thr Int32) (q : Int32 × Mm) (hF : g_X11_rebate ν a1 a2 = some r) (hk : ∀ k, r = .error k → k = 1 ∨ k = 2) (hok : OkR (μ.1 1)) (hM : f_X12_rebate μ a1 a2 = q) (ht : (thC (fun k => if k = 1 then 1 else if k = 2 then 2 else 0) r) = f_X12_thrown q.2) (ho : (thC (fun k => if k = 1 then 1 else if k = 2 then 2 else 0) r) = 0 → (thO (fun q => q.toInt64) oc r) 0 = q.1.toInt64) (kk : ∀ (H1 : Heap) (locs1 : List Loc), LW D cA s b (thM (fun _ => ν) ν r) q.2 (thO (fun q => q.toInt64) oc r) H1 → va_S (xOut s) s.heap H1 locs1 → xW p l e room_1 s m args below meth c 8 Q H1 locs1 (cells + 200) (slots + 2000) 4068 [(4, .int i), (3, .ref (b + 2636)), (2, .ref (b + 2628)), (1, .ref b), (0, .ref a)] []) : xW p l e room_1 s m args below meth c 8 Q H locs cells slots 684 [(4, .int i), (3, .ref (b + 2636)), (2, .ref (b + 2628)), (1, .ref b), (0, .ref a)] [] := by
  refine x_aload_n C dL_law_684 rfl ?_
  refine x_aload_n C dL_law_685 rfl ?_
  refine x_iload C dL_law_686 rfl ?_
  refine x_iconst (1 : Int32) C dL_law_688 rfl ?_
  refine x_iadd C dL_law_689 ?_
  refine x_sld C hX hal hS r1 dL_law_690 ?_
  refine x_aload_n C dL_law_691 rfl ?_
  refine x_iload C dL_law_692 rfl ?_
  refine x_iconst (2 : Int32) C dL_law_694 rfl ?_
  refine x_iadd C dL_law_695 ?_
  refine x_sld C hX hal hS r2 dL_law_696 ?_
  refine x_aload_n C dL_law_697 rfl ?_
  refine x_goM (fun ls h => x_runH (As := [.ref b, .int a1, .int a2, .ref (b + 2636)]) [] h C (mw_L_rebate 243 mlk_243) (k_L_rebate l D cA s (b + 2637) b ν _ hG hNc (b + 2636) (by omega) (by omega) oc a1 a2 r hF hk) ⟨rfl, rfl, nb rfl, nb rfl⟩ rfl ⟨rfl, hw.1, hw.2.2⟩ (nb rfl) ⟨by show _ ≤ 601024; omega, by show _ ≤ 7293034; omega⟩ dL_law_698) hS hw.aL (fun H1 locs1 hw1 hz1 hk1 hS1 => ?_)
  replace hw := hw.cls hw1 hk1
  replace hS := hS1
  clear hw1 hk1 hz1 hS1
  refine x_istore [(5, .int (thC (fun k => if k = 1 then 1 else if k = 2 then 2 else 0) r)), (4, .int i), (3, .ref (b + 2636)), (2, .ref (b + 2628)), (1, .ref b), (0, .ref a)] C dL_law_701 (by decide) rfl ?_
  refine x_aload_n C dL_law_703 rfl ?_
  refine x_aload_n C dL_law_704 rfl ?_
  refine x_iload C dL_law_705 rfl ?_
  refine x_iconst (1 : Int32) C dL_law_707 rfl ?_
  refine x_iadd C dL_law_708 ?_
  refine x_sld C hX hal hS r1 dL_law_709 ?_
  refine x_aload_n C dL_law_710 rfl ?_
  refine x_iload C dL_law_711 rfl ?_
  refine x_iconst (2 : Int32) C dL_law_713 rfl ?_
  refine x_iadd C dL_law_714 ?_
  refine x_sld C hX hal hS r2 dL_law_715 ?_
  have K := c_X12_rebate l D cA s (b + 2628) μ H1.size hok a1 a2
  rw [hM] at K
  refine x_goM (fun ls h => x_runV (As := [.int a1, .int a2]) [] h C ml_L_245 K ⟨rfl, rfl, nb rfl, nb rfl⟩ rfl (M_obj hw.2.1.2.2.2.2) rfl ⟨rfl, hw.2.1.2.2.2.2⟩ (nb rfl) ⟨by show _ ≤ 601024; omega, by show _ ≤ 7293034; omega⟩ dL_law_716) hS hw.aM (fun H2 locs2 hw1 hz1 hk1 hS1 => ?_)
  replace hw := hw.modM hw1 hz1 hk1
  replace hS := hS1
  clear hw1 hk1 hz1 hS1
  refine x_istore [(6, .int q.1), (5, .int (thC (fun k => if k = 1 then 1 else if k = 2 then 2 else 0) r)), (4, .int i), (3, .ref (b + 2636)), (2, .ref (b + 2628)), (1, .ref b), (0, .ref a)] C dL_law_719 (by decide) rfl ?_
  refine x_aload_n C dL_law_721 rfl ?_
  refine x_goR (fun ls h => x_runV (As := []) [] h C ml_L_209 (c_X12_thrown l D cA s (b + 2628) q.2) ⟨rfl, rfl, nb rfl, nb rfl⟩ rfl (M_obj hw.2.1.2.2.2.2) rfl hw.2.1.2.2.2.2 (nb rfl) ⟨by show _ ≤ 601024; omega, by show _ ≤ 7293034; omega⟩ dL_law_722) ?_
  refine x_iload C dL_law_725 rfl ?_
  refine x_icmp_eq 732 C dL_law_727 (by decide) (fun _ => ?_) (fun z => absurd ht.symm z)
  refine x_iload C dL_law_732 rfl ?_
  refine x_if_ne 749 C dL_law_734 (by decide) (fun _ => ?_) (fun h0 => ?_)
  · refine x_goto 4068 C dL_law_749 (by decide) ?_
    refine x_sub [(4, .int i), (3, .ref (b + 2636)), (2, .ref (b + 2628)), (1, .ref b), (0, .ref a)] [2, 3, 4, 5, 6] rfl ?_
    refine x_widen (k := cells + 200) (n := slots + 2000) (by omega) (by omega) ?_
    exact kk _ _ hw hS
  have ho := ho h0
  refine x_aload_n C dL_law_737 rfl ?_
  refine x_iconst (0 : Int32) C dL_law_738 rfl ?_
  refine x_lald C hw.2.2 in01 dL_law_739 ?_
  refine x_iload C dL_law_740 rfl ?_
  refine x_i2l C dL_law_742 ?_
  refine x_lcmp_eq 749 C dL_law_743 dL_law_744 (by decide) (fun _ => ?_) (fun z => absurd ho z)
  refine x_goto 4068 C dL_law_749 (by decide) ?_
  refine x_sub [(4, .int i), (3, .ref (b + 2636)), (2, .ref (b + 2628)), (1, .ref b), (0, .ref a)] [2, 3, 4, 5, 6] rfl ?_
  refine x_widen (k := cells + 200) (n := slots + 2000) (by omega) (by omega) ?_
  exact kk _ _ hw hS
set_option maxRecDepth 20000 in
set_option maxHeartbeats 4000000 in
theorem cs_10 {p : Program} {l : Launch} {e : Env} {s : State} {m : MethodId} {args : Array Value} {below : List Frame} {meth : Method} {c : Code} {Q : State → Prop} {H : Heap} {locs : List Loc} {cells slots : Nat} {D : va_G} {cA : Nat → ClassId} {a b L : Nat} {xs : Nat → Int32} {i : Int32} {ν μ : Mm} {oc : Nat → Int64} (C : xC D cA s RL cL_law 8 (some .boolean) p s m args meth c) (hG : xG l D cA s) (hNc : xNc s) (hX : va_X a L xs s s.heap) (hal : a < s.heap.size) (hw : LW D cA s b ν μ oc H) (hS : va_S (xOut s) s.heap H locs) (hcs : cells + 200 ≤ 601024 ∧ slots + 2000 ≤ 7293034) (a1 : Int32) (r1 : vp_in (i + 1) L ∧ xs (i + 1).toNatClampNeg = a1) (r : Thr Int32) (q : Int32 × Mm) (hF : g_X11_bandOf ν a1 = some r) (hk : ∀ k, r = .error k → k = 2) (hok : OkR (μ.1 1)) (hM : f_X12_bandOf μ a1 = q) (ht : (thC (fun k => if k = 2 then 1 else 0) r) = f_X12_thrown q.2) (ho : (thC (fun k => if k = 2 then 1 else 0) r) = 0 → (thO (fun q => q.toInt64) oc r) 0 = q.1.toInt64) (kk : ∀ (H1 : Heap) (locs1 : List Loc), LW D cA s b (thM (fun _ => ν) ν r) q.2 (thO (fun q => q.toInt64) oc r) H1 → va_S (xOut s) s.heap H1 locs1 → xW p l e room_1 s m args below meth c 8 Q H1 locs1 (cells + 200) (slots + 2000) 4068 [(4, .int i), (3, .ref (b + 2636)), (2, .ref (b + 2628)), (1, .ref b), (0, .ref a)] []) : xW p l e room_1 s m args below meth c 8 Q H locs cells slots 752 [(4, .int i), (3, .ref (b + 2636)), (2, .ref (b + 2628)), (1, .ref b), (0, .ref a)] [] := by
  refine x_aload_n C dL_law_752 rfl ?_
  refine x_aload_n C dL_law_753 rfl ?_
  refine x_iload C dL_law_754 rfl ?_
  refine x_iconst (1 : Int32) C dL_law_756 rfl ?_
  refine x_iadd C dL_law_757 ?_
  refine x_sld C hX hal hS r1 dL_law_758 ?_
  refine x_aload_n C dL_law_759 rfl ?_
  refine x_goM (fun ls h => x_runH (As := [.ref b, .int a1, .ref (b + 2636)]) [] h C (mw_L_bandOf 246 mlk_246) (k_L_bandOf l D cA s (b + 2637) b ν _ hG hNc (b + 2636) (by omega) (by omega) oc a1 r hF hk) ⟨rfl, rfl, nb rfl, nb rfl⟩ rfl ⟨rfl, hw.1, hw.2.2⟩ (nb rfl) ⟨by show _ ≤ 601024; omega, by show _ ≤ 7293034; omega⟩ dL_law_760) hS hw.aL (fun H1 locs1 hw1 hz1 hk1 hS1 => ?_)
  replace hw := hw.cls hw1 hk1
  replace hS := hS1
  clear hw1 hk1 hz1 hS1
  refine x_istore [(5, .int (thC (fun k => if k = 2 then 1 else 0) r)), (4, .int i), (3, .ref (b + 2636)), (2, .ref (b + 2628)), (1, .ref b), (0, .ref a)] C dL_law_763 (by decide) rfl ?_
  refine x_aload_n C dL_law_765 rfl ?_
  refine x_aload_n C dL_law_766 rfl ?_
  refine x_iload C dL_law_767 rfl ?_
  refine x_iconst (1 : Int32) C dL_law_769 rfl ?_
  refine x_iadd C dL_law_770 ?_
  refine x_sld C hX hal hS r1 dL_law_771 ?_
  have K := c_X12_bandOf l D cA s (b + 2628) μ H1.size hok a1
  rw [hM] at K
  refine x_goM (fun ls h => x_runV (As := [.int a1]) [] h C ml_L_248 K ⟨rfl, rfl, nb rfl, nb rfl⟩ rfl (M_obj hw.2.1.2.2.2.2) rfl ⟨rfl, hw.2.1.2.2.2.2⟩ (nb rfl) ⟨by show _ ≤ 601024; omega, by show _ ≤ 7293034; omega⟩ dL_law_772) hS hw.aM (fun H2 locs2 hw1 hz1 hk1 hS1 => ?_)
  replace hw := hw.modM hw1 hz1 hk1
  replace hS := hS1
  clear hw1 hk1 hz1 hS1
  refine x_istore [(6, .int q.1), (5, .int (thC (fun k => if k = 2 then 1 else 0) r)), (4, .int i), (3, .ref (b + 2636)), (2, .ref (b + 2628)), (1, .ref b), (0, .ref a)] C dL_law_775 (by decide) rfl ?_
  refine x_aload_n C dL_law_777 rfl ?_
  refine x_goR (fun ls h => x_runV (As := []) [] h C ml_L_209 (c_X12_thrown l D cA s (b + 2628) q.2) ⟨rfl, rfl, nb rfl, nb rfl⟩ rfl (M_obj hw.2.1.2.2.2.2) rfl hw.2.1.2.2.2.2 (nb rfl) ⟨by show _ ≤ 601024; omega, by show _ ≤ 7293034; omega⟩ dL_law_778) ?_
  refine x_iload C dL_law_781 rfl ?_
  refine x_icmp_eq 788 C dL_law_783 (by decide) (fun _ => ?_) (fun z => absurd ht.symm z)
  refine x_iload C dL_law_788 rfl ?_
  refine x_if_ne 805 C dL_law_790 (by decide) (fun _ => ?_) (fun h0 => ?_)
  · refine x_goto 4068 C dL_law_805 (by decide) ?_
    refine x_sub [(4, .int i), (3, .ref (b + 2636)), (2, .ref (b + 2628)), (1, .ref b), (0, .ref a)] [2, 3, 4, 5, 6] rfl ?_
    refine x_widen (k := cells + 200) (n := slots + 2000) (by omega) (by omega) ?_
    exact kk _ _ hw hS
  have ho := ho h0
  refine x_aload_n C dL_law_793 rfl ?_
  refine x_iconst (0 : Int32) C dL_law_794 rfl ?_
  refine x_lald C hw.2.2 in01 dL_law_795 ?_
  refine x_iload C dL_law_796 rfl ?_
  refine x_i2l C dL_law_798 ?_
  refine x_lcmp_eq 805 C dL_law_799 dL_law_800 (by decide) (fun _ => ?_) (fun z => absurd ho z)
  refine x_goto 4068 C dL_law_805 (by decide) ?_
  refine x_sub [(4, .int i), (3, .ref (b + 2636)), (2, .ref (b + 2628)), (1, .ref b), (0, .ref a)] [2, 3, 4, 5, 6] rfl ?_
  refine x_widen (k := cells + 200) (n := slots + 2000) (by omega) (by omega) ?_
  exact kk _ _ hw hS
set_option maxRecDepth 20000 in
set_option maxHeartbeats 4000000 in
theorem cs_11 {p : Program} {l : Launch} {e : Env} {s : State} {m : MethodId} {args : Array Value} {below : List Frame} {meth : Method} {c : Code} {Q : State → Prop} {H : Heap} {locs : List Loc} {cells slots : Nat} {D : va_G} {cA : Nat → ClassId} {a b L : Nat} {xs : Nat → Int32} {i : Int32} {ν μ : Mm} {oc : Nat → Int64} (C : xC D cA s RL cL_law 8 (some .boolean) p s m args meth c) (hG : xG l D cA s) (hNc : xNc s) (hX : va_X a L xs s s.heap) (hal : a < s.heap.size) (hw : LW D cA s b ν μ oc H) (hS : va_S (xOut s) s.heap H locs) (hcs : cells + 200 ≤ 601024 ∧ slots + 2000 ≤ 7293034) (a1 : Int32) (r1 : vp_in (i + 1) L ∧ xs (i + 1).toNatClampNeg = a1) (r : Thr Int32) (q : Int32 × Mm) (hF : g_X11_dues ν a1 = some r) (hk : ∀ k, r = .error k → k = 2) (hok : OkR (μ.1 1)) (hM : f_X12_dues μ a1 = q) (ht : (thC (fun k => if k = 2 then 1 else 0) r) = f_X12_thrown q.2) (ho : (thC (fun k => if k = 2 then 1 else 0) r) = 0 → (thO (fun q => q.toInt64) oc r) 0 = q.1.toInt64) (kk : ∀ (H1 : Heap) (locs1 : List Loc), LW D cA s b (thM (fun _ => ν) ν r) q.2 (thO (fun q => q.toInt64) oc r) H1 → va_S (xOut s) s.heap H1 locs1 → xW p l e room_1 s m args below meth c 8 Q H1 locs1 (cells + 200) (slots + 2000) 4068 [(4, .int i), (3, .ref (b + 2636)), (2, .ref (b + 2628)), (1, .ref b), (0, .ref a)] []) : xW p l e room_1 s m args below meth c 8 Q H locs cells slots 808 [(4, .int i), (3, .ref (b + 2636)), (2, .ref (b + 2628)), (1, .ref b), (0, .ref a)] [] := by
  refine x_aload_n C dL_law_808 rfl ?_
  refine x_aload_n C dL_law_809 rfl ?_
  refine x_iload C dL_law_810 rfl ?_
  refine x_iconst (1 : Int32) C dL_law_812 rfl ?_
  refine x_iadd C dL_law_813 ?_
  refine x_sld C hX hal hS r1 dL_law_814 ?_
  refine x_aload_n C dL_law_815 rfl ?_
  refine x_goM (fun ls h => x_runH (As := [.ref b, .int a1, .ref (b + 2636)]) [] h C (mw_L_dues 249 mlk_249) (k_L_dues l D cA s (b + 2637) b ν _ hG hNc (b + 2636) (by omega) (by omega) oc a1 r hF hk) ⟨rfl, rfl, nb rfl, nb rfl⟩ rfl ⟨rfl, hw.1, hw.2.2⟩ (nb rfl) ⟨by show _ ≤ 601024; omega, by show _ ≤ 7293034; omega⟩ dL_law_816) hS hw.aL (fun H1 locs1 hw1 hz1 hk1 hS1 => ?_)
  replace hw := hw.cls hw1 hk1
  replace hS := hS1
  clear hw1 hk1 hz1 hS1
  refine x_istore [(5, .int (thC (fun k => if k = 2 then 1 else 0) r)), (4, .int i), (3, .ref (b + 2636)), (2, .ref (b + 2628)), (1, .ref b), (0, .ref a)] C dL_law_819 (by decide) rfl ?_
  refine x_aload_n C dL_law_821 rfl ?_
  refine x_aload_n C dL_law_822 rfl ?_
  refine x_iload C dL_law_823 rfl ?_
  refine x_iconst (1 : Int32) C dL_law_825 rfl ?_
  refine x_iadd C dL_law_826 ?_
  refine x_sld C hX hal hS r1 dL_law_827 ?_
  have K := c_X12_dues l D cA s (b + 2628) μ H1.size hok a1
  rw [hM] at K
  refine x_goM (fun ls h => x_runV (As := [.int a1]) [] h C ml_L_251 K ⟨rfl, rfl, nb rfl, nb rfl⟩ rfl (M_obj hw.2.1.2.2.2.2) rfl ⟨rfl, hw.2.1.2.2.2.2⟩ (nb rfl) ⟨by show _ ≤ 601024; omega, by show _ ≤ 7293034; omega⟩ dL_law_828) hS hw.aM (fun H2 locs2 hw1 hz1 hk1 hS1 => ?_)
  replace hw := hw.modM hw1 hz1 hk1
  replace hS := hS1
  clear hw1 hk1 hz1 hS1
  refine x_istore [(6, .int q.1), (5, .int (thC (fun k => if k = 2 then 1 else 0) r)), (4, .int i), (3, .ref (b + 2636)), (2, .ref (b + 2628)), (1, .ref b), (0, .ref a)] C dL_law_831 (by decide) rfl ?_
  refine x_aload_n C dL_law_833 rfl ?_
  refine x_goR (fun ls h => x_runV (As := []) [] h C ml_L_209 (c_X12_thrown l D cA s (b + 2628) q.2) ⟨rfl, rfl, nb rfl, nb rfl⟩ rfl (M_obj hw.2.1.2.2.2.2) rfl hw.2.1.2.2.2.2 (nb rfl) ⟨by show _ ≤ 601024; omega, by show _ ≤ 7293034; omega⟩ dL_law_834) ?_
  refine x_iload C dL_law_837 rfl ?_
  refine x_icmp_eq 844 C dL_law_839 (by decide) (fun _ => ?_) (fun z => absurd ht.symm z)
  refine x_iload C dL_law_844 rfl ?_
  refine x_if_ne 861 C dL_law_846 (by decide) (fun _ => ?_) (fun h0 => ?_)
  · refine x_goto 4068 C dL_law_861 (by decide) ?_
    refine x_sub [(4, .int i), (3, .ref (b + 2636)), (2, .ref (b + 2628)), (1, .ref b), (0, .ref a)] [2, 3, 4, 5, 6] rfl ?_
    refine x_widen (k := cells + 200) (n := slots + 2000) (by omega) (by omega) ?_
    exact kk _ _ hw hS
  have ho := ho h0
  refine x_aload_n C dL_law_849 rfl ?_
  refine x_iconst (0 : Int32) C dL_law_850 rfl ?_
  refine x_lald C hw.2.2 in01 dL_law_851 ?_
  refine x_iload C dL_law_852 rfl ?_
  refine x_i2l C dL_law_854 ?_
  refine x_lcmp_eq 861 C dL_law_855 dL_law_856 (by decide) (fun _ => ?_) (fun z => absurd ho z)
  refine x_goto 4068 C dL_law_861 (by decide) ?_
  refine x_sub [(4, .int i), (3, .ref (b + 2636)), (2, .ref (b + 2628)), (1, .ref b), (0, .ref a)] [2, 3, 4, 5, 6] rfl ?_
  refine x_widen (k := cells + 200) (n := slots + 2000) (by omega) (by omega) ?_
  exact kk _ _ hw hS
set_option maxRecDepth 20000 in
set_option maxHeartbeats 4000000 in
theorem cs_12 {p : Program} {l : Launch} {e : Env} {s : State} {m : MethodId} {args : Array Value} {below : List Frame} {meth : Method} {c : Code} {Q : State → Prop} {H : Heap} {locs : List Loc} {cells slots : Nat} {D : va_G} {cA : Nat → ClassId} {a b L : Nat} {xs : Nat → Int32} {i : Int32} {ν μ : Mm} {oc : Nat → Int64} (C : xC D cA s RL cL_law 8 (some .boolean) p s m args meth c) (hG : xG l D cA s) (hNc : xNc s) (hX : va_X a L xs s s.heap) (hal : a < s.heap.size) (hw : LW D cA s b ν μ oc H) (hS : va_S (xOut s) s.heap H locs) (hcs : cells + 200 ≤ 601024 ∧ slots + 2000 ≤ 7293034) (a1 : Int32) (a2 : Int32) (r1 : vp_in (i + 1) L ∧ xs (i + 1).toNatClampNeg = a1) (r2 : vp_in (i + 2) L ∧ xs (i + 2).toNatClampNeg = a2) (r : Thr Int32) (q : Int32 × Mm) (hF : g_X11_tonsIn ν a1 a2 = some r) (hk : ∀ k, r = .error k → k = 1 ∨ k = 2) (hok : OkR (μ.1 1)) (hM : f_X12_tonsIn μ a1 a2 = q) (ht : (thC (fun k => if k = 1 then 1 else if k = 2 then 2 else 0) r) = f_X12_thrown q.2) (ho : (thC (fun k => if k = 1 then 1 else if k = 2 then 2 else 0) r) = 0 → (thO (fun q => q.toInt64) oc r) 0 = q.1.toInt64) (kk : ∀ (H1 : Heap) (locs1 : List Loc), LW D cA s b (thM (fun _ => ν) ν r) q.2 (thO (fun q => q.toInt64) oc r) H1 → va_S (xOut s) s.heap H1 locs1 → xW p l e room_1 s m args below meth c 8 Q H1 locs1 (cells + 200) (slots + 2000) 4068 [(4, .int i), (3, .ref (b + 2636)), (2, .ref (b + 2628)), (1, .ref b), (0, .ref a)] []) : xW p l e room_1 s m args below meth c 8 Q H locs cells slots 864 [(4, .int i), (3, .ref (b + 2636)), (2, .ref (b + 2628)), (1, .ref b), (0, .ref a)] [] := by
  refine x_aload_n C dL_law_864 rfl ?_
  refine x_aload_n C dL_law_865 rfl ?_
  refine x_iload C dL_law_866 rfl ?_
  refine x_iconst (1 : Int32) C dL_law_868 rfl ?_
  refine x_iadd C dL_law_869 ?_
  refine x_sld C hX hal hS r1 dL_law_870 ?_
  refine x_aload_n C dL_law_871 rfl ?_
  refine x_iload C dL_law_872 rfl ?_
  refine x_iconst (2 : Int32) C dL_law_874 rfl ?_
  refine x_iadd C dL_law_875 ?_
  refine x_sld C hX hal hS r2 dL_law_876 ?_
  refine x_aload_n C dL_law_877 rfl ?_
  refine x_goM (fun ls h => x_runH (As := [.ref b, .int a1, .int a2, .ref (b + 2636)]) [] h C (mw_L_tonsIn 252 mlk_252) (k_L_tonsIn l D cA s (b + 2637) b ν _ hG hNc (b + 2636) (by omega) (by omega) oc a1 a2 r hF hk) ⟨rfl, rfl, nb rfl, nb rfl⟩ rfl ⟨rfl, hw.1, hw.2.2⟩ (nb rfl) ⟨by show _ ≤ 601024; omega, by show _ ≤ 7293034; omega⟩ dL_law_878) hS hw.aL (fun H1 locs1 hw1 hz1 hk1 hS1 => ?_)
  replace hw := hw.cls hw1 hk1
  replace hS := hS1
  clear hw1 hk1 hz1 hS1
  refine x_istore [(5, .int (thC (fun k => if k = 1 then 1 else if k = 2 then 2 else 0) r)), (4, .int i), (3, .ref (b + 2636)), (2, .ref (b + 2628)), (1, .ref b), (0, .ref a)] C dL_law_881 (by decide) rfl ?_
  refine x_aload_n C dL_law_883 rfl ?_
  refine x_aload_n C dL_law_884 rfl ?_
  refine x_iload C dL_law_885 rfl ?_
  refine x_iconst (1 : Int32) C dL_law_887 rfl ?_
  refine x_iadd C dL_law_888 ?_
  refine x_sld C hX hal hS r1 dL_law_889 ?_
  refine x_aload_n C dL_law_890 rfl ?_
  refine x_iload C dL_law_891 rfl ?_
  refine x_iconst (2 : Int32) C dL_law_893 rfl ?_
  refine x_iadd C dL_law_894 ?_
  refine x_sld C hX hal hS r2 dL_law_895 ?_
  have K := c_X12_tonsIn l D cA s (b + 2628) μ H1.size hok a1 a2
  rw [hM] at K
  refine x_goM (fun ls h => x_runV (As := [.int a1, .int a2]) [] h C ml_L_254 K ⟨rfl, rfl, nb rfl, nb rfl⟩ rfl (M_obj hw.2.1.2.2.2.2) rfl ⟨rfl, hw.2.1.2.2.2.2⟩ (nb rfl) ⟨by show _ ≤ 601024; omega, by show _ ≤ 7293034; omega⟩ dL_law_896) hS hw.aM (fun H2 locs2 hw1 hz1 hk1 hS1 => ?_)
  replace hw := hw.modM hw1 hz1 hk1
  replace hS := hS1
  clear hw1 hk1 hz1 hS1
  refine x_istore [(6, .int q.1), (5, .int (thC (fun k => if k = 1 then 1 else if k = 2 then 2 else 0) r)), (4, .int i), (3, .ref (b + 2636)), (2, .ref (b + 2628)), (1, .ref b), (0, .ref a)] C dL_law_899 (by decide) rfl ?_
  refine x_aload_n C dL_law_901 rfl ?_
  refine x_goR (fun ls h => x_runV (As := []) [] h C ml_L_209 (c_X12_thrown l D cA s (b + 2628) q.2) ⟨rfl, rfl, nb rfl, nb rfl⟩ rfl (M_obj hw.2.1.2.2.2.2) rfl hw.2.1.2.2.2.2 (nb rfl) ⟨by show _ ≤ 601024; omega, by show _ ≤ 7293034; omega⟩ dL_law_902) ?_
  refine x_iload C dL_law_905 rfl ?_
  refine x_icmp_eq 912 C dL_law_907 (by decide) (fun _ => ?_) (fun z => absurd ht.symm z)
  refine x_iload C dL_law_912 rfl ?_
  refine x_if_ne 929 C dL_law_914 (by decide) (fun _ => ?_) (fun h0 => ?_)
  · refine x_goto 4068 C dL_law_929 (by decide) ?_
    refine x_sub [(4, .int i), (3, .ref (b + 2636)), (2, .ref (b + 2628)), (1, .ref b), (0, .ref a)] [2, 3, 4, 5, 6] rfl ?_
    refine x_widen (k := cells + 200) (n := slots + 2000) (by omega) (by omega) ?_
    exact kk _ _ hw hS
  have ho := ho h0
  refine x_aload_n C dL_law_917 rfl ?_
  refine x_iconst (0 : Int32) C dL_law_918 rfl ?_
  refine x_lald C hw.2.2 in01 dL_law_919 ?_
  refine x_iload C dL_law_920 rfl ?_
  refine x_i2l C dL_law_922 ?_
  refine x_lcmp_eq 929 C dL_law_923 dL_law_924 (by decide) (fun _ => ?_) (fun z => absurd ho z)
  refine x_goto 4068 C dL_law_929 (by decide) ?_
  refine x_sub [(4, .int i), (3, .ref (b + 2636)), (2, .ref (b + 2628)), (1, .ref b), (0, .ref a)] [2, 3, 4, 5, 6] rfl ?_
  refine x_widen (k := cells + 200) (n := slots + 2000) (by omega) (by omega) ?_
  exact kk _ _ hw hS
set_option maxRecDepth 20000 in
set_option maxHeartbeats 4000000 in
theorem cs_13 {p : Program} {l : Launch} {e : Env} {s : State} {m : MethodId} {args : Array Value} {below : List Frame} {meth : Method} {c : Code} {Q : State → Prop} {H : Heap} {locs : List Loc} {cells slots : Nat} {D : va_G} {cA : Nat → ClassId} {a b L : Nat} {xs : Nat → Int32} {i : Int32} {ν μ : Mm} {oc : Nat → Int64} (C : xC D cA s RL cL_law 8 (some .boolean) p s m args meth c) (hG : xG l D cA s) (hNc : xNc s) (hX : va_X a L xs s s.heap) (hal : a < s.heap.size) (hw : LW D cA s b ν μ oc H) (hS : va_S (xOut s) s.heap H locs) (hcs : cells + 200 ≤ 601024 ∧ slots + 2000 ≤ 7293034) (a1 : Int32) (r1 : vp_in (i + 1) L ∧ xs (i + 1).toNatClampNeg = a1) (r : Thr Int32) (q : Int32 × Mm) (hF : g_X11_wasteFee ν a1 = some r) (hk : ∀ k, r = .error k → k = 2) (hok : OkR (μ.1 1)) (hM : f_X12_wasteFee μ a1 = q) (ht : (thC (fun k => if k = 2 then 1 else 0) r) = f_X12_thrown q.2) (ho : (thC (fun k => if k = 2 then 1 else 0) r) = 0 → (thO (fun q => q.toInt64) oc r) 0 = q.1.toInt64) (kk : ∀ (H1 : Heap) (locs1 : List Loc), LW D cA s b (thM (fun _ => ν) ν r) q.2 (thO (fun q => q.toInt64) oc r) H1 → va_S (xOut s) s.heap H1 locs1 → xW p l e room_1 s m args below meth c 8 Q H1 locs1 (cells + 200) (slots + 2000) 4068 [(4, .int i), (3, .ref (b + 2636)), (2, .ref (b + 2628)), (1, .ref b), (0, .ref a)] []) : xW p l e room_1 s m args below meth c 8 Q H locs cells slots 932 [(4, .int i), (3, .ref (b + 2636)), (2, .ref (b + 2628)), (1, .ref b), (0, .ref a)] [] := by
  refine x_aload_n C dL_law_932 rfl ?_
  refine x_aload_n C dL_law_933 rfl ?_
  refine x_iload C dL_law_934 rfl ?_
  refine x_iconst (1 : Int32) C dL_law_936 rfl ?_
  refine x_iadd C dL_law_937 ?_
  refine x_sld C hX hal hS r1 dL_law_938 ?_
  refine x_aload_n C dL_law_939 rfl ?_
  refine x_goM (fun ls h => x_runH (As := [.ref b, .int a1, .ref (b + 2636)]) [] h C (mw_L_wasteFee 255 mlk_255) (k_L_wasteFee l D cA s (b + 2637) b ν _ hG hNc (b + 2636) (by omega) (by omega) oc a1 r hF hk) ⟨rfl, rfl, nb rfl, nb rfl⟩ rfl ⟨rfl, hw.1, hw.2.2⟩ (nb rfl) ⟨by show _ ≤ 601024; omega, by show _ ≤ 7293034; omega⟩ dL_law_940) hS hw.aL (fun H1 locs1 hw1 hz1 hk1 hS1 => ?_)
  replace hw := hw.cls hw1 hk1
  replace hS := hS1
  clear hw1 hk1 hz1 hS1
  refine x_istore [(5, .int (thC (fun k => if k = 2 then 1 else 0) r)), (4, .int i), (3, .ref (b + 2636)), (2, .ref (b + 2628)), (1, .ref b), (0, .ref a)] C dL_law_943 (by decide) rfl ?_
  refine x_aload_n C dL_law_945 rfl ?_
  refine x_aload_n C dL_law_946 rfl ?_
  refine x_iload C dL_law_947 rfl ?_
  refine x_iconst (1 : Int32) C dL_law_949 rfl ?_
  refine x_iadd C dL_law_950 ?_
  refine x_sld C hX hal hS r1 dL_law_951 ?_
  have K := c_X12_wasteFee l D cA s (b + 2628) μ H1.size hok a1
  rw [hM] at K
  refine x_goM (fun ls h => x_runV (As := [.int a1]) [] h C ml_L_257 K ⟨rfl, rfl, nb rfl, nb rfl⟩ rfl (M_obj hw.2.1.2.2.2.2) rfl ⟨rfl, hw.2.1.2.2.2.2⟩ (nb rfl) ⟨by show _ ≤ 601024; omega, by show _ ≤ 7293034; omega⟩ dL_law_952) hS hw.aM (fun H2 locs2 hw1 hz1 hk1 hS1 => ?_)
  replace hw := hw.modM hw1 hz1 hk1
  replace hS := hS1
  clear hw1 hk1 hz1 hS1
  refine x_istore [(6, .int q.1), (5, .int (thC (fun k => if k = 2 then 1 else 0) r)), (4, .int i), (3, .ref (b + 2636)), (2, .ref (b + 2628)), (1, .ref b), (0, .ref a)] C dL_law_955 (by decide) rfl ?_
  refine x_aload_n C dL_law_957 rfl ?_
  refine x_goR (fun ls h => x_runV (As := []) [] h C ml_L_209 (c_X12_thrown l D cA s (b + 2628) q.2) ⟨rfl, rfl, nb rfl, nb rfl⟩ rfl (M_obj hw.2.1.2.2.2.2) rfl hw.2.1.2.2.2.2 (nb rfl) ⟨by show _ ≤ 601024; omega, by show _ ≤ 7293034; omega⟩ dL_law_958) ?_
  refine x_iload C dL_law_961 rfl ?_
  refine x_icmp_eq 968 C dL_law_963 (by decide) (fun _ => ?_) (fun z => absurd ht.symm z)
  refine x_iload C dL_law_968 rfl ?_
  refine x_if_ne 985 C dL_law_970 (by decide) (fun _ => ?_) (fun h0 => ?_)
  · refine x_goto 4068 C dL_law_985 (by decide) ?_
    refine x_sub [(4, .int i), (3, .ref (b + 2636)), (2, .ref (b + 2628)), (1, .ref b), (0, .ref a)] [2, 3, 4, 5, 6] rfl ?_
    refine x_widen (k := cells + 200) (n := slots + 2000) (by omega) (by omega) ?_
    exact kk _ _ hw hS
  have ho := ho h0
  refine x_aload_n C dL_law_973 rfl ?_
  refine x_iconst (0 : Int32) C dL_law_974 rfl ?_
  refine x_lald C hw.2.2 in01 dL_law_975 ?_
  refine x_iload C dL_law_976 rfl ?_
  refine x_i2l C dL_law_978 ?_
  refine x_lcmp_eq 985 C dL_law_979 dL_law_980 (by decide) (fun _ => ?_) (fun z => absurd ho z)
  refine x_goto 4068 C dL_law_985 (by decide) ?_
  refine x_sub [(4, .int i), (3, .ref (b + 2636)), (2, .ref (b + 2628)), (1, .ref b), (0, .ref a)] [2, 3, 4, 5, 6] rfl ?_
  refine x_widen (k := cells + 200) (n := slots + 2000) (by omega) (by omega) ?_
  exact kk _ _ hw hS
set_option maxRecDepth 20000 in
set_option maxHeartbeats 4000000 in
theorem cs_14 {p : Program} {l : Launch} {e : Env} {s : State} {m : MethodId} {args : Array Value} {below : List Frame} {meth : Method} {c : Code} {Q : State → Prop} {H : Heap} {locs : List Loc} {cells slots : Nat} {D : va_G} {cA : Nat → ClassId} {a b L : Nat} {xs : Nat → Int32} {i : Int32} {ν μ : Mm} {oc : Nat → Int64} (C : xC D cA s RL cL_law 8 (some .boolean) p s m args meth c) (hG : xG l D cA s) (hNc : xNc s) (hX : va_X a L xs s s.heap) (hal : a < s.heap.size) (hw : LW D cA s b ν μ oc H) (hS : va_S (xOut s) s.heap H locs) (hcs : cells + 200 ≤ 601024 ∧ slots + 2000 ≤ 7293034) (a1 : Int32) (r1 : vp_in (i + 1) L ∧ xs (i + 1).toNatClampNeg = a1) (r : Thr Int32) (q : Int32 × Mm) (hF : g_X11_tons ν a1 = some r) (hk : ∀ k, r = .error k → k = 1) (hok : OkR (μ.1 1)) (hM : f_X12_tons μ a1 = q) (ht : (thC (fun k => if k = 1 then 1 else 0) r) = f_X12_thrown q.2) (ho : (thC (fun k => if k = 1 then 1 else 0) r) = 0 → (thO (fun q => q.toInt64) oc r) 0 = q.1.toInt64) (kk : ∀ (H1 : Heap) (locs1 : List Loc), LW D cA s b (thM (fun _ => ν) ν r) q.2 (thO (fun q => q.toInt64) oc r) H1 → va_S (xOut s) s.heap H1 locs1 → xW p l e room_1 s m args below meth c 8 Q H1 locs1 (cells + 200) (slots + 2000) 4068 [(4, .int i), (3, .ref (b + 2636)), (2, .ref (b + 2628)), (1, .ref b), (0, .ref a)] []) : xW p l e room_1 s m args below meth c 8 Q H locs cells slots 988 [(4, .int i), (3, .ref (b + 2636)), (2, .ref (b + 2628)), (1, .ref b), (0, .ref a)] [] := by
  refine x_aload_n C dL_law_988 rfl ?_
  refine x_aload_n C dL_law_989 rfl ?_
  refine x_iload C dL_law_990 rfl ?_
  refine x_iconst (1 : Int32) C dL_law_992 rfl ?_
  refine x_iadd C dL_law_993 ?_
  refine x_sld C hX hal hS r1 dL_law_994 ?_
  refine x_aload_n C dL_law_995 rfl ?_
  refine x_goM (fun ls h => x_runH (As := [.ref b, .int a1, .ref (b + 2636)]) [] h C (mw_L_tons 258 mlk_258) (k_L_tons l D cA s (b + 2637) b ν _ hG hNc (b + 2636) (by omega) (by omega) oc a1 r hF hk) ⟨rfl, rfl, nb rfl, nb rfl⟩ rfl ⟨rfl, hw.1, hw.2.2⟩ (nb rfl) ⟨by show _ ≤ 601024; omega, by show _ ≤ 7293034; omega⟩ dL_law_996) hS hw.aL (fun H1 locs1 hw1 hz1 hk1 hS1 => ?_)
  replace hw := hw.cls hw1 hk1
  replace hS := hS1
  clear hw1 hk1 hz1 hS1
  refine x_istore [(5, .int (thC (fun k => if k = 1 then 1 else 0) r)), (4, .int i), (3, .ref (b + 2636)), (2, .ref (b + 2628)), (1, .ref b), (0, .ref a)] C dL_law_999 (by decide) rfl ?_
  refine x_aload_n C dL_law_1001 rfl ?_
  refine x_aload_n C dL_law_1002 rfl ?_
  refine x_iload C dL_law_1003 rfl ?_
  refine x_iconst (1 : Int32) C dL_law_1005 rfl ?_
  refine x_iadd C dL_law_1006 ?_
  refine x_sld C hX hal hS r1 dL_law_1007 ?_
  have K := c_X12_tons l D cA s (b + 2628) μ H1.size hok a1
  rw [hM] at K
  refine x_goM (fun ls h => x_runV (As := [.int a1]) [] h C ml_L_260 K ⟨rfl, rfl, nb rfl, nb rfl⟩ rfl (M_obj hw.2.1.2.2.2.2) rfl ⟨rfl, hw.2.1.2.2.2.2⟩ (nb rfl) ⟨by show _ ≤ 601024; omega, by show _ ≤ 7293034; omega⟩ dL_law_1008) hS hw.aM (fun H2 locs2 hw1 hz1 hk1 hS1 => ?_)
  replace hw := hw.modM hw1 hz1 hk1
  replace hS := hS1
  clear hw1 hk1 hz1 hS1
  refine x_istore [(6, .int q.1), (5, .int (thC (fun k => if k = 1 then 1 else 0) r)), (4, .int i), (3, .ref (b + 2636)), (2, .ref (b + 2628)), (1, .ref b), (0, .ref a)] C dL_law_1011 (by decide) rfl ?_
  refine x_aload_n C dL_law_1013 rfl ?_
  refine x_goR (fun ls h => x_runV (As := []) [] h C ml_L_209 (c_X12_thrown l D cA s (b + 2628) q.2) ⟨rfl, rfl, nb rfl, nb rfl⟩ rfl (M_obj hw.2.1.2.2.2.2) rfl hw.2.1.2.2.2.2 (nb rfl) ⟨by show _ ≤ 601024; omega, by show _ ≤ 7293034; omega⟩ dL_law_1014) ?_
  refine x_iload C dL_law_1017 rfl ?_
  refine x_icmp_eq 1024 C dL_law_1019 (by decide) (fun _ => ?_) (fun z => absurd ht.symm z)
  refine x_iload C dL_law_1024 rfl ?_
  refine x_if_ne 1041 C dL_law_1026 (by decide) (fun _ => ?_) (fun h0 => ?_)
  · refine x_goto 4068 C dL_law_1041 (by decide) ?_
    refine x_sub [(4, .int i), (3, .ref (b + 2636)), (2, .ref (b + 2628)), (1, .ref b), (0, .ref a)] [2, 3, 4, 5, 6] rfl ?_
    refine x_widen (k := cells + 200) (n := slots + 2000) (by omega) (by omega) ?_
    exact kk _ _ hw hS
  have ho := ho h0
  refine x_aload_n C dL_law_1029 rfl ?_
  refine x_iconst (0 : Int32) C dL_law_1030 rfl ?_
  refine x_lald C hw.2.2 in01 dL_law_1031 ?_
  refine x_iload C dL_law_1032 rfl ?_
  refine x_i2l C dL_law_1034 ?_
  refine x_lcmp_eq 1041 C dL_law_1035 dL_law_1036 (by decide) (fun _ => ?_) (fun z => absurd ho z)
  refine x_goto 4068 C dL_law_1041 (by decide) ?_
  refine x_sub [(4, .int i), (3, .ref (b + 2636)), (2, .ref (b + 2628)), (1, .ref b), (0, .ref a)] [2, 3, 4, 5, 6] rfl ?_
  refine x_widen (k := cells + 200) (n := slots + 2000) (by omega) (by omega) ?_
  exact kk _ _ hw hS
set_option maxRecDepth 20000 in
set_option maxHeartbeats 4000000 in
theorem cs_15 {p : Program} {l : Launch} {e : Env} {s : State} {m : MethodId} {args : Array Value} {below : List Frame} {meth : Method} {c : Code} {Q : State → Prop} {H : Heap} {locs : List Loc} {cells slots : Nat} {D : va_G} {cA : Nat → ClassId} {a b L : Nat} {xs : Nat → Int32} {i : Int32} {ν μ : Mm} {oc : Nat → Int64} (C : xC D cA s RL cL_law 8 (some .boolean) p s m args meth c) (hG : xG l D cA s) (hNc : xNc s) (hX : va_X a L xs s s.heap) (hal : a < s.heap.size) (hw : LW D cA s b ν μ oc H) (hS : va_S (xOut s) s.heap H locs) (hcs : cells + 200 ≤ 601024 ∧ slots + 2000 ≤ 7293034) (a1 : Int32) (a2 : Int32) (r1 : vp_in (i + 1) L ∧ xs (i + 1).toNatClampNeg = a1) (r2 : vp_in (i + 2) L ∧ xs (i + 2).toNatClampNeg = a2) (r : Thr Int32) (q : Int32 × Mm) (hF : g_X11_calls ν a1 a2 = some r) (hk : ∀ k, r = .error k → k = 1 ∨ k = 2) (hok : OkR (μ.1 1)) (hM : f_X12_calls μ a1 a2 = q) (ht : (thC (fun k => if k = 1 then 1 else if k = 2 then 2 else 0) r) = f_X12_thrown q.2) (ho : (thC (fun k => if k = 1 then 1 else if k = 2 then 2 else 0) r) = 0 → (thO (fun q => q.toInt64) oc r) 0 = q.1.toInt64) (kk : ∀ (H1 : Heap) (locs1 : List Loc), LW D cA s b (thM (fun _ => ν) ν r) q.2 (thO (fun q => q.toInt64) oc r) H1 → va_S (xOut s) s.heap H1 locs1 → xW p l e room_1 s m args below meth c 8 Q H1 locs1 (cells + 200) (slots + 2000) 4068 [(4, .int i), (3, .ref (b + 2636)), (2, .ref (b + 2628)), (1, .ref b), (0, .ref a)] []) : xW p l e room_1 s m args below meth c 8 Q H locs cells slots 1044 [(4, .int i), (3, .ref (b + 2636)), (2, .ref (b + 2628)), (1, .ref b), (0, .ref a)] [] := by
  refine x_aload_n C dL_law_1044 rfl ?_
  refine x_aload_n C dL_law_1045 rfl ?_
  refine x_iload C dL_law_1046 rfl ?_
  refine x_iconst (1 : Int32) C dL_law_1048 rfl ?_
  refine x_iadd C dL_law_1049 ?_
  refine x_sld C hX hal hS r1 dL_law_1050 ?_
  refine x_aload_n C dL_law_1051 rfl ?_
  refine x_iload C dL_law_1052 rfl ?_
  refine x_iconst (2 : Int32) C dL_law_1054 rfl ?_
  refine x_iadd C dL_law_1055 ?_
  refine x_sld C hX hal hS r2 dL_law_1056 ?_
  refine x_aload_n C dL_law_1057 rfl ?_
  refine x_goM (fun ls h => x_runH (As := [.ref b, .int a1, .int a2, .ref (b + 2636)]) [] h C (mw_L_calls 261 mlk_261) (k_L_calls l D cA s (b + 2637) b ν _ hG hNc (b + 2636) (by omega) (by omega) oc a1 a2 r hF hk) ⟨rfl, rfl, nb rfl, nb rfl⟩ rfl ⟨rfl, hw.1, hw.2.2⟩ (nb rfl) ⟨by show _ ≤ 601024; omega, by show _ ≤ 7293034; omega⟩ dL_law_1058) hS hw.aL (fun H1 locs1 hw1 hz1 hk1 hS1 => ?_)
  replace hw := hw.cls hw1 hk1
  replace hS := hS1
  clear hw1 hk1 hz1 hS1
  refine x_istore [(5, .int (thC (fun k => if k = 1 then 1 else if k = 2 then 2 else 0) r)), (4, .int i), (3, .ref (b + 2636)), (2, .ref (b + 2628)), (1, .ref b), (0, .ref a)] C dL_law_1061 (by decide) rfl ?_
  refine x_aload_n C dL_law_1063 rfl ?_
  refine x_aload_n C dL_law_1064 rfl ?_
  refine x_iload C dL_law_1065 rfl ?_
  refine x_iconst (1 : Int32) C dL_law_1067 rfl ?_
  refine x_iadd C dL_law_1068 ?_
  refine x_sld C hX hal hS r1 dL_law_1069 ?_
  refine x_aload_n C dL_law_1070 rfl ?_
  refine x_iload C dL_law_1071 rfl ?_
  refine x_iconst (2 : Int32) C dL_law_1073 rfl ?_
  refine x_iadd C dL_law_1074 ?_
  refine x_sld C hX hal hS r2 dL_law_1075 ?_
  have K := c_X12_calls l D cA s (b + 2628) μ H1.size hok a1 a2
  rw [hM] at K
  refine x_goM (fun ls h => x_runV (As := [.int a1, .int a2]) [] h C ml_L_263 K ⟨rfl, rfl, nb rfl, nb rfl⟩ rfl (M_obj hw.2.1.2.2.2.2) rfl ⟨rfl, hw.2.1.2.2.2.2⟩ (nb rfl) ⟨by show _ ≤ 601024; omega, by show _ ≤ 7293034; omega⟩ dL_law_1076) hS hw.aM (fun H2 locs2 hw1 hz1 hk1 hS1 => ?_)
  replace hw := hw.modM hw1 hz1 hk1
  replace hS := hS1
  clear hw1 hk1 hz1 hS1
  refine x_istore [(6, .int q.1), (5, .int (thC (fun k => if k = 1 then 1 else if k = 2 then 2 else 0) r)), (4, .int i), (3, .ref (b + 2636)), (2, .ref (b + 2628)), (1, .ref b), (0, .ref a)] C dL_law_1079 (by decide) rfl ?_
  refine x_aload_n C dL_law_1081 rfl ?_
  refine x_goR (fun ls h => x_runV (As := []) [] h C ml_L_209 (c_X12_thrown l D cA s (b + 2628) q.2) ⟨rfl, rfl, nb rfl, nb rfl⟩ rfl (M_obj hw.2.1.2.2.2.2) rfl hw.2.1.2.2.2.2 (nb rfl) ⟨by show _ ≤ 601024; omega, by show _ ≤ 7293034; omega⟩ dL_law_1082) ?_
  refine x_iload C dL_law_1085 rfl ?_
  refine x_icmp_eq 1092 C dL_law_1087 (by decide) (fun _ => ?_) (fun z => absurd ht.symm z)
  refine x_iload C dL_law_1092 rfl ?_
  refine x_if_ne 1109 C dL_law_1094 (by decide) (fun _ => ?_) (fun h0 => ?_)
  · refine x_goto 4068 C dL_law_1109 (by decide) ?_
    refine x_sub [(4, .int i), (3, .ref (b + 2636)), (2, .ref (b + 2628)), (1, .ref b), (0, .ref a)] [2, 3, 4, 5, 6] rfl ?_
    refine x_widen (k := cells + 200) (n := slots + 2000) (by omega) (by omega) ?_
    exact kk _ _ hw hS
  have ho := ho h0
  refine x_aload_n C dL_law_1097 rfl ?_
  refine x_iconst (0 : Int32) C dL_law_1098 rfl ?_
  refine x_lald C hw.2.2 in01 dL_law_1099 ?_
  refine x_iload C dL_law_1100 rfl ?_
  refine x_i2l C dL_law_1102 ?_
  refine x_lcmp_eq 1109 C dL_law_1103 dL_law_1104 (by decide) (fun _ => ?_) (fun z => absurd ho z)
  refine x_goto 4068 C dL_law_1109 (by decide) ?_
  refine x_sub [(4, .int i), (3, .ref (b + 2636)), (2, .ref (b + 2628)), (1, .ref b), (0, .ref a)] [2, 3, 4, 5, 6] rfl ?_
  refine x_widen (k := cells + 200) (n := slots + 2000) (by omega) (by omega) ?_
  exact kk _ _ hw hS
set_option maxRecDepth 20000 in
set_option maxHeartbeats 4000000 in
theorem cs_16 {p : Program} {l : Launch} {e : Env} {s : State} {m : MethodId} {args : Array Value} {below : List Frame} {meth : Method} {c : Code} {Q : State → Prop} {H : Heap} {locs : List Loc} {cells slots : Nat} {D : va_G} {cA : Nat → ClassId} {a b L : Nat} {xs : Nat → Int32} {i : Int32} {ν μ : Mm} {oc : Nat → Int64} (C : xC D cA s RL cL_law 8 (some .boolean) p s m args meth c) (hG : xG l D cA s) (hNc : xNc s) (hX : va_X a L xs s s.heap) (hal : a < s.heap.size) (hw : LW D cA s b ν μ oc H) (hS : va_S (xOut s) s.heap H locs) (hcs : cells + 200 ≤ 601024 ∧ slots + 2000 ≤ 7293034) (a1 : Int32) (a2 : Int32) (r1 : vp_in (i + 1) L ∧ xs (i + 1).toNatClampNeg = a1) (r2 : vp_in (i + 2) L ∧ xs (i + 2).toNatClampNeg = a2) (r : Thr Int32) (q : Int32 × Mm) (hF : g_X11_call ν a1 a2 = some r) (hk : ∀ k, r = .error k → k = 1 ∨ k = 2) (hok : OkR (μ.1 1)) (hM : f_X12_call μ a1 a2 = q) (ht : (thC (fun k => if k = 1 then 1 else if k = 2 then 2 else 0) r) = f_X12_thrown q.2) (ho : (thC (fun k => if k = 1 then 1 else if k = 2 then 2 else 0) r) = 0 → (thO (fun q => q.toInt64) oc r) 0 = q.1.toInt64) (kk : ∀ (H1 : Heap) (locs1 : List Loc), LW D cA s b (thM (fun _ => ν) ν r) q.2 (thO (fun q => q.toInt64) oc r) H1 → va_S (xOut s) s.heap H1 locs1 → xW p l e room_1 s m args below meth c 8 Q H1 locs1 (cells + 200) (slots + 2000) 4068 [(4, .int i), (3, .ref (b + 2636)), (2, .ref (b + 2628)), (1, .ref b), (0, .ref a)] []) : xW p l e room_1 s m args below meth c 8 Q H locs cells slots 1112 [(4, .int i), (3, .ref (b + 2636)), (2, .ref (b + 2628)), (1, .ref b), (0, .ref a)] [] := by
  refine x_aload_n C dL_law_1112 rfl ?_
  refine x_aload_n C dL_law_1113 rfl ?_
  refine x_iload C dL_law_1114 rfl ?_
  refine x_iconst (1 : Int32) C dL_law_1116 rfl ?_
  refine x_iadd C dL_law_1117 ?_
  refine x_sld C hX hal hS r1 dL_law_1118 ?_
  refine x_aload_n C dL_law_1119 rfl ?_
  refine x_iload C dL_law_1120 rfl ?_
  refine x_iconst (2 : Int32) C dL_law_1122 rfl ?_
  refine x_iadd C dL_law_1123 ?_
  refine x_sld C hX hal hS r2 dL_law_1124 ?_
  refine x_aload_n C dL_law_1125 rfl ?_
  refine x_goM (fun ls h => x_runH (As := [.ref b, .int a1, .int a2, .ref (b + 2636)]) [] h C (mw_L_call 264 mlk_264) (k_L_call l D cA s (b + 2637) b ν _ hG hNc (b + 2636) (by omega) (by omega) oc a1 a2 r hF hk) ⟨rfl, rfl, nb rfl, nb rfl⟩ rfl ⟨rfl, hw.1, hw.2.2⟩ (nb rfl) ⟨by show _ ≤ 601024; omega, by show _ ≤ 7293034; omega⟩ dL_law_1126) hS hw.aL (fun H1 locs1 hw1 hz1 hk1 hS1 => ?_)
  replace hw := hw.cls hw1 hk1
  replace hS := hS1
  clear hw1 hk1 hz1 hS1
  refine x_istore [(5, .int (thC (fun k => if k = 1 then 1 else if k = 2 then 2 else 0) r)), (4, .int i), (3, .ref (b + 2636)), (2, .ref (b + 2628)), (1, .ref b), (0, .ref a)] C dL_law_1129 (by decide) rfl ?_
  refine x_aload_n C dL_law_1131 rfl ?_
  refine x_aload_n C dL_law_1132 rfl ?_
  refine x_iload C dL_law_1133 rfl ?_
  refine x_iconst (1 : Int32) C dL_law_1135 rfl ?_
  refine x_iadd C dL_law_1136 ?_
  refine x_sld C hX hal hS r1 dL_law_1137 ?_
  refine x_aload_n C dL_law_1138 rfl ?_
  refine x_iload C dL_law_1139 rfl ?_
  refine x_iconst (2 : Int32) C dL_law_1141 rfl ?_
  refine x_iadd C dL_law_1142 ?_
  refine x_sld C hX hal hS r2 dL_law_1143 ?_
  have K := c_X12_call l D cA s (b + 2628) μ H1.size hok a1 a2
  rw [hM] at K
  refine x_goM (fun ls h => x_runV (As := [.int a1, .int a2]) [] h C ml_L_266 K ⟨rfl, rfl, nb rfl, nb rfl⟩ rfl (M_obj hw.2.1.2.2.2.2) rfl ⟨rfl, hw.2.1.2.2.2.2⟩ (nb rfl) ⟨by show _ ≤ 601024; omega, by show _ ≤ 7293034; omega⟩ dL_law_1144) hS hw.aM (fun H2 locs2 hw1 hz1 hk1 hS1 => ?_)
  replace hw := hw.modM hw1 hz1 hk1
  replace hS := hS1
  clear hw1 hk1 hz1 hS1
  refine x_istore [(6, .int q.1), (5, .int (thC (fun k => if k = 1 then 1 else if k = 2 then 2 else 0) r)), (4, .int i), (3, .ref (b + 2636)), (2, .ref (b + 2628)), (1, .ref b), (0, .ref a)] C dL_law_1147 (by decide) rfl ?_
  refine x_aload_n C dL_law_1149 rfl ?_
  refine x_goR (fun ls h => x_runV (As := []) [] h C ml_L_209 (c_X12_thrown l D cA s (b + 2628) q.2) ⟨rfl, rfl, nb rfl, nb rfl⟩ rfl (M_obj hw.2.1.2.2.2.2) rfl hw.2.1.2.2.2.2 (nb rfl) ⟨by show _ ≤ 601024; omega, by show _ ≤ 7293034; omega⟩ dL_law_1150) ?_
  refine x_iload C dL_law_1153 rfl ?_
  refine x_icmp_eq 1160 C dL_law_1155 (by decide) (fun _ => ?_) (fun z => absurd ht.symm z)
  refine x_iload C dL_law_1160 rfl ?_
  refine x_if_ne 1177 C dL_law_1162 (by decide) (fun _ => ?_) (fun h0 => ?_)
  · refine x_goto 4068 C dL_law_1177 (by decide) ?_
    refine x_sub [(4, .int i), (3, .ref (b + 2636)), (2, .ref (b + 2628)), (1, .ref b), (0, .ref a)] [2, 3, 4, 5, 6] rfl ?_
    refine x_widen (k := cells + 200) (n := slots + 2000) (by omega) (by omega) ?_
    exact kk _ _ hw hS
  have ho := ho h0
  refine x_aload_n C dL_law_1165 rfl ?_
  refine x_iconst (0 : Int32) C dL_law_1166 rfl ?_
  refine x_lald C hw.2.2 in01 dL_law_1167 ?_
  refine x_iload C dL_law_1168 rfl ?_
  refine x_i2l C dL_law_1170 ?_
  refine x_lcmp_eq 1177 C dL_law_1171 dL_law_1172 (by decide) (fun _ => ?_) (fun z => absurd ho z)
  refine x_goto 4068 C dL_law_1177 (by decide) ?_
  refine x_sub [(4, .int i), (3, .ref (b + 2636)), (2, .ref (b + 2628)), (1, .ref b), (0, .ref a)] [2, 3, 4, 5, 6] rfl ?_
  refine x_widen (k := cells + 200) (n := slots + 2000) (by omega) (by omega) ?_
  exact kk _ _ hw hS
set_option maxRecDepth 20000 in
set_option maxHeartbeats 4000000 in
theorem cs_17 {p : Program} {l : Launch} {e : Env} {s : State} {m : MethodId} {args : Array Value} {below : List Frame} {meth : Method} {c : Code} {Q : State → Prop} {H : Heap} {locs : List Loc} {cells slots : Nat} {D : va_G} {cA : Nat → ClassId} {a b L : Nat} {xs : Nat → Int32} {i : Int32} {ν μ : Mm} {oc : Nat → Int64} (C : xC D cA s RL cL_law 8 (some .boolean) p s m args meth c) (hG : xG l D cA s) (hNc : xNc s) (hX : va_X a L xs s s.heap) (hal : a < s.heap.size) (hw : LW D cA s b ν μ oc H) (hS : va_S (xOut s) s.heap H locs) (hcs : cells + 200 ≤ 601024 ∧ slots + 2000 ≤ 7293034) (a1 : Int32) (r1 : vp_in (i + 1) L ∧ xs (i + 1).toNatClampNeg = a1) (r : Thr Int32) (q : Int32 × Mm) (hF : g_X11_layDays ν a1 = some r) (hk : ∀ k, r = .error k → k = 1) (hok : OkR (μ.1 1)) (hM : f_X12_layDays μ a1 = q) (ht : (thC (fun k => if k = 1 then 1 else 0) r) = f_X12_thrown q.2) (ho : (thC (fun k => if k = 1 then 1 else 0) r) = 0 → (thO (fun q => q.toInt64) oc r) 0 = q.1.toInt64) (kk : ∀ (H1 : Heap) (locs1 : List Loc), LW D cA s b (thM (fun _ => ν) ν r) q.2 (thO (fun q => q.toInt64) oc r) H1 → va_S (xOut s) s.heap H1 locs1 → xW p l e room_1 s m args below meth c 8 Q H1 locs1 (cells + 200) (slots + 2000) 4068 [(4, .int i), (3, .ref (b + 2636)), (2, .ref (b + 2628)), (1, .ref b), (0, .ref a)] []) : xW p l e room_1 s m args below meth c 8 Q H locs cells slots 1180 [(4, .int i), (3, .ref (b + 2636)), (2, .ref (b + 2628)), (1, .ref b), (0, .ref a)] [] := by
  refine x_aload_n C dL_law_1180 rfl ?_
  refine x_aload_n C dL_law_1181 rfl ?_
  refine x_iload C dL_law_1182 rfl ?_
  refine x_iconst (1 : Int32) C dL_law_1184 rfl ?_
  refine x_iadd C dL_law_1185 ?_
  refine x_sld C hX hal hS r1 dL_law_1186 ?_
  refine x_aload_n C dL_law_1187 rfl ?_
  refine x_goM (fun ls h => x_runH (As := [.ref b, .int a1, .ref (b + 2636)]) [] h C (mw_L_layDays 267 mlk_267) (k_L_layDays l D cA s (b + 2637) b ν _ hG hNc (b + 2636) (by omega) (by omega) oc a1 r hF hk) ⟨rfl, rfl, nb rfl, nb rfl⟩ rfl ⟨rfl, hw.1, hw.2.2⟩ (nb rfl) ⟨by show _ ≤ 601024; omega, by show _ ≤ 7293034; omega⟩ dL_law_1188) hS hw.aL (fun H1 locs1 hw1 hz1 hk1 hS1 => ?_)
  replace hw := hw.cls hw1 hk1
  replace hS := hS1
  clear hw1 hk1 hz1 hS1
  refine x_istore [(5, .int (thC (fun k => if k = 1 then 1 else 0) r)), (4, .int i), (3, .ref (b + 2636)), (2, .ref (b + 2628)), (1, .ref b), (0, .ref a)] C dL_law_1191 (by decide) rfl ?_
  refine x_aload_n C dL_law_1193 rfl ?_
  refine x_aload_n C dL_law_1194 rfl ?_
  refine x_iload C dL_law_1195 rfl ?_
  refine x_iconst (1 : Int32) C dL_law_1197 rfl ?_
  refine x_iadd C dL_law_1198 ?_
  refine x_sld C hX hal hS r1 dL_law_1199 ?_
  have K := c_X12_layDays l D cA s (b + 2628) μ H1.size hok a1
  rw [hM] at K
  refine x_goM (fun ls h => x_runV (As := [.int a1]) [] h C ml_L_269 K ⟨rfl, rfl, nb rfl, nb rfl⟩ rfl (M_obj hw.2.1.2.2.2.2) rfl ⟨rfl, hw.2.1.2.2.2.2⟩ (nb rfl) ⟨by show _ ≤ 601024; omega, by show _ ≤ 7293034; omega⟩ dL_law_1200) hS hw.aM (fun H2 locs2 hw1 hz1 hk1 hS1 => ?_)
  replace hw := hw.modM hw1 hz1 hk1
  replace hS := hS1
  clear hw1 hk1 hz1 hS1
  refine x_istore [(6, .int q.1), (5, .int (thC (fun k => if k = 1 then 1 else 0) r)), (4, .int i), (3, .ref (b + 2636)), (2, .ref (b + 2628)), (1, .ref b), (0, .ref a)] C dL_law_1203 (by decide) rfl ?_
  refine x_aload_n C dL_law_1205 rfl ?_
  refine x_goR (fun ls h => x_runV (As := []) [] h C ml_L_209 (c_X12_thrown l D cA s (b + 2628) q.2) ⟨rfl, rfl, nb rfl, nb rfl⟩ rfl (M_obj hw.2.1.2.2.2.2) rfl hw.2.1.2.2.2.2 (nb rfl) ⟨by show _ ≤ 601024; omega, by show _ ≤ 7293034; omega⟩ dL_law_1206) ?_
  refine x_iload C dL_law_1209 rfl ?_
  refine x_icmp_eq 1216 C dL_law_1211 (by decide) (fun _ => ?_) (fun z => absurd ht.symm z)
  refine x_iload C dL_law_1216 rfl ?_
  refine x_if_ne 1233 C dL_law_1218 (by decide) (fun _ => ?_) (fun h0 => ?_)
  · refine x_goto 4068 C dL_law_1233 (by decide) ?_
    refine x_sub [(4, .int i), (3, .ref (b + 2636)), (2, .ref (b + 2628)), (1, .ref b), (0, .ref a)] [2, 3, 4, 5, 6] rfl ?_
    refine x_widen (k := cells + 200) (n := slots + 2000) (by omega) (by omega) ?_
    exact kk _ _ hw hS
  have ho := ho h0
  refine x_aload_n C dL_law_1221 rfl ?_
  refine x_iconst (0 : Int32) C dL_law_1222 rfl ?_
  refine x_lald C hw.2.2 in01 dL_law_1223 ?_
  refine x_iload C dL_law_1224 rfl ?_
  refine x_i2l C dL_law_1226 ?_
  refine x_lcmp_eq 1233 C dL_law_1227 dL_law_1228 (by decide) (fun _ => ?_) (fun z => absurd ho z)
  refine x_goto 4068 C dL_law_1233 (by decide) ?_
  refine x_sub [(4, .int i), (3, .ref (b + 2636)), (2, .ref (b + 2628)), (1, .ref b), (0, .ref a)] [2, 3, 4, 5, 6] rfl ?_
  refine x_widen (k := cells + 200) (n := slots + 2000) (by omega) (by omega) ?_
  exact kk _ _ hw hS
set_option maxRecDepth 20000 in
set_option maxHeartbeats 4000000 in
theorem cs_18 {p : Program} {l : Launch} {e : Env} {s : State} {m : MethodId} {args : Array Value} {below : List Frame} {meth : Method} {c : Code} {Q : State → Prop} {H : Heap} {locs : List Loc} {cells slots : Nat} {D : va_G} {cA : Nat → ClassId} {a b L : Nat} {xs : Nat → Int32} {i : Int32} {ν μ : Mm} {oc : Nat → Int64} (C : xC D cA s RL cL_law 8 (some .boolean) p s m args meth c) (hG : xG l D cA s) (hNc : xNc s) (hX : va_X a L xs s s.heap) (hal : a < s.heap.size) (hw : LW D cA s b ν μ oc H) (hS : va_S (xOut s) s.heap H locs) (hcs : cells + 200 ≤ 601024 ∧ slots + 2000 ≤ 7293034) (a1 : Int32) (r1 : vp_in (i + 1) L ∧ xs (i + 1).toNatClampNeg = a1) (r : Thr Int32) (q : Int32 × Mm) (hF : g_X11_pending ν a1 = some r) (hk : ∀ k, r = .error k → k = 1) (hok : OkR (μ.1 1)) (hM : f_X12_pending μ a1 = q) (ht : (thC (fun k => if k = 1 then 1 else 0) r) = f_X12_thrown q.2) (ho : (thC (fun k => if k = 1 then 1 else 0) r) = 0 → (thO (fun q => q.toInt64) oc r) 0 = q.1.toInt64) (kk : ∀ (H1 : Heap) (locs1 : List Loc), LW D cA s b (thM (fun _ => ν) ν r) q.2 (thO (fun q => q.toInt64) oc r) H1 → va_S (xOut s) s.heap H1 locs1 → xW p l e room_1 s m args below meth c 8 Q H1 locs1 (cells + 200) (slots + 2000) 4068 [(4, .int i), (3, .ref (b + 2636)), (2, .ref (b + 2628)), (1, .ref b), (0, .ref a)] []) : xW p l e room_1 s m args below meth c 8 Q H locs cells slots 1236 [(4, .int i), (3, .ref (b + 2636)), (2, .ref (b + 2628)), (1, .ref b), (0, .ref a)] [] := by
  refine x_aload_n C dL_law_1236 rfl ?_
  refine x_aload_n C dL_law_1237 rfl ?_
  refine x_iload C dL_law_1238 rfl ?_
  refine x_iconst (1 : Int32) C dL_law_1240 rfl ?_
  refine x_iadd C dL_law_1241 ?_
  refine x_sld C hX hal hS r1 dL_law_1242 ?_
  refine x_aload_n C dL_law_1243 rfl ?_
  refine x_goM (fun ls h => x_runH (As := [.ref b, .int a1, .ref (b + 2636)]) [] h C (mw_L_pending 270 mlk_270) (k_L_pending l D cA s (b + 2637) b ν _ hG hNc (b + 2636) (by omega) (by omega) oc a1 r hF hk) ⟨rfl, rfl, nb rfl, nb rfl⟩ rfl ⟨rfl, hw.1, hw.2.2⟩ (nb rfl) ⟨by show _ ≤ 601024; omega, by show _ ≤ 7293034; omega⟩ dL_law_1244) hS hw.aL (fun H1 locs1 hw1 hz1 hk1 hS1 => ?_)
  replace hw := hw.cls hw1 hk1
  replace hS := hS1
  clear hw1 hk1 hz1 hS1
  refine x_istore [(5, .int (thC (fun k => if k = 1 then 1 else 0) r)), (4, .int i), (3, .ref (b + 2636)), (2, .ref (b + 2628)), (1, .ref b), (0, .ref a)] C dL_law_1247 (by decide) rfl ?_
  refine x_aload_n C dL_law_1249 rfl ?_
  refine x_aload_n C dL_law_1250 rfl ?_
  refine x_iload C dL_law_1251 rfl ?_
  refine x_iconst (1 : Int32) C dL_law_1253 rfl ?_
  refine x_iadd C dL_law_1254 ?_
  refine x_sld C hX hal hS r1 dL_law_1255 ?_
  have K := c_X12_pending l D cA s (b + 2628) μ H1.size hok a1
  rw [hM] at K
  refine x_goM (fun ls h => x_runV (As := [.int a1]) [] h C ml_L_272 K ⟨rfl, rfl, nb rfl, nb rfl⟩ rfl (M_obj hw.2.1.2.2.2.2) rfl ⟨rfl, hw.2.1.2.2.2.2⟩ (nb rfl) ⟨by show _ ≤ 601024; omega, by show _ ≤ 7293034; omega⟩ dL_law_1256) hS hw.aM (fun H2 locs2 hw1 hz1 hk1 hS1 => ?_)
  replace hw := hw.modM hw1 hz1 hk1
  replace hS := hS1
  clear hw1 hk1 hz1 hS1
  refine x_istore [(6, .int q.1), (5, .int (thC (fun k => if k = 1 then 1 else 0) r)), (4, .int i), (3, .ref (b + 2636)), (2, .ref (b + 2628)), (1, .ref b), (0, .ref a)] C dL_law_1259 (by decide) rfl ?_
  refine x_aload_n C dL_law_1261 rfl ?_
  refine x_goR (fun ls h => x_runV (As := []) [] h C ml_L_209 (c_X12_thrown l D cA s (b + 2628) q.2) ⟨rfl, rfl, nb rfl, nb rfl⟩ rfl (M_obj hw.2.1.2.2.2.2) rfl hw.2.1.2.2.2.2 (nb rfl) ⟨by show _ ≤ 601024; omega, by show _ ≤ 7293034; omega⟩ dL_law_1262) ?_
  refine x_iload C dL_law_1265 rfl ?_
  refine x_icmp_eq 1272 C dL_law_1267 (by decide) (fun _ => ?_) (fun z => absurd ht.symm z)
  refine x_iload C dL_law_1272 rfl ?_
  refine x_if_ne 1289 C dL_law_1274 (by decide) (fun _ => ?_) (fun h0 => ?_)
  · refine x_goto 4068 C dL_law_1289 (by decide) ?_
    refine x_sub [(4, .int i), (3, .ref (b + 2636)), (2, .ref (b + 2628)), (1, .ref b), (0, .ref a)] [2, 3, 4, 5, 6] rfl ?_
    refine x_widen (k := cells + 200) (n := slots + 2000) (by omega) (by omega) ?_
    exact kk _ _ hw hS
  have ho := ho h0
  refine x_aload_n C dL_law_1277 rfl ?_
  refine x_iconst (0 : Int32) C dL_law_1278 rfl ?_
  refine x_lald C hw.2.2 in01 dL_law_1279 ?_
  refine x_iload C dL_law_1280 rfl ?_
  refine x_i2l C dL_law_1282 ?_
  refine x_lcmp_eq 1289 C dL_law_1283 dL_law_1284 (by decide) (fun _ => ?_) (fun z => absurd ho z)
  refine x_goto 4068 C dL_law_1289 (by decide) ?_
  refine x_sub [(4, .int i), (3, .ref (b + 2636)), (2, .ref (b + 2628)), (1, .ref b), (0, .ref a)] [2, 3, 4, 5, 6] rfl ?_
  refine x_widen (k := cells + 200) (n := slots + 2000) (by omega) (by omega) ?_
  exact kk _ _ hw hS
set_option maxRecDepth 20000 in
set_option maxHeartbeats 4000000 in
theorem cs_19 {p : Program} {l : Launch} {e : Env} {s : State} {m : MethodId} {args : Array Value} {below : List Frame} {meth : Method} {c : Code} {Q : State → Prop} {H : Heap} {locs : List Loc} {cells slots : Nat} {D : va_G} {cA : Nat → ClassId} {a b L : Nat} {xs : Nat → Int32} {i : Int32} {ν μ : Mm} {oc : Nat → Int64} (C : xC D cA s RL cL_law 8 (some .boolean) p s m args meth c) (hG : xG l D cA s) (hNc : xNc s) (hX : va_X a L xs s s.heap) (hal : a < s.heap.size) (hw : LW D cA s b ν μ oc H) (hS : va_S (xOut s) s.heap H locs) (hcs : cells + 200 ≤ 601024 ∧ slots + 2000 ≤ 7293034) (a1 : Int32) (r1 : vp_in (i + 1) L ∧ xs (i + 1).toNatClampNeg = a1) (r : Thr Int32) (q : Int32 × Mm) (hF : g_X11_upheld ν a1 = some r) (hk : ∀ k, r = .error k → k = 1) (hok : OkR (μ.1 1)) (hM : f_X12_upheld μ a1 = q) (ht : (thC (fun k => if k = 1 then 1 else 0) r) = f_X12_thrown q.2) (ho : (thC (fun k => if k = 1 then 1 else 0) r) = 0 → (thO (fun q => q.toInt64) oc r) 0 = q.1.toInt64) (kk : ∀ (H1 : Heap) (locs1 : List Loc), LW D cA s b (thM (fun _ => ν) ν r) q.2 (thO (fun q => q.toInt64) oc r) H1 → va_S (xOut s) s.heap H1 locs1 → xW p l e room_1 s m args below meth c 8 Q H1 locs1 (cells + 200) (slots + 2000) 4068 [(4, .int i), (3, .ref (b + 2636)), (2, .ref (b + 2628)), (1, .ref b), (0, .ref a)] []) : xW p l e room_1 s m args below meth c 8 Q H locs cells slots 1292 [(4, .int i), (3, .ref (b + 2636)), (2, .ref (b + 2628)), (1, .ref b), (0, .ref a)] [] := by
  refine x_aload_n C dL_law_1292 rfl ?_
  refine x_aload_n C dL_law_1293 rfl ?_
  refine x_iload C dL_law_1294 rfl ?_
  refine x_iconst (1 : Int32) C dL_law_1296 rfl ?_
  refine x_iadd C dL_law_1297 ?_
  refine x_sld C hX hal hS r1 dL_law_1298 ?_
  refine x_aload_n C dL_law_1299 rfl ?_
  refine x_goM (fun ls h => x_runH (As := [.ref b, .int a1, .ref (b + 2636)]) [] h C (mw_L_upheld 273 mlk_273) (k_L_upheld l D cA s (b + 2637) b ν _ hG hNc (b + 2636) (by omega) (by omega) oc a1 r hF hk) ⟨rfl, rfl, nb rfl, nb rfl⟩ rfl ⟨rfl, hw.1, hw.2.2⟩ (nb rfl) ⟨by show _ ≤ 601024; omega, by show _ ≤ 7293034; omega⟩ dL_law_1300) hS hw.aL (fun H1 locs1 hw1 hz1 hk1 hS1 => ?_)
  replace hw := hw.cls hw1 hk1
  replace hS := hS1
  clear hw1 hk1 hz1 hS1
  refine x_istore [(5, .int (thC (fun k => if k = 1 then 1 else 0) r)), (4, .int i), (3, .ref (b + 2636)), (2, .ref (b + 2628)), (1, .ref b), (0, .ref a)] C dL_law_1303 (by decide) rfl ?_
  refine x_aload_n C dL_law_1305 rfl ?_
  refine x_aload_n C dL_law_1306 rfl ?_
  refine x_iload C dL_law_1307 rfl ?_
  refine x_iconst (1 : Int32) C dL_law_1309 rfl ?_
  refine x_iadd C dL_law_1310 ?_
  refine x_sld C hX hal hS r1 dL_law_1311 ?_
  have K := c_X12_upheld l D cA s (b + 2628) μ H1.size hok a1
  rw [hM] at K
  refine x_goM (fun ls h => x_runV (As := [.int a1]) [] h C ml_L_275 K ⟨rfl, rfl, nb rfl, nb rfl⟩ rfl (M_obj hw.2.1.2.2.2.2) rfl ⟨rfl, hw.2.1.2.2.2.2⟩ (nb rfl) ⟨by show _ ≤ 601024; omega, by show _ ≤ 7293034; omega⟩ dL_law_1312) hS hw.aM (fun H2 locs2 hw1 hz1 hk1 hS1 => ?_)
  replace hw := hw.modM hw1 hz1 hk1
  replace hS := hS1
  clear hw1 hk1 hz1 hS1
  refine x_istore [(6, .int q.1), (5, .int (thC (fun k => if k = 1 then 1 else 0) r)), (4, .int i), (3, .ref (b + 2636)), (2, .ref (b + 2628)), (1, .ref b), (0, .ref a)] C dL_law_1315 (by decide) rfl ?_
  refine x_aload_n C dL_law_1317 rfl ?_
  refine x_goR (fun ls h => x_runV (As := []) [] h C ml_L_209 (c_X12_thrown l D cA s (b + 2628) q.2) ⟨rfl, rfl, nb rfl, nb rfl⟩ rfl (M_obj hw.2.1.2.2.2.2) rfl hw.2.1.2.2.2.2 (nb rfl) ⟨by show _ ≤ 601024; omega, by show _ ≤ 7293034; omega⟩ dL_law_1318) ?_
  refine x_iload C dL_law_1321 rfl ?_
  refine x_icmp_eq 1328 C dL_law_1323 (by decide) (fun _ => ?_) (fun z => absurd ht.symm z)
  refine x_iload C dL_law_1328 rfl ?_
  refine x_if_ne 1345 C dL_law_1330 (by decide) (fun _ => ?_) (fun h0 => ?_)
  · refine x_goto 4068 C dL_law_1345 (by decide) ?_
    refine x_sub [(4, .int i), (3, .ref (b + 2636)), (2, .ref (b + 2628)), (1, .ref b), (0, .ref a)] [2, 3, 4, 5, 6] rfl ?_
    refine x_widen (k := cells + 200) (n := slots + 2000) (by omega) (by omega) ?_
    exact kk _ _ hw hS
  have ho := ho h0
  refine x_aload_n C dL_law_1333 rfl ?_
  refine x_iconst (0 : Int32) C dL_law_1334 rfl ?_
  refine x_lald C hw.2.2 in01 dL_law_1335 ?_
  refine x_iload C dL_law_1336 rfl ?_
  refine x_i2l C dL_law_1338 ?_
  refine x_lcmp_eq 1345 C dL_law_1339 dL_law_1340 (by decide) (fun _ => ?_) (fun z => absurd ho z)
  refine x_goto 4068 C dL_law_1345 (by decide) ?_
  refine x_sub [(4, .int i), (3, .ref (b + 2636)), (2, .ref (b + 2628)), (1, .ref b), (0, .ref a)] [2, 3, 4, 5, 6] rfl ?_
  refine x_widen (k := cells + 200) (n := slots + 2000) (by omega) (by omega) ?_
  exact kk _ _ hw hS
set_option maxRecDepth 20000 in
set_option maxHeartbeats 4000000 in
theorem cs_20 {p : Program} {l : Launch} {e : Env} {s : State} {m : MethodId} {args : Array Value} {below : List Frame} {meth : Method} {c : Code} {Q : State → Prop} {H : Heap} {locs : List Loc} {cells slots : Nat} {D : va_G} {cA : Nat → ClassId} {a b L : Nat} {xs : Nat → Int32} {i : Int32} {ν μ : Mm} {oc : Nat → Int64} (C : xC D cA s RL cL_law 8 (some .boolean) p s m args meth c) (hG : xG l D cA s) (hNc : xNc s) (hX : va_X a L xs s s.heap) (hal : a < s.heap.size) (hw : LW D cA s b ν μ oc H) (hS : va_S (xOut s) s.heap H locs) (hcs : cells + 200 ≤ 601024 ∧ slots + 2000 ≤ 7293034) (a1 : Int32) (r1 : vp_in (i + 1) L ∧ xs (i + 1).toNatClampNeg = a1) (r : Thr Int32) (q : Int32 × Mm) (hF : g_X11_billedDays ν a1 = some r) (hk : ∀ k, r = .error k → k = 1) (hok : OkR (μ.1 1)) (hM : f_X12_billedDays μ a1 = q) (ht : (thC (fun k => if k = 1 then 1 else 0) r) = f_X12_thrown q.2) (ho : (thC (fun k => if k = 1 then 1 else 0) r) = 0 → (thO (fun q => q.toInt64) oc r) 0 = q.1.toInt64) (kk : ∀ (H1 : Heap) (locs1 : List Loc), LW D cA s b (thM (fun _ => ν) ν r) q.2 (thO (fun q => q.toInt64) oc r) H1 → va_S (xOut s) s.heap H1 locs1 → xW p l e room_1 s m args below meth c 8 Q H1 locs1 (cells + 200) (slots + 2000) 4068 [(4, .int i), (3, .ref (b + 2636)), (2, .ref (b + 2628)), (1, .ref b), (0, .ref a)] []) : xW p l e room_1 s m args below meth c 8 Q H locs cells slots 1348 [(4, .int i), (3, .ref (b + 2636)), (2, .ref (b + 2628)), (1, .ref b), (0, .ref a)] [] := by
  refine x_aload_n C dL_law_1348 rfl ?_
  refine x_aload_n C dL_law_1349 rfl ?_
  refine x_iload C dL_law_1350 rfl ?_
  refine x_iconst (1 : Int32) C dL_law_1352 rfl ?_
  refine x_iadd C dL_law_1353 ?_
  refine x_sld C hX hal hS r1 dL_law_1354 ?_
  refine x_aload_n C dL_law_1355 rfl ?_
  refine x_goM (fun ls h => x_runH (As := [.ref b, .int a1, .ref (b + 2636)]) [] h C (mw_L_billedDays 276 mlk_276) (k_L_billedDays l D cA s (b + 2637) b ν _ hG hNc (b + 2636) (by omega) (by omega) oc a1 r hF hk) ⟨rfl, rfl, nb rfl, nb rfl⟩ rfl ⟨rfl, hw.1, hw.2.2⟩ (nb rfl) ⟨by show _ ≤ 601024; omega, by show _ ≤ 7293034; omega⟩ dL_law_1356) hS hw.aL (fun H1 locs1 hw1 hz1 hk1 hS1 => ?_)
  replace hw := hw.cls hw1 hk1
  replace hS := hS1
  clear hw1 hk1 hz1 hS1
  refine x_istore [(5, .int (thC (fun k => if k = 1 then 1 else 0) r)), (4, .int i), (3, .ref (b + 2636)), (2, .ref (b + 2628)), (1, .ref b), (0, .ref a)] C dL_law_1359 (by decide) rfl ?_
  refine x_aload_n C dL_law_1361 rfl ?_
  refine x_aload_n C dL_law_1362 rfl ?_
  refine x_iload C dL_law_1363 rfl ?_
  refine x_iconst (1 : Int32) C dL_law_1365 rfl ?_
  refine x_iadd C dL_law_1366 ?_
  refine x_sld C hX hal hS r1 dL_law_1367 ?_
  have K := c_X12_billedDays l D cA s (b + 2628) μ H1.size hok a1
  rw [hM] at K
  refine x_goM (fun ls h => x_runV (As := [.int a1]) [] h C ml_L_278 K ⟨rfl, rfl, nb rfl, nb rfl⟩ rfl (M_obj hw.2.1.2.2.2.2) rfl ⟨rfl, hw.2.1.2.2.2.2⟩ (nb rfl) ⟨by show _ ≤ 601024; omega, by show _ ≤ 7293034; omega⟩ dL_law_1368) hS hw.aM (fun H2 locs2 hw1 hz1 hk1 hS1 => ?_)
  replace hw := hw.modM hw1 hz1 hk1
  replace hS := hS1
  clear hw1 hk1 hz1 hS1
  refine x_istore [(6, .int q.1), (5, .int (thC (fun k => if k = 1 then 1 else 0) r)), (4, .int i), (3, .ref (b + 2636)), (2, .ref (b + 2628)), (1, .ref b), (0, .ref a)] C dL_law_1371 (by decide) rfl ?_
  refine x_aload_n C dL_law_1373 rfl ?_
  refine x_goR (fun ls h => x_runV (As := []) [] h C ml_L_209 (c_X12_thrown l D cA s (b + 2628) q.2) ⟨rfl, rfl, nb rfl, nb rfl⟩ rfl (M_obj hw.2.1.2.2.2.2) rfl hw.2.1.2.2.2.2 (nb rfl) ⟨by show _ ≤ 601024; omega, by show _ ≤ 7293034; omega⟩ dL_law_1374) ?_
  refine x_iload C dL_law_1377 rfl ?_
  refine x_icmp_eq 1384 C dL_law_1379 (by decide) (fun _ => ?_) (fun z => absurd ht.symm z)
  refine x_iload C dL_law_1384 rfl ?_
  refine x_if_ne 1401 C dL_law_1386 (by decide) (fun _ => ?_) (fun h0 => ?_)
  · refine x_goto 4068 C dL_law_1401 (by decide) ?_
    refine x_sub [(4, .int i), (3, .ref (b + 2636)), (2, .ref (b + 2628)), (1, .ref b), (0, .ref a)] [2, 3, 4, 5, 6] rfl ?_
    refine x_widen (k := cells + 200) (n := slots + 2000) (by omega) (by omega) ?_
    exact kk _ _ hw hS
  have ho := ho h0
  refine x_aload_n C dL_law_1389 rfl ?_
  refine x_iconst (0 : Int32) C dL_law_1390 rfl ?_
  refine x_lald C hw.2.2 in01 dL_law_1391 ?_
  refine x_iload C dL_law_1392 rfl ?_
  refine x_i2l C dL_law_1394 ?_
  refine x_lcmp_eq 1401 C dL_law_1395 dL_law_1396 (by decide) (fun _ => ?_) (fun z => absurd ho z)
  refine x_goto 4068 C dL_law_1401 (by decide) ?_
  refine x_sub [(4, .int i), (3, .ref (b + 2636)), (2, .ref (b + 2628)), (1, .ref b), (0, .ref a)] [2, 3, 4, 5, 6] rfl ?_
  refine x_widen (k := cells + 200) (n := slots + 2000) (by omega) (by omega) ?_
  exact kk _ _ hw hS
set_option maxRecDepth 20000 in
set_option maxHeartbeats 4000000 in
theorem cs_21 {p : Program} {l : Launch} {e : Env} {s : State} {m : MethodId} {args : Array Value} {below : List Frame} {meth : Method} {c : Code} {Q : State → Prop} {H : Heap} {locs : List Loc} {cells slots : Nat} {D : va_G} {cA : Nat → ClassId} {a b L : Nat} {xs : Nat → Int32} {i : Int32} {ν μ : Mm} {oc : Nat → Int64} (C : xC D cA s RL cL_law 8 (some .boolean) p s m args meth c) (hG : xG l D cA s) (hNc : xNc s) (hX : va_X a L xs s s.heap) (hal : a < s.heap.size) (hw : LW D cA s b ν μ oc H) (hS : va_S (xOut s) s.heap H locs) (hcs : cells + 200 ≤ 601024 ∧ slots + 2000 ≤ 7293034) (a1 : Int32) (r1 : vp_in (i + 1) L ∧ xs (i + 1).toNatClampNeg = a1) (r : Thr Int32) (q : Int32 × Mm) (hF : g_X11_billable ν a1 = some r) (hk : ∀ k, r = .error k → k = 1) (hok : OkR (μ.1 1)) (hM : f_X12_billable μ a1 = q) (ht : (thC (fun k => if k = 1 then 1 else 0) r) = f_X12_thrown q.2) (ho : (thC (fun k => if k = 1 then 1 else 0) r) = 0 → (thO (fun q => q.toInt64) oc r) 0 = q.1.toInt64) (kk : ∀ (H1 : Heap) (locs1 : List Loc), LW D cA s b (thM (fun _ => ν) ν r) q.2 (thO (fun q => q.toInt64) oc r) H1 → va_S (xOut s) s.heap H1 locs1 → xW p l e room_1 s m args below meth c 8 Q H1 locs1 (cells + 200) (slots + 2000) 4068 [(4, .int i), (3, .ref (b + 2636)), (2, .ref (b + 2628)), (1, .ref b), (0, .ref a)] []) : xW p l e room_1 s m args below meth c 8 Q H locs cells slots 1404 [(4, .int i), (3, .ref (b + 2636)), (2, .ref (b + 2628)), (1, .ref b), (0, .ref a)] [] := by
  refine x_aload_n C dL_law_1404 rfl ?_
  refine x_aload_n C dL_law_1405 rfl ?_
  refine x_iload C dL_law_1406 rfl ?_
  refine x_iconst (1 : Int32) C dL_law_1408 rfl ?_
  refine x_iadd C dL_law_1409 ?_
  refine x_sld C hX hal hS r1 dL_law_1410 ?_
  refine x_aload_n C dL_law_1411 rfl ?_
  refine x_goM (fun ls h => x_runH (As := [.ref b, .int a1, .ref (b + 2636)]) [] h C (mw_L_billable 279 mlk_279) (k_L_billable l D cA s (b + 2637) b ν _ hG hNc (b + 2636) (by omega) (by omega) oc a1 r hF hk) ⟨rfl, rfl, nb rfl, nb rfl⟩ rfl ⟨rfl, hw.1, hw.2.2⟩ (nb rfl) ⟨by show _ ≤ 601024; omega, by show _ ≤ 7293034; omega⟩ dL_law_1412) hS hw.aL (fun H1 locs1 hw1 hz1 hk1 hS1 => ?_)
  replace hw := hw.cls hw1 hk1
  replace hS := hS1
  clear hw1 hk1 hz1 hS1
  refine x_istore [(5, .int (thC (fun k => if k = 1 then 1 else 0) r)), (4, .int i), (3, .ref (b + 2636)), (2, .ref (b + 2628)), (1, .ref b), (0, .ref a)] C dL_law_1415 (by decide) rfl ?_
  refine x_aload_n C dL_law_1417 rfl ?_
  refine x_aload_n C dL_law_1418 rfl ?_
  refine x_iload C dL_law_1419 rfl ?_
  refine x_iconst (1 : Int32) C dL_law_1421 rfl ?_
  refine x_iadd C dL_law_1422 ?_
  refine x_sld C hX hal hS r1 dL_law_1423 ?_
  have K := c_X12_billable l D cA s (b + 2628) μ H1.size hok a1
  rw [hM] at K
  refine x_goM (fun ls h => x_runV (As := [.int a1]) [] h C ml_L_281 K ⟨rfl, rfl, nb rfl, nb rfl⟩ rfl (M_obj hw.2.1.2.2.2.2) rfl ⟨rfl, hw.2.1.2.2.2.2⟩ (nb rfl) ⟨by show _ ≤ 601024; omega, by show _ ≤ 7293034; omega⟩ dL_law_1424) hS hw.aM (fun H2 locs2 hw1 hz1 hk1 hS1 => ?_)
  replace hw := hw.modM hw1 hz1 hk1
  replace hS := hS1
  clear hw1 hk1 hz1 hS1
  refine x_istore [(6, .int q.1), (5, .int (thC (fun k => if k = 1 then 1 else 0) r)), (4, .int i), (3, .ref (b + 2636)), (2, .ref (b + 2628)), (1, .ref b), (0, .ref a)] C dL_law_1427 (by decide) rfl ?_
  refine x_aload_n C dL_law_1429 rfl ?_
  refine x_goR (fun ls h => x_runV (As := []) [] h C ml_L_209 (c_X12_thrown l D cA s (b + 2628) q.2) ⟨rfl, rfl, nb rfl, nb rfl⟩ rfl (M_obj hw.2.1.2.2.2.2) rfl hw.2.1.2.2.2.2 (nb rfl) ⟨by show _ ≤ 601024; omega, by show _ ≤ 7293034; omega⟩ dL_law_1430) ?_
  refine x_iload C dL_law_1433 rfl ?_
  refine x_icmp_eq 1440 C dL_law_1435 (by decide) (fun _ => ?_) (fun z => absurd ht.symm z)
  refine x_iload C dL_law_1440 rfl ?_
  refine x_if_ne 1457 C dL_law_1442 (by decide) (fun _ => ?_) (fun h0 => ?_)
  · refine x_goto 4068 C dL_law_1457 (by decide) ?_
    refine x_sub [(4, .int i), (3, .ref (b + 2636)), (2, .ref (b + 2628)), (1, .ref b), (0, .ref a)] [2, 3, 4, 5, 6] rfl ?_
    refine x_widen (k := cells + 200) (n := slots + 2000) (by omega) (by omega) ?_
    exact kk _ _ hw hS
  have ho := ho h0
  refine x_aload_n C dL_law_1445 rfl ?_
  refine x_iconst (0 : Int32) C dL_law_1446 rfl ?_
  refine x_lald C hw.2.2 in01 dL_law_1447 ?_
  refine x_iload C dL_law_1448 rfl ?_
  refine x_i2l C dL_law_1450 ?_
  refine x_lcmp_eq 1457 C dL_law_1451 dL_law_1452 (by decide) (fun _ => ?_) (fun z => absurd ho z)
  refine x_goto 4068 C dL_law_1457 (by decide) ?_
  refine x_sub [(4, .int i), (3, .ref (b + 2636)), (2, .ref (b + 2628)), (1, .ref b), (0, .ref a)] [2, 3, 4, 5, 6] rfl ?_
  refine x_widen (k := cells + 200) (n := slots + 2000) (by omega) (by omega) ?_
  exact kk _ _ hw hS
