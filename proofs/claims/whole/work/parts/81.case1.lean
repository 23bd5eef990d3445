set_option maxRecDepth 20000 in
set_option maxHeartbeats 4000000 in
theorem cs_22 {p : Program} {l : Launch} {e : Env} {s : State} {m : MethodId} {args : Array Value} {below : List Frame} {meth : Method} {c : Code} {Q : State → Prop} {H : Heap} {locs : List Loc} {cells slots : Nat} {D : va_G} {cA : Nat → ClassId} {a b L : Nat} {xs : Nat → Int32} {i : Int32} {ν μ : Mm} {oc : Nat → Int64} (C : xC D cA s RL cL_law 8 (some .boolean) p s m args meth c) (hG : xG l D cA s) (hNc : xNc s) (hX : va_X a L xs s s.heap) (hal : a < s.heap.size) (hw : LW D cA s b ν μ oc H) (hS : va_S (xOut s) s.heap H locs) (hcs : cells + 200 ≤ 601024 ∧ slots + 2000 ≤ 7293034) (a1 : Int32) (a2 : Int32) (r1 : vp_in (i + 1) L ∧ xs (i + 1).toNatClampNeg = a1) (r2 : vp_in (i + 2) L ∧ xs (i + 2).toNatClampNeg = a2) (r : Thr Int32) (q : Int32 × Mm) (hF : g_X11_amount ν a1 a2 = some r) (hk : ∀ k, r = .error k → k = 1 ∨ k = 2) (hok : OkR (μ.1 1)) (hM : f_X12_amount μ a1 a2 = q) (ht : (thC (fun k => if k = 1 then 1 else if k = 2 then 2 else 0) r) = f_X12_thrown q.2) (ho : (thC (fun k => if k = 1 then 1 else if k = 2 then 2 else 0) r) = 0 → (thO (fun q => q.toInt64) oc r) 0 = q.1.toInt64) (kk : ∀ (H1 : Heap) (locs1 : List Loc), LW D cA s b (thM (fun _ => ν) ν r) q.2 (thO (fun q => q.toInt64) oc r) H1 → va_S (xOut s) s.heap H1 locs1 → xW p l e room_1 s m args below meth c 8 Q H1 locs1 (cells + 200) (slots + 2000) 4068 [(4, .int i), (3, .ref (b + 2636)), (2, .ref (b + 2628)), (1, .ref b), (0, .ref a)] []) : xW p l e room_1 s m args below meth c 8 Q H locs cells slots 1460 [(4, .int i), (3, .ref (b + 2636)), (2, .ref (b + 2628)), (1, .ref b), (0, .ref a)] [] := by
  refine x_aload_n C dL_law_1460 rfl ?_
  refine x_aload_n C dL_law_1461 rfl ?_
  refine x_iload C dL_law_1462 rfl ?_
  refine x_iconst (1 : Int32) C dL_law_1464 rfl ?_
  refine x_iadd C dL_law_1465 ?_
  refine x_sld C hX hal hS r1 dL_law_1466 ?_
  refine x_aload_n C dL_law_1467 rfl ?_
  refine x_iload C dL_law_1468 rfl ?_
  refine x_iconst (2 : Int32) C dL_law_1470 rfl ?_
  refine x_iadd C dL_law_1471 ?_
  refine x_sld C hX hal hS r2 dL_law_1472 ?_
  refine x_aload_n C dL_law_1473 rfl ?_
  refine x_goM (fun ls h => x_runH (As := [.ref b, .int a1, .int a2, .ref (b + 2636)]) [] h C (mw_L_amount 282 mlk_282) (k_L_amount l D cA s (b + 2637) b ν _ hG hNc (b + 2636) (by omega) (by omega) oc a1 a2 r hF hk) ⟨rfl, rfl, nb rfl, nb rfl⟩ rfl ⟨rfl, hw.1, hw.2.2⟩ (nb rfl) ⟨by show _ ≤ 601024; omega, by show _ ≤ 7293034; omega⟩ dL_law_1474) hS hw.aL (fun H1 locs1 hw1 hz1 hk1 hS1 => ?_)
  replace hw := hw.cls hw1 hk1
  replace hS := hS1
  clear hw1 hk1 hz1 hS1
  refine x_istore [(5, .int (thC (fun k => if k = 1 then 1 else if k = 2 then 2 else 0) r)), (4, .int i), (3, .ref (b + 2636)), (2, .ref (b + 2628)), (1, .ref b), (0, .ref a)] C dL_law_1477 (by decide) rfl ?_
  refine x_aload_n C dL_law_1479 rfl ?_
  refine x_aload_n C dL_law_1480 rfl ?_
  refine x_iload C dL_law_1481 rfl ?_
  refine x_iconst (1 : Int32) C dL_law_1483 rfl ?_
  refine x_iadd C dL_law_1484 ?_
  refine x_sld C hX hal hS r1 dL_law_1485 ?_
  refine x_aload_n C dL_law_1486 rfl ?_
  refine x_iload C dL_law_1487 rfl ?_
  refine x_iconst (2 : Int32) C dL_law_1489 rfl ?_
  refine x_iadd C dL_law_1490 ?_
  refine x_sld C hX hal hS r2 dL_law_1491 ?_
  have K := c_X12_amount l D cA s (b + 2628) μ H1.size hok a1 a2
  rw [hM] at K
  refine x_goM (fun ls h => x_runV (As := [.int a1, .int a2]) [] h C ml_L_284 K ⟨rfl, rfl, nb rfl, nb rfl⟩ rfl (M_obj hw.2.1.2.2.2.2) rfl ⟨rfl, hw.2.1.2.2.2.2⟩ (nb rfl) ⟨by show _ ≤ 601024; omega, by show _ ≤ 7293034; omega⟩ dL_law_1492) hS hw.aM (fun H2 locs2 hw1 hz1 hk1 hS1 => ?_)
  replace hw := hw.modM hw1 hz1 hk1
  replace hS := hS1
  clear hw1 hk1 hz1 hS1
  refine x_istore [(6, .int q.1), (5, .int (thC (fun k => if k = 1 then 1 else if k = 2 then 2 else 0) r)), (4, .int i), (3, .ref (b + 2636)), (2, .ref (b + 2628)), (1, .ref b), (0, .ref a)] C dL_law_1495 (by decide) rfl ?_
  refine x_aload_n C dL_law_1497 rfl ?_
  refine x_goR (fun ls h => x_runV (As := []) [] h C ml_L_209 (c_X12_thrown l D cA s (b + 2628) q.2) ⟨rfl, rfl, nb rfl, nb rfl⟩ rfl (M_obj hw.2.1.2.2.2.2) rfl hw.2.1.2.2.2.2 (nb rfl) ⟨by show _ ≤ 601024; omega, by show _ ≤ 7293034; omega⟩ dL_law_1498) ?_
  refine x_iload C dL_law_1501 rfl ?_
  refine x_icmp_eq 1508 C dL_law_1503 (by decide) (fun _ => ?_) (fun z => absurd ht.symm z)
  refine x_iload C dL_law_1508 rfl ?_
  refine x_if_ne 1525 C dL_law_1510 (by decide) (fun _ => ?_) (fun h0 => ?_)
  · refine x_goto 4068 C dL_law_1525 (by decide) ?_
    refine x_sub [(4, .int i), (3, .ref (b + 2636)), (2, .ref (b + 2628)), (1, .ref b), (0, .ref a)] [2, 3, 4, 5, 6] rfl ?_
    refine x_widen (k := cells + 200) (n := slots + 2000) (by omega) (by omega) ?_
    exact kk _ _ hw hS
  have ho := ho h0
  refine x_aload_n C dL_law_1513 rfl ?_
  refine x_iconst (0 : Int32) C dL_law_1514 rfl ?_
  refine x_lald C hw.2.2 in01 dL_law_1515 ?_
  refine x_iload C dL_law_1516 rfl ?_
  refine x_i2l C dL_law_1518 ?_
  refine x_lcmp_eq 1525 C dL_law_1519 dL_law_1520 (by decide) (fun _ => ?_) (fun z => absurd ho z)
  refine x_goto 4068 C dL_law_1525 (by decide) ?_
  refine x_sub [(4, .int i), (3, .ref (b + 2636)), (2, .ref (b + 2628)), (1, .ref b), (0, .ref a)] [2, 3, 4, 5, 6] rfl ?_
  refine x_widen (k := cells + 200) (n := slots + 2000) (by omega) (by omega) ?_
  exact kk _ _ hw hS
set_option maxRecDepth 20000 in
set_option maxHeartbeats 4000000 in
theorem cs_23 {p : Program} {l : Launch} {e : Env} {s : State} {m : MethodId} {args : Array Value} {below : List Frame} {meth : Method} {c : Code} {Q : State → Prop} {H : Heap} {locs : List Loc} {cells slots : Nat} {D : va_G} {cA : Nat → ClassId} {a b L : Nat} {xs : Nat → Int32} {i : Int32} {ν μ : Mm} {oc : Nat → Int64} (C : xC D cA s RL cL_law 8 (some .boolean) p s m args meth c) (hG : xG l D cA s) (hNc : xNc s) (hX : va_X a L xs s s.heap) (hal : a < s.heap.size) (hw : LW D cA s b ν μ oc H) (hS : va_S (xOut s) s.heap H locs) (hcs : cells + 200 ≤ 601024 ∧ slots + 2000 ≤ 7293034) (a1 : Int32) (r1 : vp_in (i + 1) L ∧ xs (i + 1).toNatClampNeg = a1) (r : Thr Int32) (q : Int32 × Mm) (hF : g_X11_callTotal ν a1 = some r) (hk : ∀ k, r = .error k → k = 1) (hok : OkR (μ.1 1)) (hM : f_X12_callTotal μ a1 = q) (ht : (thC (fun k => if k = 1 then 1 else 0) r) = f_X12_thrown q.2) (ho : (thC (fun k => if k = 1 then 1 else 0) r) = 0 → (thO (fun q => q.toInt64) oc r) 0 = q.1.toInt64) (kk : ∀ (H1 : Heap) (locs1 : List Loc), LW D cA s b (thM (fun _ => ν) ν r) q.2 (thO (fun q => q.toInt64) oc r) H1 → va_S (xOut s) s.heap H1 locs1 → xW p l e room_1 s m args below meth c 8 Q H1 locs1 (cells + 200) (slots + 2000) 4068 [(4, .int i), (3, .ref (b + 2636)), (2, .ref (b + 2628)), (1, .ref b), (0, .ref a)] []) : xW p l e room_1 s m args below meth c 8 Q H locs cells slots 1528 [(4, .int i), (3, .ref (b + 2636)), (2, .ref (b + 2628)), (1, .ref b), (0, .ref a)] [] := by
  refine x_aload_n C dL_law_1528 rfl ?_
  refine x_aload_n C dL_law_1529 rfl ?_
  refine x_iload C dL_law_1530 rfl ?_
  refine x_iconst (1 : Int32) C dL_law_1532 rfl ?_
  refine x_iadd C dL_law_1533 ?_
  refine x_sld C hX hal hS r1 dL_law_1534 ?_
  refine x_aload_n C dL_law_1535 rfl ?_
  refine x_goM (fun ls h => x_runH (As := [.ref b, .int a1, .ref (b + 2636)]) [] h C (mw_L_callTotal 285 mlk_285) (k_L_callTotal l D cA s (b + 2637) b ν _ hG hNc (b + 2636) (by omega) (by omega) oc a1 r hF hk) ⟨rfl, rfl, nb rfl, nb rfl⟩ rfl ⟨rfl, hw.1, hw.2.2⟩ (nb rfl) ⟨by show _ ≤ 601024; omega, by show _ ≤ 7293034; omega⟩ dL_law_1536) hS hw.aL (fun H1 locs1 hw1 hz1 hk1 hS1 => ?_)
  replace hw := hw.cls hw1 hk1
  replace hS := hS1
  clear hw1 hk1 hz1 hS1
  refine x_istore [(5, .int (thC (fun k => if k = 1 then 1 else 0) r)), (4, .int i), (3, .ref (b + 2636)), (2, .ref (b + 2628)), (1, .ref b), (0, .ref a)] C dL_law_1539 (by decide) rfl ?_
  refine x_aload_n C dL_law_1541 rfl ?_
  refine x_aload_n C dL_law_1542 rfl ?_
  refine x_iload C dL_law_1543 rfl ?_
  refine x_iconst (1 : Int32) C dL_law_1545 rfl ?_
  refine x_iadd C dL_law_1546 ?_
  refine x_sld C hX hal hS r1 dL_law_1547 ?_
  have K := c_X12_callTotal l D cA s (b + 2628) μ H1.size hok a1
  rw [hM] at K
  refine x_goM (fun ls h => x_runV (As := [.int a1]) [] h C ml_L_287 K ⟨rfl, rfl, nb rfl, nb rfl⟩ rfl (M_obj hw.2.1.2.2.2.2) rfl ⟨rfl, hw.2.1.2.2.2.2⟩ (nb rfl) ⟨by show _ ≤ 601024; omega, by show _ ≤ 7293034; omega⟩ dL_law_1548) hS hw.aM (fun H2 locs2 hw1 hz1 hk1 hS1 => ?_)
  replace hw := hw.modM hw1 hz1 hk1
  replace hS := hS1
  clear hw1 hk1 hz1 hS1
  refine x_istore [(6, .int q.1), (5, .int (thC (fun k => if k = 1 then 1 else 0) r)), (4, .int i), (3, .ref (b + 2636)), (2, .ref (b + 2628)), (1, .ref b), (0, .ref a)] C dL_law_1551 (by decide) rfl ?_
  refine x_aload_n C dL_law_1553 rfl ?_
  refine x_goR (fun ls h => x_runV (As := []) [] h C ml_L_209 (c_X12_thrown l D cA s (b + 2628) q.2) ⟨rfl, rfl, nb rfl, nb rfl⟩ rfl (M_obj hw.2.1.2.2.2.2) rfl hw.2.1.2.2.2.2 (nb rfl) ⟨by show _ ≤ 601024; omega, by show _ ≤ 7293034; omega⟩ dL_law_1554) ?_
  refine x_iload C dL_law_1557 rfl ?_
  refine x_icmp_eq 1564 C dL_law_1559 (by decide) (fun _ => ?_) (fun z => absurd ht.symm z)
  refine x_iload C dL_law_1564 rfl ?_
  refine x_if_ne 1581 C dL_law_1566 (by decide) (fun _ => ?_) (fun h0 => ?_)
  · refine x_goto 4068 C dL_law_1581 (by decide) ?_
    refine x_sub [(4, .int i), (3, .ref (b + 2636)), (2, .ref (b + 2628)), (1, .ref b), (0, .ref a)] [2, 3, 4, 5, 6] rfl ?_
    refine x_widen (k := cells + 200) (n := slots + 2000) (by omega) (by omega) ?_
    exact kk _ _ hw hS
  have ho := ho h0
  refine x_aload_n C dL_law_1569 rfl ?_
  refine x_iconst (0 : Int32) C dL_law_1570 rfl ?_
  refine x_lald C hw.2.2 in01 dL_law_1571 ?_
  refine x_iload C dL_law_1572 rfl ?_
  refine x_i2l C dL_law_1574 ?_
  refine x_lcmp_eq 1581 C dL_law_1575 dL_law_1576 (by decide) (fun _ => ?_) (fun z => absurd ho z)
  refine x_goto 4068 C dL_law_1581 (by decide) ?_
  refine x_sub [(4, .int i), (3, .ref (b + 2636)), (2, .ref (b + 2628)), (1, .ref b), (0, .ref a)] [2, 3, 4, 5, 6] rfl ?_
  refine x_widen (k := cells + 200) (n := slots + 2000) (by omega) (by omega) ?_
  exact kk _ _ hw hS
set_option maxRecDepth 20000 in
set_option maxHeartbeats 4000000 in
theorem cs_24 {p : Program} {l : Launch} {e : Env} {s : State} {m : MethodId} {args : Array Value} {below : List Frame} {meth : Method} {c : Code} {Q : State → Prop} {H : Heap} {locs : List Loc} {cells slots : Nat} {D : va_G} {cA : Nat → ClassId} {a b L : Nat} {xs : Nat → Int32} {i : Int32} {ν μ : Mm} {oc : Nat → Int64} (C : xC D cA s RL cL_law 8 (some .boolean) p s m args meth c) (hG : xG l D cA s) (hNc : xNc s) (hX : va_X a L xs s s.heap) (hal : a < s.heap.size) (hw : LW D cA s b ν μ oc H) (hS : va_S (xOut s) s.heap H locs) (hcs : cells + 200 ≤ 601024 ∧ slots + 2000 ≤ 7293034) (a1 : Int32) (a2 : Int32) (r1 : vp_in (i + 1) L ∧ xs (i + 1).toNatClampNeg = a1) (r2 : vp_in (i + 2) L ∧ xs (i + 2).toNatClampNeg = a2) (r : Thr Int32) (q : Int32 × Mm) (hF : g_X11_invoice ν a1 a2 = some r) (hk : ∀ k, r = .error k → k = 1 ∨ k = 2) (hok : OkR (μ.1 1)) (hM : f_X12_invoice μ a1 a2 = q) (ht : (thC (fun k => if k = 1 then 1 else if k = 2 then 2 else 0) r) = f_X12_thrown q.2) (ho : (thC (fun k => if k = 1 then 1 else if k = 2 then 2 else 0) r) = 0 → (thO (fun q => q.toInt64) oc r) 0 = q.1.toInt64) (kk : ∀ (H1 : Heap) (locs1 : List Loc), LW D cA s b (thM (fun _ => ν) ν r) q.2 (thO (fun q => q.toInt64) oc r) H1 → va_S (xOut s) s.heap H1 locs1 → xW p l e room_1 s m args below meth c 8 Q H1 locs1 (cells + 200) (slots + 2000) 4068 [(4, .int i), (3, .ref (b + 2636)), (2, .ref (b + 2628)), (1, .ref b), (0, .ref a)] []) : xW p l e room_1 s m args below meth c 8 Q H locs cells slots 1584 [(4, .int i), (3, .ref (b + 2636)), (2, .ref (b + 2628)), (1, .ref b), (0, .ref a)] [] := by
  refine x_aload_n C dL_law_1584 rfl ?_
  refine x_aload_n C dL_law_1585 rfl ?_
  refine x_iload C dL_law_1586 rfl ?_
  refine x_iconst (1 : Int32) C dL_law_1588 rfl ?_
  refine x_iadd C dL_law_1589 ?_
  refine x_sld C hX hal hS r1 dL_law_1590 ?_
  refine x_aload_n C dL_law_1591 rfl ?_
  refine x_iload C dL_law_1592 rfl ?_
  refine x_iconst (2 : Int32) C dL_law_1594 rfl ?_
  refine x_iadd C dL_law_1595 ?_
  refine x_sld C hX hal hS r2 dL_law_1596 ?_
  refine x_aload_n C dL_law_1597 rfl ?_
  refine x_goM (fun ls h => x_runH (As := [.ref b, .int a1, .int a2, .ref (b + 2636)]) [] h C (mw_L_invoice 288 mlk_288) (k_L_invoice l D cA s (b + 2637) b ν _ hG hNc (b + 2636) (by omega) (by omega) oc a1 a2 r hF hk) ⟨rfl, rfl, nb rfl, nb rfl⟩ rfl ⟨rfl, hw.1, hw.2.2⟩ (nb rfl) ⟨by show _ ≤ 601024; omega, by show _ ≤ 7293034; omega⟩ dL_law_1598) hS hw.aL (fun H1 locs1 hw1 hz1 hk1 hS1 => ?_)
  replace hw := hw.cls hw1 hk1
  replace hS := hS1
  clear hw1 hk1 hz1 hS1
  refine x_istore [(5, .int (thC (fun k => if k = 1 then 1 else if k = 2 then 2 else 0) r)), (4, .int i), (3, .ref (b + 2636)), (2, .ref (b + 2628)), (1, .ref b), (0, .ref a)] C dL_law_1601 (by decide) rfl ?_
  refine x_aload_n C dL_law_1603 rfl ?_
  refine x_aload_n C dL_law_1604 rfl ?_
  refine x_iload C dL_law_1605 rfl ?_
  refine x_iconst (1 : Int32) C dL_law_1607 rfl ?_
  refine x_iadd C dL_law_1608 ?_
  refine x_sld C hX hal hS r1 dL_law_1609 ?_
  refine x_aload_n C dL_law_1610 rfl ?_
  refine x_iload C dL_law_1611 rfl ?_
  refine x_iconst (2 : Int32) C dL_law_1613 rfl ?_
  refine x_iadd C dL_law_1614 ?_
  refine x_sld C hX hal hS r2 dL_law_1615 ?_
  have K := c_X12_invoice l D cA s (b + 2628) μ H1.size hok a1 a2
  rw [hM] at K
  refine x_goM (fun ls h => x_runV (As := [.int a1, .int a2]) [] h C ml_L_290 K ⟨rfl, rfl, nb rfl, nb rfl⟩ rfl (M_obj hw.2.1.2.2.2.2) rfl ⟨rfl, hw.2.1.2.2.2.2⟩ (nb rfl) ⟨by show _ ≤ 601024; omega, by show _ ≤ 7293034; omega⟩ dL_law_1616) hS hw.aM (fun H2 locs2 hw1 hz1 hk1 hS1 => ?_)
  replace hw := hw.modM hw1 hz1 hk1
  replace hS := hS1
  clear hw1 hk1 hz1 hS1
  refine x_istore [(6, .int q.1), (5, .int (thC (fun k => if k = 1 then 1 else if k = 2 then 2 else 0) r)), (4, .int i), (3, .ref (b + 2636)), (2, .ref (b + 2628)), (1, .ref b), (0, .ref a)] C dL_law_1619 (by decide) rfl ?_
  refine x_aload_n C dL_law_1621 rfl ?_
  refine x_goR (fun ls h => x_runV (As := []) [] h C ml_L_209 (c_X12_thrown l D cA s (b + 2628) q.2) ⟨rfl, rfl, nb rfl, nb rfl⟩ rfl (M_obj hw.2.1.2.2.2.2) rfl hw.2.1.2.2.2.2 (nb rfl) ⟨by show _ ≤ 601024; omega, by show _ ≤ 7293034; omega⟩ dL_law_1622) ?_
  refine x_iload C dL_law_1625 rfl ?_
  refine x_icmp_eq 1632 C dL_law_1627 (by decide) (fun _ => ?_) (fun z => absurd ht.symm z)
  refine x_iload C dL_law_1632 rfl ?_
  refine x_if_ne 1649 C dL_law_1634 (by decide) (fun _ => ?_) (fun h0 => ?_)
  · refine x_goto 4068 C dL_law_1649 (by decide) ?_
    refine x_sub [(4, .int i), (3, .ref (b + 2636)), (2, .ref (b + 2628)), (1, .ref b), (0, .ref a)] [2, 3, 4, 5, 6] rfl ?_
    refine x_widen (k := cells + 200) (n := slots + 2000) (by omega) (by omega) ?_
    exact kk _ _ hw hS
  have ho := ho h0
  refine x_aload_n C dL_law_1637 rfl ?_
  refine x_iconst (0 : Int32) C dL_law_1638 rfl ?_
  refine x_lald C hw.2.2 in01 dL_law_1639 ?_
  refine x_iload C dL_law_1640 rfl ?_
  refine x_i2l C dL_law_1642 ?_
  refine x_lcmp_eq 1649 C dL_law_1643 dL_law_1644 (by decide) (fun _ => ?_) (fun z => absurd ho z)
  refine x_goto 4068 C dL_law_1649 (by decide) ?_
  refine x_sub [(4, .int i), (3, .ref (b + 2636)), (2, .ref (b + 2628)), (1, .ref b), (0, .ref a)] [2, 3, 4, 5, 6] rfl ?_
  refine x_widen (k := cells + 200) (n := slots + 2000) (by omega) (by omega) ?_
  exact kk _ _ hw hS
set_option maxRecDepth 20000 in
set_option maxHeartbeats 4000000 in
theorem cs_25 {p : Program} {l : Launch} {e : Env} {s : State} {m : MethodId} {args : Array Value} {below : List Frame} {meth : Method} {c : Code} {Q : State → Prop} {H : Heap} {locs : List Loc} {cells slots : Nat} {D : va_G} {cA : Nat → ClassId} {a b L : Nat} {xs : Nat → Int32} {i : Int32} {ν μ : Mm} {oc : Nat → Int64} (C : xC D cA s RL cL_law 8 (some .boolean) p s m args meth c) (hG : xG l D cA s) (hNc : xNc s) (hX : va_X a L xs s s.heap) (hal : a < s.heap.size) (hw : LW D cA s b ν μ oc H) (hS : va_S (xOut s) s.heap H locs) (hcs : cells + 200 ≤ 601024 ∧ slots + 2000 ≤ 7293034) (a1 : Int32) (a2 : Int32) (r1 : vp_in (i + 1) L ∧ xs (i + 1).toNatClampNeg = a1) (r2 : vp_in (i + 2) L ∧ xs (i + 2).toNatClampNeg = a2) (r : Thr Int32) (q : Int32 × Mm) (hF : g_X11_line ν a1 a2 = some r) (hk : ∀ k, r = .error k → k = 1 ∨ k = 2) (hok : OkR (μ.1 1)) (hM : f_X12_line μ a1 a2 = q) (ht : (thC (fun k => if k = 1 then 1 else if k = 2 then 2 else 0) r) = f_X12_thrown q.2) (ho : (thC (fun k => if k = 1 then 1 else if k = 2 then 2 else 0) r) = 0 → (thO (fun q => q.toInt64) oc r) 0 = q.1.toInt64) (kk : ∀ (H1 : Heap) (locs1 : List Loc), LW D cA s b (thM (fun _ => ν) ν r) q.2 (thO (fun q => q.toInt64) oc r) H1 → va_S (xOut s) s.heap H1 locs1 → xW p l e room_1 s m args below meth c 8 Q H1 locs1 (cells + 200) (slots + 2000) 4068 [(4, .int i), (3, .ref (b + 2636)), (2, .ref (b + 2628)), (1, .ref b), (0, .ref a)] []) : xW p l e room_1 s m args below meth c 8 Q H locs cells slots 1652 [(4, .int i), (3, .ref (b + 2636)), (2, .ref (b + 2628)), (1, .ref b), (0, .ref a)] [] := by
  refine x_aload_n C dL_law_1652 rfl ?_
  refine x_aload_n C dL_law_1653 rfl ?_
  refine x_iload C dL_law_1654 rfl ?_
  refine x_iconst (1 : Int32) C dL_law_1656 rfl ?_
  refine x_iadd C dL_law_1657 ?_
  refine x_sld C hX hal hS r1 dL_law_1658 ?_
  refine x_aload_n C dL_law_1659 rfl ?_
  refine x_iload C dL_law_1660 rfl ?_
  refine x_iconst (2 : Int32) C dL_law_1662 rfl ?_
  refine x_iadd C dL_law_1663 ?_
  refine x_sld C hX hal hS r2 dL_law_1664 ?_
  refine x_aload_n C dL_law_1665 rfl ?_
  refine x_goM (fun ls h => x_runH (As := [.ref b, .int a1, .int a2, .ref (b + 2636)]) [] h C (mw_L_line 291 mlk_291) (k_L_line l D cA s (b + 2637) b ν _ hG hNc (b + 2636) (by omega) (by omega) oc a1 a2 r hF hk) ⟨rfl, rfl, nb rfl, nb rfl⟩ rfl ⟨rfl, hw.1, hw.2.2⟩ (nb rfl) ⟨by show _ ≤ 601024; omega, by show _ ≤ 7293034; omega⟩ dL_law_1666) hS hw.aL (fun H1 locs1 hw1 hz1 hk1 hS1 => ?_)
  replace hw := hw.cls hw1 hk1
  replace hS := hS1
  clear hw1 hk1 hz1 hS1
  refine x_istore [(5, .int (thC (fun k => if k = 1 then 1 else if k = 2 then 2 else 0) r)), (4, .int i), (3, .ref (b + 2636)), (2, .ref (b + 2628)), (1, .ref b), (0, .ref a)] C dL_law_1669 (by decide) rfl ?_
  refine x_aload_n C dL_law_1671 rfl ?_
  refine x_aload_n C dL_law_1672 rfl ?_
  refine x_iload C dL_law_1673 rfl ?_
  refine x_iconst (1 : Int32) C dL_law_1675 rfl ?_
  refine x_iadd C dL_law_1676 ?_
  refine x_sld C hX hal hS r1 dL_law_1677 ?_
  refine x_aload_n C dL_law_1678 rfl ?_
  refine x_iload C dL_law_1679 rfl ?_
  refine x_iconst (2 : Int32) C dL_law_1681 rfl ?_
  refine x_iadd C dL_law_1682 ?_
  refine x_sld C hX hal hS r2 dL_law_1683 ?_
  have K := c_X12_line l D cA s (b + 2628) μ H1.size hok a1 a2
  rw [hM] at K
  refine x_goM (fun ls h => x_runV (As := [.int a1, .int a2]) [] h C ml_L_293 K ⟨rfl, rfl, nb rfl, nb rfl⟩ rfl (M_obj hw.2.1.2.2.2.2) rfl ⟨rfl, hw.2.1.2.2.2.2⟩ (nb rfl) ⟨by show _ ≤ 601024; omega, by show _ ≤ 7293034; omega⟩ dL_law_1684) hS hw.aM (fun H2 locs2 hw1 hz1 hk1 hS1 => ?_)
  replace hw := hw.modM hw1 hz1 hk1
  replace hS := hS1
  clear hw1 hk1 hz1 hS1
  refine x_istore [(6, .int q.1), (5, .int (thC (fun k => if k = 1 then 1 else if k = 2 then 2 else 0) r)), (4, .int i), (3, .ref (b + 2636)), (2, .ref (b + 2628)), (1, .ref b), (0, .ref a)] C dL_law_1687 (by decide) rfl ?_
  refine x_aload_n C dL_law_1689 rfl ?_
  refine x_goR (fun ls h => x_runV (As := []) [] h C ml_L_209 (c_X12_thrown l D cA s (b + 2628) q.2) ⟨rfl, rfl, nb rfl, nb rfl⟩ rfl (M_obj hw.2.1.2.2.2.2) rfl hw.2.1.2.2.2.2 (nb rfl) ⟨by show _ ≤ 601024; omega, by show _ ≤ 7293034; omega⟩ dL_law_1690) ?_
  refine x_iload C dL_law_1693 rfl ?_
  refine x_icmp_eq 1700 C dL_law_1695 (by decide) (fun _ => ?_) (fun z => absurd ht.symm z)
  refine x_iload C dL_law_1700 rfl ?_
  refine x_if_ne 1717 C dL_law_1702 (by decide) (fun _ => ?_) (fun h0 => ?_)
  · refine x_goto 4068 C dL_law_1717 (by decide) ?_
    refine x_sub [(4, .int i), (3, .ref (b + 2636)), (2, .ref (b + 2628)), (1, .ref b), (0, .ref a)] [2, 3, 4, 5, 6] rfl ?_
    refine x_widen (k := cells + 200) (n := slots + 2000) (by omega) (by omega) ?_
    exact kk _ _ hw hS
  have ho := ho h0
  refine x_aload_n C dL_law_1705 rfl ?_
  refine x_iconst (0 : Int32) C dL_law_1706 rfl ?_
  refine x_lald C hw.2.2 in01 dL_law_1707 ?_
  refine x_iload C dL_law_1708 rfl ?_
  refine x_i2l C dL_law_1710 ?_
  refine x_lcmp_eq 1717 C dL_law_1711 dL_law_1712 (by decide) (fun _ => ?_) (fun z => absurd ho z)
  refine x_goto 4068 C dL_law_1717 (by decide) ?_
  refine x_sub [(4, .int i), (3, .ref (b + 2636)), (2, .ref (b + 2628)), (1, .ref b), (0, .ref a)] [2, 3, 4, 5, 6] rfl ?_
  refine x_widen (k := cells + 200) (n := slots + 2000) (by omega) (by omega) ?_
  exact kk _ _ hw hS
set_option maxRecDepth 20000 in
set_option maxHeartbeats 4000000 in
theorem cs_26 {p : Program} {l : Launch} {e : Env} {s : State} {m : MethodId} {args : Array Value} {below : List Frame} {meth : Method} {c : Code} {Q : State → Prop} {H : Heap} {locs : List Loc} {cells slots : Nat} {D : va_G} {cA : Nat → ClassId} {a b L : Nat} {xs : Nat → Int32} {i : Int32} {ν μ : Mm} {oc : Nat → Int64} (C : xC D cA s RL cL_law 8 (some .boolean) p s m args meth c) (hG : xG l D cA s) (hNc : xNc s) (hX : va_X a L xs s s.heap) (hal : a < s.heap.size) (hw : LW D cA s b ν μ oc H) (hS : va_S (xOut s) s.heap H locs) (hcs : cells + 200 ≤ 601024 ∧ slots + 2000 ≤ 7293034) (a1 : Int32) (r1 : vp_in (i + 1) L ∧ xs (i + 1).toNatClampNeg = a1) (r : Thr Int32) (q : Int32 × Mm) (hF : g_X11_net ν a1 = some r) (hk : ∀ k, r = .error k → k = 1) (hok : OkR (μ.1 1)) (hM : f_X12_net μ a1 = q) (ht : (thC (fun k => if k = 1 then 1 else 0) r) = f_X12_thrown q.2) (ho : (thC (fun k => if k = 1 then 1 else 0) r) = 0 → (thO (fun q => q.toInt64) oc r) 0 = q.1.toInt64) (kk : ∀ (H1 : Heap) (locs1 : List Loc), LW D cA s b (thM (fun _ => ν) ν r) q.2 (thO (fun q => q.toInt64) oc r) H1 → va_S (xOut s) s.heap H1 locs1 → xW p l e room_1 s m args below meth c 8 Q H1 locs1 (cells + 200) (slots + 2000) 4068 [(4, .int i), (3, .ref (b + 2636)), (2, .ref (b + 2628)), (1, .ref b), (0, .ref a)] []) : xW p l e room_1 s m args below meth c 8 Q H locs cells slots 1720 [(4, .int i), (3, .ref (b + 2636)), (2, .ref (b + 2628)), (1, .ref b), (0, .ref a)] [] := by
  refine x_aload_n C dL_law_1720 rfl ?_
  refine x_aload_n C dL_law_1721 rfl ?_
  refine x_iload C dL_law_1722 rfl ?_
  refine x_iconst (1 : Int32) C dL_law_1724 rfl ?_
  refine x_iadd C dL_law_1725 ?_
  refine x_sld C hX hal hS r1 dL_law_1726 ?_
  refine x_aload_n C dL_law_1727 rfl ?_
  refine x_goM (fun ls h => x_runH (As := [.ref b, .int a1, .ref (b + 2636)]) [] h C (mw_L_net 294 mlk_294) (k_L_net l D cA s (b + 2637) b ν _ hG hNc (b + 2636) (by omega) (by omega) oc a1 r hF hk) ⟨rfl, rfl, nb rfl, nb rfl⟩ rfl ⟨rfl, hw.1, hw.2.2⟩ (nb rfl) ⟨by show _ ≤ 601024; omega, by show _ ≤ 7293034; omega⟩ dL_law_1728) hS hw.aL (fun H1 locs1 hw1 hz1 hk1 hS1 => ?_)
  replace hw := hw.cls hw1 hk1
  replace hS := hS1
  clear hw1 hk1 hz1 hS1
  refine x_istore [(5, .int (thC (fun k => if k = 1 then 1 else 0) r)), (4, .int i), (3, .ref (b + 2636)), (2, .ref (b + 2628)), (1, .ref b), (0, .ref a)] C dL_law_1731 (by decide) rfl ?_
  refine x_aload_n C dL_law_1733 rfl ?_
  refine x_aload_n C dL_law_1734 rfl ?_
  refine x_iload C dL_law_1735 rfl ?_
  refine x_iconst (1 : Int32) C dL_law_1737 rfl ?_
  refine x_iadd C dL_law_1738 ?_
  refine x_sld C hX hal hS r1 dL_law_1739 ?_
  have K := c_X12_net l D cA s (b + 2628) μ H1.size hok a1
  rw [hM] at K
  refine x_goM (fun ls h => x_runV (As := [.int a1]) [] h C ml_L_296 K ⟨rfl, rfl, nb rfl, nb rfl⟩ rfl (M_obj hw.2.1.2.2.2.2) rfl ⟨rfl, hw.2.1.2.2.2.2⟩ (nb rfl) ⟨by show _ ≤ 601024; omega, by show _ ≤ 7293034; omega⟩ dL_law_1740) hS hw.aM (fun H2 locs2 hw1 hz1 hk1 hS1 => ?_)
  replace hw := hw.modM hw1 hz1 hk1
  replace hS := hS1
  clear hw1 hk1 hz1 hS1
  refine x_istore [(6, .int q.1), (5, .int (thC (fun k => if k = 1 then 1 else 0) r)), (4, .int i), (3, .ref (b + 2636)), (2, .ref (b + 2628)), (1, .ref b), (0, .ref a)] C dL_law_1743 (by decide) rfl ?_
  refine x_aload_n C dL_law_1745 rfl ?_
  refine x_goR (fun ls h => x_runV (As := []) [] h C ml_L_209 (c_X12_thrown l D cA s (b + 2628) q.2) ⟨rfl, rfl, nb rfl, nb rfl⟩ rfl (M_obj hw.2.1.2.2.2.2) rfl hw.2.1.2.2.2.2 (nb rfl) ⟨by show _ ≤ 601024; omega, by show _ ≤ 7293034; omega⟩ dL_law_1746) ?_
  refine x_iload C dL_law_1749 rfl ?_
  refine x_icmp_eq 1756 C dL_law_1751 (by decide) (fun _ => ?_) (fun z => absurd ht.symm z)
  refine x_iload C dL_law_1756 rfl ?_
  refine x_if_ne 1773 C dL_law_1758 (by decide) (fun _ => ?_) (fun h0 => ?_)
  · refine x_goto 4068 C dL_law_1773 (by decide) ?_
    refine x_sub [(4, .int i), (3, .ref (b + 2636)), (2, .ref (b + 2628)), (1, .ref b), (0, .ref a)] [2, 3, 4, 5, 6] rfl ?_
    refine x_widen (k := cells + 200) (n := slots + 2000) (by omega) (by omega) ?_
    exact kk _ _ hw hS
  have ho := ho h0
  refine x_aload_n C dL_law_1761 rfl ?_
  refine x_iconst (0 : Int32) C dL_law_1762 rfl ?_
  refine x_lald C hw.2.2 in01 dL_law_1763 ?_
  refine x_iload C dL_law_1764 rfl ?_
  refine x_i2l C dL_law_1766 ?_
  refine x_lcmp_eq 1773 C dL_law_1767 dL_law_1768 (by decide) (fun _ => ?_) (fun z => absurd ho z)
  refine x_goto 4068 C dL_law_1773 (by decide) ?_
  refine x_sub [(4, .int i), (3, .ref (b + 2636)), (2, .ref (b + 2628)), (1, .ref b), (0, .ref a)] [2, 3, 4, 5, 6] rfl ?_
  refine x_widen (k := cells + 200) (n := slots + 2000) (by omega) (by omega) ?_
  exact kk _ _ hw hS
set_option maxRecDepth 20000 in
set_option maxHeartbeats 4000000 in
theorem cs_27 {p : Program} {l : Launch} {e : Env} {s : State} {m : MethodId} {args : Array Value} {below : List Frame} {meth : Method} {c : Code} {Q : State → Prop} {H : Heap} {locs : List Loc} {cells slots : Nat} {D : va_G} {cA : Nat → ClassId} {a b L : Nat} {xs : Nat → Int32} {i : Int32} {ν μ : Mm} {oc : Nat → Int64} (C : xC D cA s RL cL_law 8 (some .boolean) p s m args meth c) (hG : xG l D cA s) (hNc : xNc s) (hX : va_X a L xs s s.heap) (hal : a < s.heap.size) (hw : LW D cA s b ν μ oc H) (hS : va_S (xOut s) s.heap H locs) (hcs : cells + 200 ≤ 601024 ∧ slots + 2000 ≤ 7293034) (a1 : Int32) (r1 : vp_in (i + 1) L ∧ xs (i + 1).toNatClampNeg = a1) (r : Thr Int32) (q : Int32 × Mm) (hF : g_X11_open ν a1 = some r) (hk : ∀ k, r = .error k → k = 1) (hok : OkR (μ.1 1)) (hM : f_X12_open μ a1 = q) (ht : (thC (fun k => if k = 1 then 1 else 0) r) = f_X12_thrown q.2) (ho : (thC (fun k => if k = 1 then 1 else 0) r) = 0 → (thO (fun q => q.toInt64) oc r) 0 = q.1.toInt64) (kk : ∀ (H1 : Heap) (locs1 : List Loc), LW D cA s b (thM (fun _ => ν) ν r) q.2 (thO (fun q => q.toInt64) oc r) H1 → va_S (xOut s) s.heap H1 locs1 → xW p l e room_1 s m args below meth c 8 Q H1 locs1 (cells + 200) (slots + 2000) 4068 [(4, .int i), (3, .ref (b + 2636)), (2, .ref (b + 2628)), (1, .ref b), (0, .ref a)] []) : xW p l e room_1 s m args below meth c 8 Q H locs cells slots 1776 [(4, .int i), (3, .ref (b + 2636)), (2, .ref (b + 2628)), (1, .ref b), (0, .ref a)] [] := by
  refine x_aload_n C dL_law_1776 rfl ?_
  refine x_aload_n C dL_law_1777 rfl ?_
  refine x_iload C dL_law_1778 rfl ?_
  refine x_iconst (1 : Int32) C dL_law_1780 rfl ?_
  refine x_iadd C dL_law_1781 ?_
  refine x_sld C hX hal hS r1 dL_law_1782 ?_
  refine x_aload_n C dL_law_1783 rfl ?_
  refine x_goM (fun ls h => x_runH (As := [.ref b, .int a1, .ref (b + 2636)]) [] h C (mw_L_open 297 mlk_297) (k_L_open l D cA s (b + 2637) b ν _ hG hNc (b + 2636) (by omega) (by omega) oc a1 r hF hk) ⟨rfl, rfl, nb rfl, nb rfl⟩ rfl ⟨rfl, hw.1, hw.2.2⟩ (nb rfl) ⟨by show _ ≤ 601024; omega, by show _ ≤ 7293034; omega⟩ dL_law_1784) hS hw.aL (fun H1 locs1 hw1 hz1 hk1 hS1 => ?_)
  replace hw := hw.cls hw1 hk1
  replace hS := hS1
  clear hw1 hk1 hz1 hS1
  refine x_istore [(5, .int (thC (fun k => if k = 1 then 1 else 0) r)), (4, .int i), (3, .ref (b + 2636)), (2, .ref (b + 2628)), (1, .ref b), (0, .ref a)] C dL_law_1787 (by decide) rfl ?_
  refine x_aload_n C dL_law_1789 rfl ?_
  refine x_aload_n C dL_law_1790 rfl ?_
  refine x_iload C dL_law_1791 rfl ?_
  refine x_iconst (1 : Int32) C dL_law_1793 rfl ?_
  refine x_iadd C dL_law_1794 ?_
  refine x_sld C hX hal hS r1 dL_law_1795 ?_
  have K := c_X12_open l D cA s (b + 2628) μ H1.size hok a1
  rw [hM] at K
  refine x_goM (fun ls h => x_runV (As := [.int a1]) [] h C ml_L_299 K ⟨rfl, rfl, nb rfl, nb rfl⟩ rfl (M_obj hw.2.1.2.2.2.2) rfl ⟨rfl, hw.2.1.2.2.2.2⟩ (nb rfl) ⟨by show _ ≤ 601024; omega, by show _ ≤ 7293034; omega⟩ dL_law_1796) hS hw.aM (fun H2 locs2 hw1 hz1 hk1 hS1 => ?_)
  replace hw := hw.modM hw1 hz1 hk1
  replace hS := hS1
  clear hw1 hk1 hz1 hS1
  refine x_istore [(6, .int q.1), (5, .int (thC (fun k => if k = 1 then 1 else 0) r)), (4, .int i), (3, .ref (b + 2636)), (2, .ref (b + 2628)), (1, .ref b), (0, .ref a)] C dL_law_1799 (by decide) rfl ?_
  refine x_aload_n C dL_law_1801 rfl ?_
  refine x_goR (fun ls h => x_runV (As := []) [] h C ml_L_209 (c_X12_thrown l D cA s (b + 2628) q.2) ⟨rfl, rfl, nb rfl, nb rfl⟩ rfl (M_obj hw.2.1.2.2.2.2) rfl hw.2.1.2.2.2.2 (nb rfl) ⟨by show _ ≤ 601024; omega, by show _ ≤ 7293034; omega⟩ dL_law_1802) ?_
  refine x_iload C dL_law_1805 rfl ?_
  refine x_icmp_eq 1812 C dL_law_1807 (by decide) (fun _ => ?_) (fun z => absurd ht.symm z)
  refine x_iload C dL_law_1812 rfl ?_
  refine x_if_ne 1829 C dL_law_1814 (by decide) (fun _ => ?_) (fun h0 => ?_)
  · refine x_goto 4068 C dL_law_1829 (by decide) ?_
    refine x_sub [(4, .int i), (3, .ref (b + 2636)), (2, .ref (b + 2628)), (1, .ref b), (0, .ref a)] [2, 3, 4, 5, 6] rfl ?_
    refine x_widen (k := cells + 200) (n := slots + 2000) (by omega) (by omega) ?_
    exact kk _ _ hw hS
  have ho := ho h0
  refine x_aload_n C dL_law_1817 rfl ?_
  refine x_iconst (0 : Int32) C dL_law_1818 rfl ?_
  refine x_lald C hw.2.2 in01 dL_law_1819 ?_
  refine x_iload C dL_law_1820 rfl ?_
  refine x_i2l C dL_law_1822 ?_
  refine x_lcmp_eq 1829 C dL_law_1823 dL_law_1824 (by decide) (fun _ => ?_) (fun z => absurd ho z)
  refine x_goto 4068 C dL_law_1829 (by decide) ?_
  refine x_sub [(4, .int i), (3, .ref (b + 2636)), (2, .ref (b + 2628)), (1, .ref b), (0, .ref a)] [2, 3, 4, 5, 6] rfl ?_
  refine x_widen (k := cells + 200) (n := slots + 2000) (by omega) (by omega) ?_
  exact kk _ _ hw hS
set_option maxRecDepth 20000 in
set_option maxHeartbeats 4000000 in
theorem cs_28 {p : Program} {l : Launch} {e : Env} {s : State} {m : MethodId} {args : Array Value} {below : List Frame} {meth : Method} {c : Code} {Q : State → Prop} {H : Heap} {locs : List Loc} {cells slots : Nat} {D : va_G} {cA : Nat → ClassId} {a b L : Nat} {xs : Nat → Int32} {i : Int32} {ν μ : Mm} {oc : Nat → Int64} (C : xC D cA s RL cL_law 8 (some .boolean) p s m args meth c) (hG : xG l D cA s) (hNc : xNc s) (hX : va_X a L xs s s.heap) (hal : a < s.heap.size) (hw : LW D cA s b ν μ oc H) (hS : va_S (xOut s) s.heap H locs) (hcs : cells + 200 ≤ 601024 ∧ slots + 2000 ≤ 7293034) (a1 : Int32) (a2 : Int32) (r1 : vp_in (i + 1) L ∧ xs (i + 1).toNatClampNeg = a1) (r2 : vp_in (i + 2) L ∧ xs (i + 2).toNatClampNeg = a2) (r : Thr Int32) (q : Int32 × Mm) (hF : g_X11_rebuilt ν a1 a2 = some r) (hk : ∀ k, r = .error k → k = 1 ∨ k = 2) (hok : OkR (μ.1 1)) (hM : f_X12_rebuilt μ a1 a2 = q) (ht : (thC (fun k => if k = 1 then 1 else if k = 2 then 2 else 0) r) = f_X12_thrown q.2) (ho : (thC (fun k => if k = 1 then 1 else if k = 2 then 2 else 0) r) = 0 → (thO (fun q => q.toInt64) oc r) 0 = q.1.toInt64) (kk : ∀ (H1 : Heap) (locs1 : List Loc), LW D cA s b (thM (fun _ => ν) ν r) q.2 (thO (fun q => q.toInt64) oc r) H1 → va_S (xOut s) s.heap H1 locs1 → xW p l e room_1 s m args below meth c 8 Q H1 locs1 (cells + 200) (slots + 2000) 4068 [(4, .int i), (3, .ref (b + 2636)), (2, .ref (b + 2628)), (1, .ref b), (0, .ref a)] []) : xW p l e room_1 s m args below meth c 8 Q H locs cells slots 1832 [(4, .int i), (3, .ref (b + 2636)), (2, .ref (b + 2628)), (1, .ref b), (0, .ref a)] [] := by
  refine x_aload_n C dL_law_1832 rfl ?_
  refine x_aload_n C dL_law_1833 rfl ?_
  refine x_iload C dL_law_1834 rfl ?_
  refine x_iconst (1 : Int32) C dL_law_1836 rfl ?_
  refine x_iadd C dL_law_1837 ?_
  refine x_sld C hX hal hS r1 dL_law_1838 ?_
  refine x_aload_n C dL_law_1839 rfl ?_
  refine x_iload C dL_law_1840 rfl ?_
  refine x_iconst (2 : Int32) C dL_law_1842 rfl ?_
  refine x_iadd C dL_law_1843 ?_
  refine x_sld C hX hal hS r2 dL_law_1844 ?_
  refine x_aload_n C dL_law_1845 rfl ?_
  refine x_goM (fun ls h => x_runH (As := [.ref b, .int a1, .int a2, .ref (b + 2636)]) [] h C (mw_L_rebuilt 300 mlk_300) (k_L_rebuilt l D cA s (b + 2637) b ν _ hG hNc (b + 2636) (by omega) (by omega) oc a1 a2 r hF hk) ⟨rfl, rfl, nb rfl, nb rfl⟩ rfl ⟨rfl, hw.1, hw.2.2⟩ (nb rfl) ⟨by show _ ≤ 601024; omega, by show _ ≤ 7293034; omega⟩ dL_law_1846) hS hw.aL (fun H1 locs1 hw1 hz1 hk1 hS1 => ?_)
  replace hw := hw.cls hw1 hk1
  replace hS := hS1
  clear hw1 hk1 hz1 hS1
  refine x_istore [(5, .int (thC (fun k => if k = 1 then 1 else if k = 2 then 2 else 0) r)), (4, .int i), (3, .ref (b + 2636)), (2, .ref (b + 2628)), (1, .ref b), (0, .ref a)] C dL_law_1849 (by decide) rfl ?_
  refine x_aload_n C dL_law_1851 rfl ?_
  refine x_aload_n C dL_law_1852 rfl ?_
  refine x_iload C dL_law_1853 rfl ?_
  refine x_iconst (1 : Int32) C dL_law_1855 rfl ?_
  refine x_iadd C dL_law_1856 ?_
  refine x_sld C hX hal hS r1 dL_law_1857 ?_
  refine x_aload_n C dL_law_1858 rfl ?_
  refine x_iload C dL_law_1859 rfl ?_
  refine x_iconst (2 : Int32) C dL_law_1861 rfl ?_
  refine x_iadd C dL_law_1862 ?_
  refine x_sld C hX hal hS r2 dL_law_1863 ?_
  have K := c_X12_rebuilt l D cA s (b + 2628) μ H1.size hok a1 a2
  rw [hM] at K
  refine x_goM (fun ls h => x_runV (As := [.int a1, .int a2]) [] h C ml_L_302 K ⟨rfl, rfl, nb rfl, nb rfl⟩ rfl (M_obj hw.2.1.2.2.2.2) rfl ⟨rfl, hw.2.1.2.2.2.2⟩ (nb rfl) ⟨by show _ ≤ 601024; omega, by show _ ≤ 7293034; omega⟩ dL_law_1864) hS hw.aM (fun H2 locs2 hw1 hz1 hk1 hS1 => ?_)
  replace hw := hw.modM hw1 hz1 hk1
  replace hS := hS1
  clear hw1 hk1 hz1 hS1
  refine x_istore [(6, .int q.1), (5, .int (thC (fun k => if k = 1 then 1 else if k = 2 then 2 else 0) r)), (4, .int i), (3, .ref (b + 2636)), (2, .ref (b + 2628)), (1, .ref b), (0, .ref a)] C dL_law_1867 (by decide) rfl ?_
  refine x_aload_n C dL_law_1869 rfl ?_
  refine x_goR (fun ls h => x_runV (As := []) [] h C ml_L_209 (c_X12_thrown l D cA s (b + 2628) q.2) ⟨rfl, rfl, nb rfl, nb rfl⟩ rfl (M_obj hw.2.1.2.2.2.2) rfl hw.2.1.2.2.2.2 (nb rfl) ⟨by show _ ≤ 601024; omega, by show _ ≤ 7293034; omega⟩ dL_law_1870) ?_
  refine x_iload C dL_law_1873 rfl ?_
  refine x_icmp_eq 1880 C dL_law_1875 (by decide) (fun _ => ?_) (fun z => absurd ht.symm z)
  refine x_iload C dL_law_1880 rfl ?_
  refine x_if_ne 1897 C dL_law_1882 (by decide) (fun _ => ?_) (fun h0 => ?_)
  · refine x_goto 4068 C dL_law_1897 (by decide) ?_
    refine x_sub [(4, .int i), (3, .ref (b + 2636)), (2, .ref (b + 2628)), (1, .ref b), (0, .ref a)] [2, 3, 4, 5, 6] rfl ?_
    refine x_widen (k := cells + 200) (n := slots + 2000) (by omega) (by omega) ?_
    exact kk _ _ hw hS
  have ho := ho h0
  refine x_aload_n C dL_law_1885 rfl ?_
  refine x_iconst (0 : Int32) C dL_law_1886 rfl ?_
  refine x_lald C hw.2.2 in01 dL_law_1887 ?_
  refine x_iload C dL_law_1888 rfl ?_
  refine x_i2l C dL_law_1890 ?_
  refine x_lcmp_eq 1897 C dL_law_1891 dL_law_1892 (by decide) (fun _ => ?_) (fun z => absurd ho z)
  refine x_goto 4068 C dL_law_1897 (by decide) ?_
  refine x_sub [(4, .int i), (3, .ref (b + 2636)), (2, .ref (b + 2628)), (1, .ref b), (0, .ref a)] [2, 3, 4, 5, 6] rfl ?_
  refine x_widen (k := cells + 200) (n := slots + 2000) (by omega) (by omega) ?_
  exact kk _ _ hw hS
set_option maxRecDepth 20000 in
set_option maxHeartbeats 4000000 in
theorem cs_29 {p : Program} {l : Launch} {e : Env} {s : State} {m : MethodId} {args : Array Value} {below : List Frame} {meth : Method} {c : Code} {Q : State → Prop} {H : Heap} {locs : List Loc} {cells slots : Nat} {D : va_G} {cA : Nat → ClassId} {a b L : Nat} {xs : Nat → Int32} {i : Int32} {ν μ : Mm} {oc : Nat → Int64} (C : xC D cA s RL cL_law 8 (some .boolean) p s m args meth c) (hG : xG l D cA s) (hNc : xNc s) (hX : va_X a L xs s s.heap) (hal : a < s.heap.size) (hw : LW D cA s b ν μ oc H) (hS : va_S (xOut s) s.heap H locs) (hcs : cells + 200 ≤ 601024 ∧ slots + 2000 ≤ 7293034) (a1 : Int32) (r1 : vp_in (i + 1) L ∧ xs (i + 1).toNatClampNeg = a1) (r : Thr Bool) (q : Bool × Mm) (hF : g_X11_isStale ν a1 = some r) (hk : ∀ k, r = .error k → k = 1) (hok : OkR (μ.1 1)) (hM : f_X12_isStale μ a1 = q) (ht : (thC (fun k => if k = 1 then 1 else 0) r) = f_X12_thrown q.2) (ho : (thC (fun k => if k = 1 then 1 else 0) r) = 0 → (thO (fun q => (if q = true then (1 : Int64) else (0 : Int64))) oc r) 0 = (if q.1 = true then (1 : Int64) else 0)) (kk : ∀ (H1 : Heap) (locs1 : List Loc), LW D cA s b (thM (fun _ => ν) ν r) q.2 (thO (fun q => (if q = true then (1 : Int64) else (0 : Int64))) oc r) H1 → va_S (xOut s) s.heap H1 locs1 → xW p l e room_1 s m args below meth c 8 Q H1 locs1 (cells + 200) (slots + 2000) 4068 [(4, .int i), (3, .ref (b + 2636)), (2, .ref (b + 2628)), (1, .ref b), (0, .ref a)] []) : xW p l e room_1 s m args below meth c 8 Q H locs cells slots 1900 [(4, .int i), (3, .ref (b + 2636)), (2, .ref (b + 2628)), (1, .ref b), (0, .ref a)] [] := by
  refine x_aload_n C dL_law_1900 rfl ?_
  refine x_aload_n C dL_law_1901 rfl ?_
  refine x_iload C dL_law_1902 rfl ?_
  refine x_iconst (1 : Int32) C dL_law_1904 rfl ?_
  refine x_iadd C dL_law_1905 ?_
  refine x_sld C hX hal hS r1 dL_law_1906 ?_
  refine x_aload_n C dL_law_1907 rfl ?_
  refine x_goM (fun ls h => x_runH (As := [.ref b, .int a1, .ref (b + 2636)]) [] h C (mw_L_isStale 303 mlk_303) (k_L_isStale l D cA s (b + 2637) b ν _ hG hNc (b + 2636) (by omega) (by omega) oc a1 r hF hk) ⟨rfl, rfl, nb rfl, nb rfl⟩ rfl ⟨rfl, hw.1, hw.2.2⟩ (nb rfl) ⟨by show _ ≤ 601024; omega, by show _ ≤ 7293034; omega⟩ dL_law_1908) hS hw.aL (fun H1 locs1 hw1 hz1 hk1 hS1 => ?_)
  replace hw := hw.cls hw1 hk1
  replace hS := hS1
  clear hw1 hk1 hz1 hS1
  refine x_istore [(5, .int (thC (fun k => if k = 1 then 1 else 0) r)), (4, .int i), (3, .ref (b + 2636)), (2, .ref (b + 2628)), (1, .ref b), (0, .ref a)] C dL_law_1911 (by decide) rfl ?_
  refine x_aload_n C dL_law_1913 rfl ?_
  refine x_aload_n C dL_law_1914 rfl ?_
  refine x_iload C dL_law_1915 rfl ?_
  refine x_iconst (1 : Int32) C dL_law_1917 rfl ?_
  refine x_iadd C dL_law_1918 ?_
  refine x_sld C hX hal hS r1 dL_law_1919 ?_
  have K := c_X12_isStale l D cA s (b + 2628) μ H1.size hok a1
  rw [hM] at K
  refine x_goM (fun ls h => x_runV (As := [.int a1]) [] h C ml_L_305 K ⟨rfl, rfl, nb rfl, nb rfl⟩ rfl (M_obj hw.2.1.2.2.2.2) rfl ⟨rfl, hw.2.1.2.2.2.2⟩ (nb rfl) ⟨by show _ ≤ 601024; omega, by show _ ≤ 7293034; omega⟩ dL_law_1920) hS hw.aM (fun H2 locs2 hw1 hz1 hk1 hS1 => ?_)
  replace hw := hw.modM hw1 hz1 hk1
  replace hS := hS1
  clear hw1 hk1 hz1 hS1
  refine x_istore [(6, .int (bI q.1)), (5, .int (thC (fun k => if k = 1 then 1 else 0) r)), (4, .int i), (3, .ref (b + 2636)), (2, .ref (b + 2628)), (1, .ref b), (0, .ref a)] C dL_law_1923 (by decide) rfl ?_
  refine x_aload_n C dL_law_1925 rfl ?_
  refine x_goR (fun ls h => x_runV (As := []) [] h C ml_L_209 (c_X12_thrown l D cA s (b + 2628) q.2) ⟨rfl, rfl, nb rfl, nb rfl⟩ rfl (M_obj hw.2.1.2.2.2.2) rfl hw.2.1.2.2.2.2 (nb rfl) ⟨by show _ ≤ 601024; omega, by show _ ≤ 7293034; omega⟩ dL_law_1926) ?_
  refine x_iload C dL_law_1929 rfl ?_
  refine x_icmp_eq 1936 C dL_law_1931 (by decide) (fun _ => ?_) (fun z => absurd ht.symm z)
  refine x_iload C dL_law_1936 rfl ?_
  refine x_if_ne 1960 C dL_law_1938 (by decide) (fun _ => ?_) (fun h0 => ?_)
  · refine x_goto 4068 C dL_law_1960 (by decide) ?_
    refine x_sub [(4, .int i), (3, .ref (b + 2636)), (2, .ref (b + 2628)), (1, .ref b), (0, .ref a)] [2, 3, 4, 5, 6] rfl ?_
    refine x_widen (k := cells + 200) (n := slots + 2000) (by omega) (by omega) ?_
    exact kk _ _ hw hS
  have ho := ho h0
  refine x_aload_n C dL_law_1941 rfl ?_
  refine x_iconst (0 : Int32) C dL_law_1942 rfl ?_
  refine x_lald C hw.2.2 in01 dL_law_1943 ?_
  refine x_iload C dL_law_1944 rfl ?_
  refine x_ifB_eq 1953 C dL_law_1946 (by decide) (fun cb => ?_) (fun cb => ?_)
  · rw [if_neg (nbt cb)] at ho
    refine x_lconst (0 : Int64) C dL_law_1953 rfl ?_
    refine x_lcmp_eq 1960 C dL_law_1954 dL_law_1955 (by decide) (fun _ => ?_) (fun z => absurd ho z)
    refine x_goto 4068 C dL_law_1960 (by decide) ?_
    refine x_sub [(4, .int i), (3, .ref (b + 2636)), (2, .ref (b + 2628)), (1, .ref b), (0, .ref a)] [2, 3, 4, 5, 6] rfl ?_
    refine x_widen (k := cells + 200) (n := slots + 2000) (by omega) (by omega) ?_
    exact kk _ _ hw hS
  · rw [if_pos cb] at ho
    refine x_lconst (1 : Int64) C dL_law_1949 rfl ?_
    refine x_goto 1954 C dL_law_1950 (by decide) ?_
    refine x_lcmp_eq 1960 C dL_law_1954 dL_law_1955 (by decide) (fun _ => ?_) (fun z => absurd ho z)
    refine x_goto 4068 C dL_law_1960 (by decide) ?_
    refine x_sub [(4, .int i), (3, .ref (b + 2636)), (2, .ref (b + 2628)), (1, .ref b), (0, .ref a)] [2, 3, 4, 5, 6] rfl ?_
    refine x_widen (k := cells + 200) (n := slots + 2000) (by omega) (by omega) ?_
    exact kk _ _ hw hS
set_option maxRecDepth 20000 in
set_option maxHeartbeats 4000000 in
theorem cs_30 {p : Program} {l : Launch} {e : Env} {s : State} {m : MethodId} {args : Array Value} {below : List Frame} {meth : Method} {c : Code} {Q : State → Prop} {H : Heap} {locs : List Loc} {cells slots : Nat} {D : va_G} {cA : Nat → ClassId} {a b L : Nat} {xs : Nat → Int32} {i : Int32} {ν μ : Mm} {oc : Nat → Int64} (C : xC D cA s RL cL_law 8 (some .boolean) p s m args meth c) (hG : xG l D cA s) (hNc : xNc s) (hX : va_X a L xs s s.heap) (hal : a < s.heap.size) (hw : LW D cA s b ν μ oc H) (hS : va_S (xOut s) s.heap H locs) (hcs : cells + 200 ≤ 601024 ∧ slots + 2000 ≤ 7293034)   (r : Int32) (q : Int32 × Mm) (hF : g_X11_staleCount ν = some r) (hok : OkR (μ.1 1)) (hM : f_X12_staleCount μ = q) (hx : r = q.1) (kk : ∀ (H1 : Heap) (locs1 : List Loc), LW D cA s b ν q.2 oc H1 → va_S (xOut s) s.heap H1 locs1 → xW p l e room_1 s m args below meth c 8 Q H1 locs1 (cells + 200) (slots + 2000) 4068 [(4, .int i), (3, .ref (b + 2636)), (2, .ref (b + 2628)), (1, .ref b), (0, .ref a)] []) : xW p l e room_1 s m args below meth c 8 Q H locs cells slots 1963 [(4, .int i), (3, .ref (b + 2636)), (2, .ref (b + 2628)), (1, .ref b), (0, .ref a)] [] := by
  refine x_aload_n C dL_law_1963 rfl ?_
  refine x_goR (fun ls h => x_runV (As := []) [] h C ml_L_306 (k_X11_staleCount l D cA s (b + 2637) b ν hG r hF) ⟨rfl, rfl, nb rfl, nb rfl⟩ rfl (C_PD hw.1) rfl hw.1 (nb rfl) ⟨by show _ ≤ 601024; omega, by show _ ≤ 7293034; omega⟩ dL_law_1964) ?_
  refine x_aload_n C dL_law_1967 rfl ?_
  have K := c_X12_staleCount l D cA s (b + 2628) μ H.size hok
  rw [hM] at K
  refine x_goM (fun ls h => x_runV (As := []) [.int r] h C ml_L_309 K ⟨rfl, rfl, nb rfl, nb rfl⟩ rfl (M_obj hw.2.1.2.2.2.2) rfl ⟨rfl, hw.2.1.2.2.2.2⟩ (nb rfl) ⟨by show _ ≤ 601024; omega, by show _ ≤ 7293034; omega⟩ dL_law_1968) hS hw.aM (fun H2 locs2 hw1 hz1 hk1 hS1 => ?_)
  replace hw := hw.modM hw1 hz1 hk1
  replace hS := hS1
  clear hw1 hk1 hz1 hS1
  refine x_icmp_eq 4068 C dL_law_1971 (by decide) (fun _ => ?_) (fun z => absurd hx z)
  refine x_widen (k := cells + 200) (n := slots + 2000) (by omega) (by omega) ?_
  exact kk _ _ hw hS
set_option maxRecDepth 20000 in
set_option maxHeartbeats 4000000 in
theorem cs_31 {p : Program} {l : Launch} {e : Env} {s : State} {m : MethodId} {args : Array Value} {below : List Frame} {meth : Method} {c : Code} {Q : State → Prop} {H : Heap} {locs : List Loc} {cells slots : Nat} {D : va_G} {cA : Nat → ClassId} {a b L : Nat} {xs : Nat → Int32} {i : Int32} {ν μ : Mm} {oc : Nat → Int64} (C : xC D cA s RL cL_law 8 (some .boolean) p s m args meth c) (hG : xG l D cA s) (hNc : xNc s) (hX : va_X a L xs s s.heap) (hal : a < s.heap.size) (hw : LW D cA s b ν μ oc H) (hS : va_S (xOut s) s.heap H locs) (hcs : cells + 200 ≤ 601024 ∧ slots + 2000 ≤ 7293034) (a1 : Int32) (r1 : vp_in (i + 1) L ∧ xs (i + 1).toNatClampNeg = a1) (r : Thr Int32) (q : Int32 × Mm) (hF : g_X11_contested ν a1 = some r) (hk : ∀ k, r = .error k → k = 1) (hok : OkR (μ.1 1)) (hM : f_X12_contested μ a1 = q) (ht : (thC (fun k => if k = 1 then 1 else 0) r) = f_X12_thrown q.2) (ho : (thC (fun k => if k = 1 then 1 else 0) r) = 0 → (thO (fun q => q.toInt64) oc r) 0 = q.1.toInt64) (kk : ∀ (H1 : Heap) (locs1 : List Loc), LW D cA s b (thM (fun _ => ν) ν r) q.2 (thO (fun q => q.toInt64) oc r) H1 → va_S (xOut s) s.heap H1 locs1 → xW p l e room_1 s m args below meth c 8 Q H1 locs1 (cells + 200) (slots + 2000) 4068 [(4, .int i), (3, .ref (b + 2636)), (2, .ref (b + 2628)), (1, .ref b), (0, .ref a)] []) : xW p l e room_1 s m args below meth c 8 Q H locs cells slots 1976 [(4, .int i), (3, .ref (b + 2636)), (2, .ref (b + 2628)), (1, .ref b), (0, .ref a)] [] := by
  refine x_aload_n C dL_law_1976 rfl ?_
  refine x_aload_n C dL_law_1977 rfl ?_
  refine x_iload C dL_law_1978 rfl ?_
  refine x_iconst (1 : Int32) C dL_law_1980 rfl ?_
  refine x_iadd C dL_law_1981 ?_
  refine x_sld C hX hal hS r1 dL_law_1982 ?_
  refine x_aload_n C dL_law_1983 rfl ?_
  refine x_goM (fun ls h => x_runH (As := [.ref b, .int a1, .ref (b + 2636)]) [] h C (mw_L_contested 310 mlk_310) (k_L_contested l D cA s (b + 2637) b ν _ hG hNc (b + 2636) (by omega) (by omega) oc a1 r hF hk) ⟨rfl, rfl, nb rfl, nb rfl⟩ rfl ⟨rfl, hw.1, hw.2.2⟩ (nb rfl) ⟨by show _ ≤ 601024; omega, by show _ ≤ 7293034; omega⟩ dL_law_1984) hS hw.aL (fun H1 locs1 hw1 hz1 hk1 hS1 => ?_)
  replace hw := hw.cls hw1 hk1
  replace hS := hS1
  clear hw1 hk1 hz1 hS1
  refine x_istore [(5, .int (thC (fun k => if k = 1 then 1 else 0) r)), (4, .int i), (3, .ref (b + 2636)), (2, .ref (b + 2628)), (1, .ref b), (0, .ref a)] C dL_law_1987 (by decide) rfl ?_
  refine x_aload_n C dL_law_1989 rfl ?_
  refine x_aload_n C dL_law_1990 rfl ?_
  refine x_iload C dL_law_1991 rfl ?_
  refine x_iconst (1 : Int32) C dL_law_1993 rfl ?_
  refine x_iadd C dL_law_1994 ?_
  refine x_sld C hX hal hS r1 dL_law_1995 ?_
  have K := c_X12_contested l D cA s (b + 2628) μ H1.size hok a1
  rw [hM] at K
  refine x_goM (fun ls h => x_runV (As := [.int a1]) [] h C ml_L_312 K ⟨rfl, rfl, nb rfl, nb rfl⟩ rfl (M_obj hw.2.1.2.2.2.2) rfl ⟨rfl, hw.2.1.2.2.2.2⟩ (nb rfl) ⟨by show _ ≤ 601024; omega, by show _ ≤ 7293034; omega⟩ dL_law_1996) hS hw.aM (fun H2 locs2 hw1 hz1 hk1 hS1 => ?_)
  replace hw := hw.modM hw1 hz1 hk1
  replace hS := hS1
  clear hw1 hk1 hz1 hS1
  refine x_istore [(6, .int q.1), (5, .int (thC (fun k => if k = 1 then 1 else 0) r)), (4, .int i), (3, .ref (b + 2636)), (2, .ref (b + 2628)), (1, .ref b), (0, .ref a)] C dL_law_1999 (by decide) rfl ?_
  refine x_aload_n C dL_law_2001 rfl ?_
  refine x_goR (fun ls h => x_runV (As := []) [] h C ml_L_209 (c_X12_thrown l D cA s (b + 2628) q.2) ⟨rfl, rfl, nb rfl, nb rfl⟩ rfl (M_obj hw.2.1.2.2.2.2) rfl hw.2.1.2.2.2.2 (nb rfl) ⟨by show _ ≤ 601024; omega, by show _ ≤ 7293034; omega⟩ dL_law_2002) ?_
  refine x_iload C dL_law_2005 rfl ?_
  refine x_icmp_eq 2012 C dL_law_2007 (by decide) (fun _ => ?_) (fun z => absurd ht.symm z)
  refine x_iload C dL_law_2012 rfl ?_
  refine x_if_ne 2029 C dL_law_2014 (by decide) (fun _ => ?_) (fun h0 => ?_)
  · refine x_goto 4068 C dL_law_2029 (by decide) ?_
    refine x_sub [(4, .int i), (3, .ref (b + 2636)), (2, .ref (b + 2628)), (1, .ref b), (0, .ref a)] [2, 3, 4, 5, 6] rfl ?_
    refine x_widen (k := cells + 200) (n := slots + 2000) (by omega) (by omega) ?_
    exact kk _ _ hw hS
  have ho := ho h0
  refine x_aload_n C dL_law_2017 rfl ?_
  refine x_iconst (0 : Int32) C dL_law_2018 rfl ?_
  refine x_lald C hw.2.2 in01 dL_law_2019 ?_
  refine x_iload C dL_law_2020 rfl ?_
  refine x_i2l C dL_law_2022 ?_
  refine x_lcmp_eq 2029 C dL_law_2023 dL_law_2024 (by decide) (fun _ => ?_) (fun z => absurd ho z)
  refine x_goto 4068 C dL_law_2029 (by decide) ?_
  refine x_sub [(4, .int i), (3, .ref (b + 2636)), (2, .ref (b + 2628)), (1, .ref b), (0, .ref a)] [2, 3, 4, 5, 6] rfl ?_
  refine x_widen (k := cells + 200) (n := slots + 2000) (by omega) (by omega) ?_
  exact kk _ _ hw hS
set_option maxRecDepth 20000 in
set_option maxHeartbeats 4000000 in
theorem cs_32 {p : Program} {l : Launch} {e : Env} {s : State} {m : MethodId} {args : Array Value} {below : List Frame} {meth : Method} {c : Code} {Q : State → Prop} {H : Heap} {locs : List Loc} {cells slots : Nat} {D : va_G} {cA : Nat → ClassId} {a b L : Nat} {xs : Nat → Int32} {i : Int32} {ν μ : Mm} {oc : Nat → Int64} (C : xC D cA s RL cL_law 8 (some .boolean) p s m args meth c) (hG : xG l D cA s) (hNc : xNc s) (hX : va_X a L xs s s.heap) (hal : a < s.heap.size) (hw : LW D cA s b ν μ oc H) (hS : va_S (xOut s) s.heap H locs) (hcs : cells + 200 ≤ 601024 ∧ slots + 2000 ≤ 7293034) (a1 : Int32) (a2 : Int32) (r1 : vp_in (i + 1) L ∧ xs (i + 1).toNatClampNeg = a1) (r2 : vp_in (i + 2) L ∧ xs (i + 2).toNatClampNeg = a2) (r : Thr Int32) (q : Int32 × Mm) (hF : g_X11_note ν a1 a2 = some r) (hk : ∀ k, r = .error k → k = 1 ∨ k = 2) (hok : OkR (μ.1 1)) (hM : f_X12_note μ a1 a2 = q) (ht : (thC (fun k => if k = 1 then 1 else if k = 2 then 2 else 0) r) = f_X12_thrown q.2) (ho : (thC (fun k => if k = 1 then 1 else if k = 2 then 2 else 0) r) = 0 → (thO (fun q => q.toInt64) oc r) 0 = q.1.toInt64) (kk : ∀ (H1 : Heap) (locs1 : List Loc), LW D cA s b (thM (fun _ => ν) ν r) q.2 (thO (fun q => q.toInt64) oc r) H1 → va_S (xOut s) s.heap H1 locs1 → xW p l e room_1 s m args below meth c 8 Q H1 locs1 (cells + 200) (slots + 2000) 4068 [(4, .int i), (3, .ref (b + 2636)), (2, .ref (b + 2628)), (1, .ref b), (0, .ref a)] []) : xW p l e room_1 s m args below meth c 8 Q H locs cells slots 2032 [(4, .int i), (3, .ref (b + 2636)), (2, .ref (b + 2628)), (1, .ref b), (0, .ref a)] [] := by
  refine x_aload_n C dL_law_2032 rfl ?_
  refine x_aload_n C dL_law_2033 rfl ?_
  refine x_iload C dL_law_2034 rfl ?_
  refine x_iconst (1 : Int32) C dL_law_2036 rfl ?_
  refine x_iadd C dL_law_2037 ?_
  refine x_sld C hX hal hS r1 dL_law_2038 ?_
  refine x_aload_n C dL_law_2039 rfl ?_
  refine x_iload C dL_law_2040 rfl ?_
  refine x_iconst (2 : Int32) C dL_law_2042 rfl ?_
  refine x_iadd C dL_law_2043 ?_
  refine x_sld C hX hal hS r2 dL_law_2044 ?_
  refine x_aload_n C dL_law_2045 rfl ?_
  refine x_goM (fun ls h => x_runH (As := [.ref b, .int a1, .int a2, .ref (b + 2636)]) [] h C (mw_L_note 313 mlk_313) (k_L_note l D cA s (b + 2637) b ν _ hG hNc (b + 2636) (by omega) (by omega) oc a1 a2 r hF hk) ⟨rfl, rfl, nb rfl, nb rfl⟩ rfl ⟨rfl, hw.1, hw.2.2⟩ (nb rfl) ⟨by show _ ≤ 601024; omega, by show _ ≤ 7293034; omega⟩ dL_law_2046) hS hw.aL (fun H1 locs1 hw1 hz1 hk1 hS1 => ?_)
  replace hw := hw.cls hw1 hk1
  replace hS := hS1
  clear hw1 hk1 hz1 hS1
  refine x_istore [(5, .int (thC (fun k => if k = 1 then 1 else if k = 2 then 2 else 0) r)), (4, .int i), (3, .ref (b + 2636)), (2, .ref (b + 2628)), (1, .ref b), (0, .ref a)] C dL_law_2049 (by decide) rfl ?_
  refine x_aload_n C dL_law_2051 rfl ?_
  refine x_aload_n C dL_law_2052 rfl ?_
  refine x_iload C dL_law_2053 rfl ?_
  refine x_iconst (1 : Int32) C dL_law_2055 rfl ?_
  refine x_iadd C dL_law_2056 ?_
  refine x_sld C hX hal hS r1 dL_law_2057 ?_
  refine x_aload_n C dL_law_2058 rfl ?_
  refine x_iload C dL_law_2059 rfl ?_
  refine x_iconst (2 : Int32) C dL_law_2061 rfl ?_
  refine x_iadd C dL_law_2062 ?_
  refine x_sld C hX hal hS r2 dL_law_2063 ?_
  have K := c_X12_note l D cA s (b + 2628) μ H1.size hok a1 a2
  rw [hM] at K
  refine x_goM (fun ls h => x_runV (As := [.int a1, .int a2]) [] h C ml_L_315 K ⟨rfl, rfl, nb rfl, nb rfl⟩ rfl (M_obj hw.2.1.2.2.2.2) rfl ⟨rfl, hw.2.1.2.2.2.2⟩ (nb rfl) ⟨by show _ ≤ 601024; omega, by show _ ≤ 7293034; omega⟩ dL_law_2064) hS hw.aM (fun H2 locs2 hw1 hz1 hk1 hS1 => ?_)
  replace hw := hw.modM hw1 hz1 hk1
  replace hS := hS1
  clear hw1 hk1 hz1 hS1
  refine x_istore [(6, .int q.1), (5, .int (thC (fun k => if k = 1 then 1 else if k = 2 then 2 else 0) r)), (4, .int i), (3, .ref (b + 2636)), (2, .ref (b + 2628)), (1, .ref b), (0, .ref a)] C dL_law_2067 (by decide) rfl ?_
  refine x_aload_n C dL_law_2069 rfl ?_
  refine x_goR (fun ls h => x_runV (As := []) [] h C ml_L_209 (c_X12_thrown l D cA s (b + 2628) q.2) ⟨rfl, rfl, nb rfl, nb rfl⟩ rfl (M_obj hw.2.1.2.2.2.2) rfl hw.2.1.2.2.2.2 (nb rfl) ⟨by show _ ≤ 601024; omega, by show _ ≤ 7293034; omega⟩ dL_law_2070) ?_
  refine x_iload C dL_law_2073 rfl ?_
  refine x_icmp_eq 2080 C dL_law_2075 (by decide) (fun _ => ?_) (fun z => absurd ht.symm z)
  refine x_iload C dL_law_2080 rfl ?_
  refine x_if_ne 2097 C dL_law_2082 (by decide) (fun _ => ?_) (fun h0 => ?_)
  · refine x_goto 4068 C dL_law_2097 (by decide) ?_
    refine x_sub [(4, .int i), (3, .ref (b + 2636)), (2, .ref (b + 2628)), (1, .ref b), (0, .ref a)] [2, 3, 4, 5, 6] rfl ?_
    refine x_widen (k := cells + 200) (n := slots + 2000) (by omega) (by omega) ?_
    exact kk _ _ hw hS
  have ho := ho h0
  refine x_aload_n C dL_law_2085 rfl ?_
  refine x_iconst (0 : Int32) C dL_law_2086 rfl ?_
  refine x_lald C hw.2.2 in01 dL_law_2087 ?_
  refine x_iload C dL_law_2088 rfl ?_
  refine x_i2l C dL_law_2090 ?_
  refine x_lcmp_eq 2097 C dL_law_2091 dL_law_2092 (by decide) (fun _ => ?_) (fun z => absurd ho z)
  refine x_goto 4068 C dL_law_2097 (by decide) ?_
  refine x_sub [(4, .int i), (3, .ref (b + 2636)), (2, .ref (b + 2628)), (1, .ref b), (0, .ref a)] [2, 3, 4, 5, 6] rfl ?_
  refine x_widen (k := cells + 200) (n := slots + 2000) (by omega) (by omega) ?_
  exact kk _ _ hw hS
set_option maxRecDepth 20000 in
set_option maxHeartbeats 4000000 in
theorem cs_33 {p : Program} {l : Launch} {e : Env} {s : State} {m : MethodId} {args : Array Value} {below : List Frame} {meth : Method} {c : Code} {Q : State → Prop} {H : Heap} {locs : List Loc} {cells slots : Nat} {D : va_G} {cA : Nat → ClassId} {a b L : Nat} {xs : Nat → Int32} {i : Int32} {ν μ : Mm} {oc : Nat → Int64} (C : xC D cA s RL cL_law 8 (some .boolean) p s m args meth c) (hG : xG l D cA s) (hNc : xNc s) (hX : va_X a L xs s s.heap) (hal : a < s.heap.size) (hw : LW D cA s b ν μ oc H) (hS : va_S (xOut s) s.heap H locs) (hcs : cells + 200 ≤ 601024 ∧ slots + 2000 ≤ 7293034) (a1 : Int32) (r1 : vp_in (i + 1) L ∧ xs (i + 1).toNatClampNeg = a1) (r : Thr Int64) (q : Int64 × Mm) (hF : g_X11_balance ν a1 = some r) (hk : ∀ k, r = .error k → k = 1) (hok : OkR (μ.1 1)) (hM : f_X12_balance μ a1 = q) (ht : (thC (fun k => if k = 1 then 1 else 0) r) = f_X12_thrown q.2) (ho : (thC (fun k => if k = 1 then 1 else 0) r) = 0 → (thO (fun q => q) oc r) 0 = q.1) (kk : ∀ (H1 : Heap) (locs1 : List Loc), LW D cA s b (thM (fun _ => ν) ν r) q.2 (thO (fun q => q) oc r) H1 → va_S (xOut s) s.heap H1 locs1 → xW p l e room_1 s m args below meth c 8 Q H1 locs1 (cells + 200) (slots + 2000) 4068 [(4, .int i), (3, .ref (b + 2636)), (2, .ref (b + 2628)), (1, .ref b), (0, .ref a)] []) : xW p l e room_1 s m args below meth c 8 Q H locs cells slots 2100 [(4, .int i), (3, .ref (b + 2636)), (2, .ref (b + 2628)), (1, .ref b), (0, .ref a)] [] := by
  refine x_aload_n C dL_law_2100 rfl ?_
  refine x_aload_n C dL_law_2101 rfl ?_
  refine x_iload C dL_law_2102 rfl ?_
  refine x_iconst (1 : Int32) C dL_law_2104 rfl ?_
  refine x_iadd C dL_law_2105 ?_
  refine x_sld C hX hal hS r1 dL_law_2106 ?_
  refine x_aload_n C dL_law_2107 rfl ?_
  refine x_goM (fun ls h => x_runH (As := [.ref b, .int a1, .ref (b + 2636)]) [] h C (mw_L_balance 316 mlk_316) (k_L_balance l D cA s (b + 2637) b ν _ hG hNc (b + 2636) (by omega) (by omega) oc a1 r hF hk) ⟨rfl, rfl, nb rfl, nb rfl⟩ rfl ⟨rfl, hw.1, hw.2.2⟩ (nb rfl) ⟨by show _ ≤ 601024; omega, by show _ ≤ 7293034; omega⟩ dL_law_2108) hS hw.aL (fun H1 locs1 hw1 hz1 hk1 hS1 => ?_)
  replace hw := hw.cls hw1 hk1
  replace hS := hS1
  clear hw1 hk1 hz1 hS1
  refine x_istore [(5, .int (thC (fun k => if k = 1 then 1 else 0) r)), (4, .int i), (3, .ref (b + 2636)), (2, .ref (b + 2628)), (1, .ref b), (0, .ref a)] C dL_law_2111 (by decide) rfl ?_
  refine x_aload_n C dL_law_2113 rfl ?_
  refine x_aload_n C dL_law_2114 rfl ?_
  refine x_iload C dL_law_2115 rfl ?_
  refine x_iconst (1 : Int32) C dL_law_2117 rfl ?_
  refine x_iadd C dL_law_2118 ?_
  refine x_sld C hX hal hS r1 dL_law_2119 ?_
  have K := c_X12_balance l D cA s (b + 2628) μ H1.size hok a1
  rw [hM] at K
  refine x_goM (fun ls h => x_runV (As := [.int a1]) [] h C ml_L_318 K ⟨rfl, rfl, nb rfl, nb rfl⟩ rfl (M_obj hw.2.1.2.2.2.2) rfl ⟨rfl, hw.2.1.2.2.2.2⟩ (nb rfl) ⟨by show _ ≤ 601024; omega, by show _ ≤ 7293034; omega⟩ dL_law_2120) hS hw.aM (fun H2 locs2 hw1 hz1 hk1 hS1 => ?_)
  replace hw := hw.modM hw1 hz1 hk1
  replace hS := hS1
  clear hw1 hk1 hz1 hS1
  refine x_lstore [(6, .long q.1), (5, .int (thC (fun k => if k = 1 then 1 else 0) r)), (4, .int i), (3, .ref (b + 2636)), (2, .ref (b + 2628)), (1, .ref b), (0, .ref a)] C dL_law_2123 (by decide) rfl ?_
  refine x_aload_n C dL_law_2125 rfl ?_
  refine x_goR (fun ls h => x_runV (As := []) [] h C ml_L_209 (c_X12_thrown l D cA s (b + 2628) q.2) ⟨rfl, rfl, nb rfl, nb rfl⟩ rfl (M_obj hw.2.1.2.2.2.2) rfl hw.2.1.2.2.2.2 (nb rfl) ⟨by show _ ≤ 601024; omega, by show _ ≤ 7293034; omega⟩ dL_law_2126) ?_
  refine x_iload C dL_law_2129 rfl ?_
  refine x_icmp_eq 2136 C dL_law_2131 (by decide) (fun _ => ?_) (fun z => absurd ht.symm z)
  refine x_iload C dL_law_2136 rfl ?_
  refine x_if_ne 2152 C dL_law_2138 (by decide) (fun _ => ?_) (fun h0 => ?_)
  · refine x_goto 4068 C dL_law_2152 (by decide) ?_
    refine x_sub [(4, .int i), (3, .ref (b + 2636)), (2, .ref (b + 2628)), (1, .ref b), (0, .ref a)] [2, 3, 4, 5, 6] rfl ?_
    refine x_widen (k := cells + 200) (n := slots + 2000) (by omega) (by omega) ?_
    exact kk _ _ hw hS
  have ho := ho h0
  refine x_aload_n C dL_law_2141 rfl ?_
  refine x_iconst (0 : Int32) C dL_law_2142 rfl ?_
  refine x_lald C hw.2.2 in01 dL_law_2143 ?_
  refine x_lload C dL_law_2144 rfl ?_
  refine x_lcmp_eq 2152 C dL_law_2146 dL_law_2147 (by decide) (fun _ => ?_) (fun z => absurd ho z)
  refine x_goto 4068 C dL_law_2152 (by decide) ?_
  refine x_sub [(4, .int i), (3, .ref (b + 2636)), (2, .ref (b + 2628)), (1, .ref b), (0, .ref a)] [2, 3, 4, 5, 6] rfl ?_
  refine x_widen (k := cells + 200) (n := slots + 2000) (by omega) (by omega) ?_
  exact kk _ _ hw hS
set_option maxRecDepth 20000 in
set_option maxHeartbeats 4000000 in
theorem cs_34 {p : Program} {l : Launch} {e : Env} {s : State} {m : MethodId} {args : Array Value} {below : List Frame} {meth : Method} {c : Code} {Q : State → Prop} {H : Heap} {locs : List Loc} {cells slots : Nat} {D : va_G} {cA : Nat → ClassId} {a b L : Nat} {xs : Nat → Int32} {i : Int32} {ν μ : Mm} {oc : Nat → Int64} (C : xC D cA s RL cL_law 8 (some .boolean) p s m args meth c) (hG : xG l D cA s) (hNc : xNc s) (hX : va_X a L xs s s.heap) (hal : a < s.heap.size) (hw : LW D cA s b ν μ oc H) (hS : va_S (xOut s) s.heap H locs) (hcs : cells + 200 ≤ 601024 ∧ slots + 2000 ≤ 7293034) (a1 : Int32) (r1 : vp_in (i + 1) L ∧ xs (i + 1).toNatClampNeg = a1) (r : Thr Int64) (q : Int64 × Mm) (hF : g_X11_paid ν a1 = some r) (hk : ∀ k, r = .error k → k = 1) (hok : OkR (μ.1 1)) (hM : f_X12_paid μ a1 = q) (ht : (thC (fun k => if k = 1 then 1 else 0) r) = f_X12_thrown q.2) (ho : (thC (fun k => if k = 1 then 1 else 0) r) = 0 → (thO (fun q => q) oc r) 0 = q.1) (kk : ∀ (H1 : Heap) (locs1 : List Loc), LW D cA s b (thM (fun _ => ν) ν r) q.2 (thO (fun q => q) oc r) H1 → va_S (xOut s) s.heap H1 locs1 → xW p l e room_1 s m args below meth c 8 Q H1 locs1 (cells + 200) (slots + 2000) 4068 [(4, .int i), (3, .ref (b + 2636)), (2, .ref (b + 2628)), (1, .ref b), (0, .ref a)] []) : xW p l e room_1 s m args below meth c 8 Q H locs cells slots 2155 [(4, .int i), (3, .ref (b + 2636)), (2, .ref (b + 2628)), (1, .ref b), (0, .ref a)] [] := by
  refine x_aload_n C dL_law_2155 rfl ?_
  refine x_aload_n C dL_law_2156 rfl ?_
  refine x_iload C dL_law_2157 rfl ?_
  refine x_iconst (1 : Int32) C dL_law_2159 rfl ?_
  refine x_iadd C dL_law_2160 ?_
  refine x_sld C hX hal hS r1 dL_law_2161 ?_
  refine x_aload_n C dL_law_2162 rfl ?_
  refine x_goM (fun ls h => x_runH (As := [.ref b, .int a1, .ref (b + 2636)]) [] h C (mw_L_paid 319 mlk_319) (k_L_paid l D cA s (b + 2637) b ν _ hG hNc (b + 2636) (by omega) (by omega) oc a1 r hF hk) ⟨rfl, rfl, nb rfl, nb rfl⟩ rfl ⟨rfl, hw.1, hw.2.2⟩ (nb rfl) ⟨by show _ ≤ 601024; omega, by show _ ≤ 7293034; omega⟩ dL_law_2163) hS hw.aL (fun H1 locs1 hw1 hz1 hk1 hS1 => ?_)
  replace hw := hw.cls hw1 hk1
  replace hS := hS1
  clear hw1 hk1 hz1 hS1
  refine x_istore [(5, .int (thC (fun k => if k = 1 then 1 else 0) r)), (4, .int i), (3, .ref (b + 2636)), (2, .ref (b + 2628)), (1, .ref b), (0, .ref a)] C dL_law_2166 (by decide) rfl ?_
  refine x_aload_n C dL_law_2168 rfl ?_
  refine x_aload_n C dL_law_2169 rfl ?_
  refine x_iload C dL_law_2170 rfl ?_
  refine x_iconst (1 : Int32) C dL_law_2172 rfl ?_
  refine x_iadd C dL_law_2173 ?_
  refine x_sld C hX hal hS r1 dL_law_2174 ?_
  have K := c_X12_paid l D cA s (b + 2628) μ H1.size hok a1
  rw [hM] at K
  refine x_goM (fun ls h => x_runV (As := [.int a1]) [] h C ml_L_321 K ⟨rfl, rfl, nb rfl, nb rfl⟩ rfl (M_obj hw.2.1.2.2.2.2) rfl ⟨rfl, hw.2.1.2.2.2.2⟩ (nb rfl) ⟨by show _ ≤ 601024; omega, by show _ ≤ 7293034; omega⟩ dL_law_2175) hS hw.aM (fun H2 locs2 hw1 hz1 hk1 hS1 => ?_)
  replace hw := hw.modM hw1 hz1 hk1
  replace hS := hS1
  clear hw1 hk1 hz1 hS1
  refine x_lstore [(6, .long q.1), (5, .int (thC (fun k => if k = 1 then 1 else 0) r)), (4, .int i), (3, .ref (b + 2636)), (2, .ref (b + 2628)), (1, .ref b), (0, .ref a)] C dL_law_2178 (by decide) rfl ?_
  refine x_aload_n C dL_law_2180 rfl ?_
  refine x_goR (fun ls h => x_runV (As := []) [] h C ml_L_209 (c_X12_thrown l D cA s (b + 2628) q.2) ⟨rfl, rfl, nb rfl, nb rfl⟩ rfl (M_obj hw.2.1.2.2.2.2) rfl hw.2.1.2.2.2.2 (nb rfl) ⟨by show _ ≤ 601024; omega, by show _ ≤ 7293034; omega⟩ dL_law_2181) ?_
  refine x_iload C dL_law_2184 rfl ?_
  refine x_icmp_eq 2191 C dL_law_2186 (by decide) (fun _ => ?_) (fun z => absurd ht.symm z)
  refine x_iload C dL_law_2191 rfl ?_
  refine x_if_ne 2207 C dL_law_2193 (by decide) (fun _ => ?_) (fun h0 => ?_)
  · refine x_goto 4068 C dL_law_2207 (by decide) ?_
    refine x_sub [(4, .int i), (3, .ref (b + 2636)), (2, .ref (b + 2628)), (1, .ref b), (0, .ref a)] [2, 3, 4, 5, 6] rfl ?_
    refine x_widen (k := cells + 200) (n := slots + 2000) (by omega) (by omega) ?_
    exact kk _ _ hw hS
  have ho := ho h0
  refine x_aload_n C dL_law_2196 rfl ?_
  refine x_iconst (0 : Int32) C dL_law_2197 rfl ?_
  refine x_lald C hw.2.2 in01 dL_law_2198 ?_
  refine x_lload C dL_law_2199 rfl ?_
  refine x_lcmp_eq 2207 C dL_law_2201 dL_law_2202 (by decide) (fun _ => ?_) (fun z => absurd ho z)
  refine x_goto 4068 C dL_law_2207 (by decide) ?_
  refine x_sub [(4, .int i), (3, .ref (b + 2636)), (2, .ref (b + 2628)), (1, .ref b), (0, .ref a)] [2, 3, 4, 5, 6] rfl ?_
  refine x_widen (k := cells + 200) (n := slots + 2000) (by omega) (by omega) ?_
  exact kk _ _ hw hS
set_option maxRecDepth 20000 in
set_option maxHeartbeats 4000000 in
theorem cs_35 {p : Program} {l : Launch} {e : Env} {s : State} {m : MethodId} {args : Array Value} {below : List Frame} {meth : Method} {c : Code} {Q : State → Prop} {H : Heap} {locs : List Loc} {cells slots : Nat} {D : va_G} {cA : Nat → ClassId} {a b L : Nat} {xs : Nat → Int32} {i : Int32} {ν μ : Mm} {oc : Nat → Int64} (C : xC D cA s RL cL_law 8 (some .boolean) p s m args meth c) (hG : xG l D cA s) (hNc : xNc s) (hX : va_X a L xs s s.heap) (hal : a < s.heap.size) (hw : LW D cA s b ν μ oc H) (hS : va_S (xOut s) s.heap H locs) (hcs : cells + 200 ≤ 601024 ∧ slots + 2000 ≤ 7293034) (a1 : Int32) (r1 : vp_in (i + 1) L ∧ xs (i + 1).toNatClampNeg = a1) (r : Thr Int32) (q : Int32 × Mm) (hF : g_X11_oldestOpen ν a1 = some r) (hk : ∀ k, r = .error k → k = 1) (hok : OkR (μ.1 1)) (hM : f_X12_oldestOpen μ a1 = q) (ht : (thC (fun k => if k = 1 then 1 else 0) r) = f_X12_thrown q.2) (ho : (thC (fun k => if k = 1 then 1 else 0) r) = 0 → (thO (fun q => q.toInt64) oc r) 0 = q.1.toInt64) (kk : ∀ (H1 : Heap) (locs1 : List Loc), LW D cA s b (thM (fun _ => ν) ν r) q.2 (thO (fun q => q.toInt64) oc r) H1 → va_S (xOut s) s.heap H1 locs1 → xW p l e room_1 s m args below meth c 8 Q H1 locs1 (cells + 200) (slots + 2000) 4068 [(4, .int i), (3, .ref (b + 2636)), (2, .ref (b + 2628)), (1, .ref b), (0, .ref a)] []) : xW p l e room_1 s m args below meth c 8 Q H locs cells slots 2210 [(4, .int i), (3, .ref (b + 2636)), (2, .ref (b + 2628)), (1, .ref b), (0, .ref a)] [] := by
  refine x_aload_n C dL_law_2210 rfl ?_
  refine x_aload_n C dL_law_2211 rfl ?_
  refine x_iload C dL_law_2212 rfl ?_
  refine x_iconst (1 : Int32) C dL_law_2214 rfl ?_
  refine x_iadd C dL_law_2215 ?_
  refine x_sld C hX hal hS r1 dL_law_2216 ?_
  refine x_aload_n C dL_law_2217 rfl ?_
  refine x_goM (fun ls h => x_runH (As := [.ref b, .int a1, .ref (b + 2636)]) [] h C (mw_L_oldestOpen 322 mlk_322) (k_L_oldestOpen l D cA s (b + 2637) b ν _ hG hNc (b + 2636) (by omega) (by omega) oc a1 r hF hk) ⟨rfl, rfl, nb rfl, nb rfl⟩ rfl ⟨rfl, hw.1, hw.2.2⟩ (nb rfl) ⟨by show _ ≤ 601024; omega, by show _ ≤ 7293034; omega⟩ dL_law_2218) hS hw.aL (fun H1 locs1 hw1 hz1 hk1 hS1 => ?_)
  replace hw := hw.cls hw1 hk1
  replace hS := hS1
  clear hw1 hk1 hz1 hS1
  refine x_istore [(5, .int (thC (fun k => if k = 1 then 1 else 0) r)), (4, .int i), (3, .ref (b + 2636)), (2, .ref (b + 2628)), (1, .ref b), (0, .ref a)] C dL_law_2221 (by decide) rfl ?_
  refine x_aload_n C dL_law_2223 rfl ?_
  refine x_aload_n C dL_law_2224 rfl ?_
  refine x_iload C dL_law_2225 rfl ?_
  refine x_iconst (1 : Int32) C dL_law_2227 rfl ?_
  refine x_iadd C dL_law_2228 ?_
  refine x_sld C hX hal hS r1 dL_law_2229 ?_
  have K := c_X12_oldestOpen l D cA s (b + 2628) μ H1.size hok a1
  rw [hM] at K
  refine x_goM (fun ls h => x_runV (As := [.int a1]) [] h C ml_L_324 K ⟨rfl, rfl, nb rfl, nb rfl⟩ rfl (M_obj hw.2.1.2.2.2.2) rfl ⟨rfl, hw.2.1.2.2.2.2⟩ (nb rfl) ⟨by show _ ≤ 601024; omega, by show _ ≤ 7293034; omega⟩ dL_law_2230) hS hw.aM (fun H2 locs2 hw1 hz1 hk1 hS1 => ?_)
  replace hw := hw.modM hw1 hz1 hk1
  replace hS := hS1
  clear hw1 hk1 hz1 hS1
  refine x_istore [(6, .int q.1), (5, .int (thC (fun k => if k = 1 then 1 else 0) r)), (4, .int i), (3, .ref (b + 2636)), (2, .ref (b + 2628)), (1, .ref b), (0, .ref a)] C dL_law_2233 (by decide) rfl ?_
  refine x_aload_n C dL_law_2235 rfl ?_
  refine x_goR (fun ls h => x_runV (As := []) [] h C ml_L_209 (c_X12_thrown l D cA s (b + 2628) q.2) ⟨rfl, rfl, nb rfl, nb rfl⟩ rfl (M_obj hw.2.1.2.2.2.2) rfl hw.2.1.2.2.2.2 (nb rfl) ⟨by show _ ≤ 601024; omega, by show _ ≤ 7293034; omega⟩ dL_law_2236) ?_
  refine x_iload C dL_law_2239 rfl ?_
  refine x_icmp_eq 2246 C dL_law_2241 (by decide) (fun _ => ?_) (fun z => absurd ht.symm z)
  refine x_iload C dL_law_2246 rfl ?_
  refine x_if_ne 2263 C dL_law_2248 (by decide) (fun _ => ?_) (fun h0 => ?_)
  · refine x_goto 4068 C dL_law_2263 (by decide) ?_
    refine x_sub [(4, .int i), (3, .ref (b + 2636)), (2, .ref (b + 2628)), (1, .ref b), (0, .ref a)] [2, 3, 4, 5, 6] rfl ?_
    refine x_widen (k := cells + 200) (n := slots + 2000) (by omega) (by omega) ?_
    exact kk _ _ hw hS
  have ho := ho h0
  refine x_aload_n C dL_law_2251 rfl ?_
  refine x_iconst (0 : Int32) C dL_law_2252 rfl ?_
  refine x_lald C hw.2.2 in01 dL_law_2253 ?_
  refine x_iload C dL_law_2254 rfl ?_
  refine x_i2l C dL_law_2256 ?_
  refine x_lcmp_eq 2263 C dL_law_2257 dL_law_2258 (by decide) (fun _ => ?_) (fun z => absurd ho z)
  refine x_goto 4068 C dL_law_2263 (by decide) ?_
  refine x_sub [(4, .int i), (3, .ref (b + 2636)), (2, .ref (b + 2628)), (1, .ref b), (0, .ref a)] [2, 3, 4, 5, 6] rfl ?_
  refine x_widen (k := cells + 200) (n := slots + 2000) (by omega) (by omega) ?_
  exact kk _ _ hw hS
set_option maxRecDepth 20000 in
set_option maxHeartbeats 4000000 in
theorem cs_36 {p : Program} {l : Launch} {e : Env} {s : State} {m : MethodId} {args : Array Value} {below : List Frame} {meth : Method} {c : Code} {Q : State → Prop} {H : Heap} {locs : List Loc} {cells slots : Nat} {D : va_G} {cA : Nat → ClassId} {a b L : Nat} {xs : Nat → Int32} {i : Int32} {ν μ : Mm} {oc : Nat → Int64} (C : xC D cA s RL cL_law 8 (some .boolean) p s m args meth c) (hG : xG l D cA s) (hNc : xNc s) (hX : va_X a L xs s s.heap) (hal : a < s.heap.size) (hw : LW D cA s b ν μ oc H) (hS : va_S (xOut s) s.heap H locs) (hcs : cells + 200 ≤ 601024 ∧ slots + 2000 ≤ 7293034) (a1 : Int32) (r1 : vp_in (i + 1) L ∧ xs (i + 1).toNatClampNeg = a1) (r : Thr Int32) (q : Int32 × Mm) (hF : g_X11_overdue ν a1 = some r) (hk : ∀ k, r = .error k → k = 2) (hok : OkR (μ.1 1)) (hM : f_X12_overdue μ a1 = q) (ht : (thC (fun k => if k = 2 then 1 else 0) r) = f_X12_thrown q.2) (ho : (thC (fun k => if k = 2 then 1 else 0) r) = 0 → (thO (fun q => q.toInt64) oc r) 0 = q.1.toInt64) (kk : ∀ (H1 : Heap) (locs1 : List Loc), LW D cA s b (thM (fun _ => ν) ν r) q.2 (thO (fun q => q.toInt64) oc r) H1 → va_S (xOut s) s.heap H1 locs1 → xW p l e room_1 s m args below meth c 8 Q H1 locs1 (cells + 200) (slots + 2000) 4068 [(4, .int i), (3, .ref (b + 2636)), (2, .ref (b + 2628)), (1, .ref b), (0, .ref a)] []) : xW p l e room_1 s m args below meth c 8 Q H locs cells slots 2266 [(4, .int i), (3, .ref (b + 2636)), (2, .ref (b + 2628)), (1, .ref b), (0, .ref a)] [] := by
  refine x_aload_n C dL_law_2266 rfl ?_
  refine x_aload_n C dL_law_2267 rfl ?_
  refine x_iload C dL_law_2268 rfl ?_
  refine x_iconst (1 : Int32) C dL_law_2270 rfl ?_
  refine x_iadd C dL_law_2271 ?_
  refine x_sld C hX hal hS r1 dL_law_2272 ?_
  refine x_aload_n C dL_law_2273 rfl ?_
  refine x_goM (fun ls h => x_runH (As := [.ref b, .int a1, .ref (b + 2636)]) [] h C (mw_L_overdue 325 mlk_325) (k_L_overdue l D cA s (b + 2637) b ν _ hG hNc (b + 2636) (by omega) (by omega) oc a1 r hF hk) ⟨rfl, rfl, nb rfl, nb rfl⟩ rfl ⟨rfl, hw.1, hw.2.2⟩ (nb rfl) ⟨by show _ ≤ 601024; omega, by show _ ≤ 7293034; omega⟩ dL_law_2274) hS hw.aL (fun H1 locs1 hw1 hz1 hk1 hS1 => ?_)
  replace hw := hw.cls hw1 hk1
  replace hS := hS1
  clear hw1 hk1 hz1 hS1
  refine x_istore [(5, .int (thC (fun k => if k = 2 then 1 else 0) r)), (4, .int i), (3, .ref (b + 2636)), (2, .ref (b + 2628)), (1, .ref b), (0, .ref a)] C dL_law_2277 (by decide) rfl ?_
  refine x_aload_n C dL_law_2279 rfl ?_
  refine x_aload_n C dL_law_2280 rfl ?_
  refine x_iload C dL_law_2281 rfl ?_
  refine x_iconst (1 : Int32) C dL_law_2283 rfl ?_
  refine x_iadd C dL_law_2284 ?_
  refine x_sld C hX hal hS r1 dL_law_2285 ?_
  have K := c_X12_overdue l D cA s (b + 2628) μ H1.size hok a1
  rw [hM] at K
  refine x_goM (fun ls h => x_runV (As := [.int a1]) [] h C ml_L_327 K ⟨rfl, rfl, nb rfl, nb rfl⟩ rfl (M_obj hw.2.1.2.2.2.2) rfl ⟨rfl, hw.2.1.2.2.2.2⟩ (nb rfl) ⟨by show _ ≤ 601024; omega, by show _ ≤ 7293034; omega⟩ dL_law_2286) hS hw.aM (fun H2 locs2 hw1 hz1 hk1 hS1 => ?_)
  replace hw := hw.modM hw1 hz1 hk1
  replace hS := hS1
  clear hw1 hk1 hz1 hS1
  refine x_istore [(6, .int q.1), (5, .int (thC (fun k => if k = 2 then 1 else 0) r)), (4, .int i), (3, .ref (b + 2636)), (2, .ref (b + 2628)), (1, .ref b), (0, .ref a)] C dL_law_2289 (by decide) rfl ?_
  refine x_aload_n C dL_law_2291 rfl ?_
  refine x_goR (fun ls h => x_runV (As := []) [] h C ml_L_209 (c_X12_thrown l D cA s (b + 2628) q.2) ⟨rfl, rfl, nb rfl, nb rfl⟩ rfl (M_obj hw.2.1.2.2.2.2) rfl hw.2.1.2.2.2.2 (nb rfl) ⟨by show _ ≤ 601024; omega, by show _ ≤ 7293034; omega⟩ dL_law_2292) ?_
  refine x_iload C dL_law_2295 rfl ?_
  refine x_icmp_eq 2302 C dL_law_2297 (by decide) (fun _ => ?_) (fun z => absurd ht.symm z)
  refine x_iload C dL_law_2302 rfl ?_
  refine x_if_ne 2319 C dL_law_2304 (by decide) (fun _ => ?_) (fun h0 => ?_)
  · refine x_goto 4068 C dL_law_2319 (by decide) ?_
    refine x_sub [(4, .int i), (3, .ref (b + 2636)), (2, .ref (b + 2628)), (1, .ref b), (0, .ref a)] [2, 3, 4, 5, 6] rfl ?_
    refine x_widen (k := cells + 200) (n := slots + 2000) (by omega) (by omega) ?_
    exact kk _ _ hw hS
  have ho := ho h0
  refine x_aload_n C dL_law_2307 rfl ?_
  refine x_iconst (0 : Int32) C dL_law_2308 rfl ?_
  refine x_lald C hw.2.2 in01 dL_law_2309 ?_
  refine x_iload C dL_law_2310 rfl ?_
  refine x_i2l C dL_law_2312 ?_
  refine x_lcmp_eq 2319 C dL_law_2313 dL_law_2314 (by decide) (fun _ => ?_) (fun z => absurd ho z)
  refine x_goto 4068 C dL_law_2319 (by decide) ?_
  refine x_sub [(4, .int i), (3, .ref (b + 2636)), (2, .ref (b + 2628)), (1, .ref b), (0, .ref a)] [2, 3, 4, 5, 6] rfl ?_
  refine x_widen (k := cells + 200) (n := slots + 2000) (by omega) (by omega) ?_
  exact kk _ _ hw hS
set_option maxRecDepth 20000 in
set_option maxHeartbeats 4000000 in
theorem cs_37 {p : Program} {l : Launch} {e : Env} {s : State} {m : MethodId} {args : Array Value} {below : List Frame} {meth : Method} {c : Code} {Q : State → Prop} {H : Heap} {locs : List Loc} {cells slots : Nat} {D : va_G} {cA : Nat → ClassId} {a b L : Nat} {xs : Nat → Int32} {i : Int32} {ν μ : Mm} {oc : Nat → Int64} (C : xC D cA s RL cL_law 8 (some .boolean) p s m args meth c) (hG : xG l D cA s) (hNc : xNc s) (hX : va_X a L xs s s.heap) (hal : a < s.heap.size) (hw : LW D cA s b ν μ oc H) (hS : va_S (xOut s) s.heap H locs) (hcs : cells + 200 ≤ 601024 ∧ slots + 2000 ≤ 7293034) (a1 : Int32) (a2 : Int32) (r1 : vp_in (i + 1) L ∧ xs (i + 1).toNatClampNeg = a1) (r2 : vp_in (i + 2) L ∧ xs (i + 2).toNatClampNeg = a2) (r : Thr Int64) (q : Int64 × Mm) (hF : g_X11_revenue ν a1 a2 = some r) (hk : ∀ k, r = .error k → k = 2) (hok : OkR (μ.1 1)) (hM : f_X12_revenue μ a1 a2 = q) (ht : (thC (fun k => if k = 2 then 1 else 0) r) = f_X12_thrown q.2) (ho : (thC (fun k => if k = 2 then 1 else 0) r) = 0 → (thO (fun q => q) oc r) 0 = q.1) (kk : ∀ (H1 : Heap) (locs1 : List Loc), LW D cA s b (thM (fun _ => ν) ν r) q.2 (thO (fun q => q) oc r) H1 → va_S (xOut s) s.heap H1 locs1 → xW p l e room_1 s m args below meth c 8 Q H1 locs1 (cells + 200) (slots + 2000) 4068 [(4, .int i), (3, .ref (b + 2636)), (2, .ref (b + 2628)), (1, .ref b), (0, .ref a)] []) : xW p l e room_1 s m args below meth c 8 Q H locs cells slots 2322 [(4, .int i), (3, .ref (b + 2636)), (2, .ref (b + 2628)), (1, .ref b), (0, .ref a)] [] := by
  refine x_aload_n C dL_law_2322 rfl ?_
  refine x_aload_n C dL_law_2323 rfl ?_
  refine x_iload C dL_law_2324 rfl ?_
  refine x_iconst (1 : Int32) C dL_law_2326 rfl ?_
  refine x_iadd C dL_law_2327 ?_
  refine x_sld C hX hal hS r1 dL_law_2328 ?_
  refine x_aload_n C dL_law_2329 rfl ?_
  refine x_iload C dL_law_2330 rfl ?_
  refine x_iconst (2 : Int32) C dL_law_2332 rfl ?_
  refine x_iadd C dL_law_2333 ?_
  refine x_sld C hX hal hS r2 dL_law_2334 ?_
  refine x_aload_n C dL_law_2335 rfl ?_
  refine x_goM (fun ls h => x_runH (As := [.ref b, .int a1, .int a2, .ref (b + 2636)]) [] h C (mw_L_revenue 328 mlk_328) (k_L_revenue l D cA s (b + 2637) b ν _ hG hNc (b + 2636) (by omega) (by omega) oc a1 a2 r hF hk) ⟨rfl, rfl, nb rfl, nb rfl⟩ rfl ⟨rfl, hw.1, hw.2.2⟩ (nb rfl) ⟨by show _ ≤ 601024; omega, by show _ ≤ 7293034; omega⟩ dL_law_2336) hS hw.aL (fun H1 locs1 hw1 hz1 hk1 hS1 => ?_)
  replace hw := hw.cls hw1 hk1
  replace hS := hS1
  clear hw1 hk1 hz1 hS1
  refine x_istore [(5, .int (thC (fun k => if k = 2 then 1 else 0) r)), (4, .int i), (3, .ref (b + 2636)), (2, .ref (b + 2628)), (1, .ref b), (0, .ref a)] C dL_law_2339 (by decide) rfl ?_
  refine x_aload_n C dL_law_2341 rfl ?_
  refine x_aload_n C dL_law_2342 rfl ?_
  refine x_iload C dL_law_2343 rfl ?_
  refine x_iconst (1 : Int32) C dL_law_2345 rfl ?_
  refine x_iadd C dL_law_2346 ?_
  refine x_sld C hX hal hS r1 dL_law_2347 ?_
  refine x_aload_n C dL_law_2348 rfl ?_
  refine x_iload C dL_law_2349 rfl ?_
  refine x_iconst (2 : Int32) C dL_law_2351 rfl ?_
  refine x_iadd C dL_law_2352 ?_
  refine x_sld C hX hal hS r2 dL_law_2353 ?_
  have K := c_X12_revenue l D cA s (b + 2628) μ H1.size hok a1 a2
  rw [hM] at K
  refine x_goM (fun ls h => x_runV (As := [.int a1, .int a2]) [] h C ml_L_330 K ⟨rfl, rfl, nb rfl, nb rfl⟩ rfl (M_obj hw.2.1.2.2.2.2) rfl ⟨rfl, hw.2.1.2.2.2.2⟩ (nb rfl) ⟨by show _ ≤ 601024; omega, by show _ ≤ 7293034; omega⟩ dL_law_2354) hS hw.aM (fun H2 locs2 hw1 hz1 hk1 hS1 => ?_)
  replace hw := hw.modM hw1 hz1 hk1
  replace hS := hS1
  clear hw1 hk1 hz1 hS1
  refine x_lstore [(6, .long q.1), (5, .int (thC (fun k => if k = 2 then 1 else 0) r)), (4, .int i), (3, .ref (b + 2636)), (2, .ref (b + 2628)), (1, .ref b), (0, .ref a)] C dL_law_2357 (by decide) rfl ?_
  refine x_aload_n C dL_law_2359 rfl ?_
  refine x_goR (fun ls h => x_runV (As := []) [] h C ml_L_209 (c_X12_thrown l D cA s (b + 2628) q.2) ⟨rfl, rfl, nb rfl, nb rfl⟩ rfl (M_obj hw.2.1.2.2.2.2) rfl hw.2.1.2.2.2.2 (nb rfl) ⟨by show _ ≤ 601024; omega, by show _ ≤ 7293034; omega⟩ dL_law_2360) ?_
  refine x_iload C dL_law_2363 rfl ?_
  refine x_icmp_eq 2370 C dL_law_2365 (by decide) (fun _ => ?_) (fun z => absurd ht.symm z)
  refine x_iload C dL_law_2370 rfl ?_
  refine x_if_ne 2386 C dL_law_2372 (by decide) (fun _ => ?_) (fun h0 => ?_)
  · refine x_goto 4068 C dL_law_2386 (by decide) ?_
    refine x_sub [(4, .int i), (3, .ref (b + 2636)), (2, .ref (b + 2628)), (1, .ref b), (0, .ref a)] [2, 3, 4, 5, 6] rfl ?_
    refine x_widen (k := cells + 200) (n := slots + 2000) (by omega) (by omega) ?_
    exact kk _ _ hw hS
  have ho := ho h0
  refine x_aload_n C dL_law_2375 rfl ?_
  refine x_iconst (0 : Int32) C dL_law_2376 rfl ?_
  refine x_lald C hw.2.2 in01 dL_law_2377 ?_
  refine x_lload C dL_law_2378 rfl ?_
  refine x_lcmp_eq 2386 C dL_law_2380 dL_law_2381 (by decide) (fun _ => ?_) (fun z => absurd ho z)
  refine x_goto 4068 C dL_law_2386 (by decide) ?_
  refine x_sub [(4, .int i), (3, .ref (b + 2636)), (2, .ref (b + 2628)), (1, .ref b), (0, .ref a)] [2, 3, 4, 5, 6] rfl ?_
  refine x_widen (k := cells + 200) (n := slots + 2000) (by omega) (by omega) ?_
  exact kk _ _ hw hS
set_option maxRecDepth 20000 in
set_option maxHeartbeats 4000000 in
theorem cs_38 {p : Program} {l : Launch} {e : Env} {s : State} {m : MethodId} {args : Array Value} {below : List Frame} {meth : Method} {c : Code} {Q : State → Prop} {H : Heap} {locs : List Loc} {cells slots : Nat} {D : va_G} {cA : Nat → ClassId} {a b L : Nat} {xs : Nat → Int32} {i : Int32} {ν μ : Mm} {oc : Nat → Int64} (C : xC D cA s RL cL_law 8 (some .boolean) p s m args meth c) (hG : xG l D cA s) (hNc : xNc s) (hX : va_X a L xs s s.heap) (hal : a < s.heap.size) (hw : LW D cA s b ν μ oc H) (hS : va_S (xOut s) s.heap H locs) (hcs : cells + 200 ≤ 601024 ∧ slots + 2000 ≤ 7293034) (a1 : Int32) (a2 : Int32) (r1 : vp_in (i + 1) L ∧ xs (i + 1).toNatClampNeg = a1) (r2 : vp_in (i + 2) L ∧ xs (i + 2).toNatClampNeg = a2) (r : Thr Int64) (q : Int64 × Mm) (hF : g_X11_rebates ν a1 a2 = some r) (hk : ∀ k, r = .error k → k = 1 ∨ k = 2) (hok : OkR (μ.1 1)) (hM : f_X12_rebates μ a1 a2 = q) (ht : (thC (fun k => if k = 1 then 1 else if k = 2 then 2 else 0) r) = f_X12_thrown q.2) (ho : (thC (fun k => if k = 1 then 1 else if k = 2 then 2 else 0) r) = 0 → (thO (fun q => q) oc r) 0 = q.1) (kk : ∀ (H1 : Heap) (locs1 : List Loc), LW D cA s b (thM (fun _ => ν) ν r) q.2 (thO (fun q => q) oc r) H1 → va_S (xOut s) s.heap H1 locs1 → xW p l e room_1 s m args below meth c 8 Q H1 locs1 (cells + 200) (slots + 2000) 4068 [(4, .int i), (3, .ref (b + 2636)), (2, .ref (b + 2628)), (1, .ref b), (0, .ref a)] []) : xW p l e room_1 s m args below meth c 8 Q H locs cells slots 2389 [(4, .int i), (3, .ref (b + 2636)), (2, .ref (b + 2628)), (1, .ref b), (0, .ref a)] [] := by
  refine x_aload_n C dL_law_2389 rfl ?_
  refine x_aload_n C dL_law_2390 rfl ?_
  refine x_iload C dL_law_2391 rfl ?_
  refine x_iconst (1 : Int32) C dL_law_2393 rfl ?_
  refine x_iadd C dL_law_2394 ?_
  refine x_sld C hX hal hS r1 dL_law_2395 ?_
  refine x_aload_n C dL_law_2396 rfl ?_
  refine x_iload C dL_law_2397 rfl ?_
  refine x_iconst (2 : Int32) C dL_law_2399 rfl ?_
  refine x_iadd C dL_law_2400 ?_
  refine x_sld C hX hal hS r2 dL_law_2401 ?_
  refine x_aload_n C dL_law_2402 rfl ?_
  refine x_goM (fun ls h => x_runH (As := [.ref b, .int a1, .int a2, .ref (b + 2636)]) [] h C (mw_L_rebates 331 mlk_331) (k_L_rebates l D cA s (b + 2637) b ν _ hG hNc (b + 2636) (by omega) (by omega) oc a1 a2 r hF hk) ⟨rfl, rfl, nb rfl, nb rfl⟩ rfl ⟨rfl, hw.1, hw.2.2⟩ (nb rfl) ⟨by show _ ≤ 601024; omega, by show _ ≤ 7293034; omega⟩ dL_law_2403) hS hw.aL (fun H1 locs1 hw1 hz1 hk1 hS1 => ?_)
  replace hw := hw.cls hw1 hk1
  replace hS := hS1
  clear hw1 hk1 hz1 hS1
  refine x_istore [(5, .int (thC (fun k => if k = 1 then 1 else if k = 2 then 2 else 0) r)), (4, .int i), (3, .ref (b + 2636)), (2, .ref (b + 2628)), (1, .ref b), (0, .ref a)] C dL_law_2406 (by decide) rfl ?_
  refine x_aload_n C dL_law_2408 rfl ?_
  refine x_aload_n C dL_law_2409 rfl ?_
  refine x_iload C dL_law_2410 rfl ?_
  refine x_iconst (1 : Int32) C dL_law_2412 rfl ?_
  refine x_iadd C dL_law_2413 ?_
  refine x_sld C hX hal hS r1 dL_law_2414 ?_
  refine x_aload_n C dL_law_2415 rfl ?_
  refine x_iload C dL_law_2416 rfl ?_
  refine x_iconst (2 : Int32) C dL_law_2418 rfl ?_
  refine x_iadd C dL_law_2419 ?_
  refine x_sld C hX hal hS r2 dL_law_2420 ?_
  have K := c_X12_rebates l D cA s (b + 2628) μ H1.size hok a1 a2
  rw [hM] at K
  refine x_goM (fun ls h => x_runV (As := [.int a1, .int a2]) [] h C ml_L_333 K ⟨rfl, rfl, nb rfl, nb rfl⟩ rfl (M_obj hw.2.1.2.2.2.2) rfl ⟨rfl, hw.2.1.2.2.2.2⟩ (nb rfl) ⟨by show _ ≤ 601024; omega, by show _ ≤ 7293034; omega⟩ dL_law_2421) hS hw.aM (fun H2 locs2 hw1 hz1 hk1 hS1 => ?_)
  replace hw := hw.modM hw1 hz1 hk1
  replace hS := hS1
  clear hw1 hk1 hz1 hS1
  refine x_lstore [(6, .long q.1), (5, .int (thC (fun k => if k = 1 then 1 else if k = 2 then 2 else 0) r)), (4, .int i), (3, .ref (b + 2636)), (2, .ref (b + 2628)), (1, .ref b), (0, .ref a)] C dL_law_2424 (by decide) rfl ?_
  refine x_aload_n C dL_law_2426 rfl ?_
  refine x_goR (fun ls h => x_runV (As := []) [] h C ml_L_209 (c_X12_thrown l D cA s (b + 2628) q.2) ⟨rfl, rfl, nb rfl, nb rfl⟩ rfl (M_obj hw.2.1.2.2.2.2) rfl hw.2.1.2.2.2.2 (nb rfl) ⟨by show _ ≤ 601024; omega, by show _ ≤ 7293034; omega⟩ dL_law_2427) ?_
  refine x_iload C dL_law_2430 rfl ?_
  refine x_icmp_eq 2437 C dL_law_2432 (by decide) (fun _ => ?_) (fun z => absurd ht.symm z)
  refine x_iload C dL_law_2437 rfl ?_
  refine x_if_ne 2453 C dL_law_2439 (by decide) (fun _ => ?_) (fun h0 => ?_)
  · refine x_goto 4068 C dL_law_2453 (by decide) ?_
    refine x_sub [(4, .int i), (3, .ref (b + 2636)), (2, .ref (b + 2628)), (1, .ref b), (0, .ref a)] [2, 3, 4, 5, 6] rfl ?_
    refine x_widen (k := cells + 200) (n := slots + 2000) (by omega) (by omega) ?_
    exact kk _ _ hw hS
  have ho := ho h0
  refine x_aload_n C dL_law_2442 rfl ?_
  refine x_iconst (0 : Int32) C dL_law_2443 rfl ?_
  refine x_lald C hw.2.2 in01 dL_law_2444 ?_
  refine x_lload C dL_law_2445 rfl ?_
  refine x_lcmp_eq 2453 C dL_law_2447 dL_law_2448 (by decide) (fun _ => ?_) (fun z => absurd ho z)
  refine x_goto 4068 C dL_law_2453 (by decide) ?_
  refine x_sub [(4, .int i), (3, .ref (b + 2636)), (2, .ref (b + 2628)), (1, .ref b), (0, .ref a)] [2, 3, 4, 5, 6] rfl ?_
  refine x_widen (k := cells + 200) (n := slots + 2000) (by omega) (by omega) ?_
  exact kk _ _ hw hS
set_option maxRecDepth 20000 in
set_option maxHeartbeats 4000000 in
theorem cs_39 {p : Program} {l : Launch} {e : Env} {s : State} {m : MethodId} {args : Array Value} {below : List Frame} {meth : Method} {c : Code} {Q : State → Prop} {H : Heap} {locs : List Loc} {cells slots : Nat} {D : va_G} {cA : Nat → ClassId} {a b L : Nat} {xs : Nat → Int32} {i : Int32} {ν μ : Mm} {oc : Nat → Int64} (C : xC D cA s RL cL_law 8 (some .boolean) p s m args meth c) (hG : xG l D cA s) (hNc : xNc s) (hX : va_X a L xs s s.heap) (hal : a < s.heap.size) (hw : LW D cA s b ν μ oc H) (hS : va_S (xOut s) s.heap H locs) (hcs : cells + 200 ≤ 601024 ∧ slots + 2000 ≤ 7293034) (a1 : Int32) (a2 : Int32) (a3 : Int32) (a4 : Int32) (r1 : vp_in (i + 1) L ∧ xs (i + 1).toNatClampNeg = a1) (r2 : vp_in (i + 2) L ∧ xs (i + 2).toNatClampNeg = a2) (r3 : vp_in (i + 3) L ∧ xs (i + 3).toNatClampNeg = a3) (r4 : vp_in (i + 4) L ∧ xs (i + 4).toNatClampNeg = a4) (r : Thr Int32) (q : Int32 × Mm) (hF : g_X11_quote ν a1 a2 a3 a4 = some r) (hk : ∀ k, r = .error k → k = 1 ∨ k = 2) (hM : g_X12_quote μ a1 a2 a3 a4 = some q) (ht : (thC (fun k => if k = 1 then 1 else if k = 2 then 2 else 0) r) = f_X12_thrown q.2) (ho : (thC (fun k => if k = 1 then 1 else if k = 2 then 2 else 0) r) = 0 → (thO (fun q => q.toInt64) oc r) 0 = q.1.toInt64) (kk : ∀ (H1 : Heap) (locs1 : List Loc), LW D cA s b (thM (fun _ => ν) ν r) q.2 (thO (fun q => q.toInt64) oc r) H1 → va_S (xOut s) s.heap H1 locs1 → xW p l e room_1 s m args below meth c 8 Q H1 locs1 (cells + 200) (slots + 2000) 4068 [(4, .int i), (3, .ref (b + 2636)), (2, .ref (b + 2628)), (1, .ref b), (0, .ref a)] []) : xW p l e room_1 s m args below meth c 8 Q H locs cells slots 2456 [(4, .int i), (3, .ref (b + 2636)), (2, .ref (b + 2628)), (1, .ref b), (0, .ref a)] [] := by
  refine x_aload_n C dL_law_2456 rfl ?_
  refine x_aload_n C dL_law_2457 rfl ?_
  refine x_iload C dL_law_2458 rfl ?_
  refine x_iconst (1 : Int32) C dL_law_2460 rfl ?_
  refine x_iadd C dL_law_2461 ?_
  refine x_sld C hX hal hS r1 dL_law_2462 ?_
  refine x_aload_n C dL_law_2463 rfl ?_
  refine x_iload C dL_law_2464 rfl ?_
  refine x_iconst (2 : Int32) C dL_law_2466 rfl ?_
  refine x_iadd C dL_law_2467 ?_
  refine x_sld C hX hal hS r2 dL_law_2468 ?_
  refine x_aload_n C dL_law_2469 rfl ?_
  refine x_iload C dL_law_2470 rfl ?_
  refine x_iconst (3 : Int32) C dL_law_2472 rfl ?_
  refine x_iadd C dL_law_2473 ?_
  refine x_sld C hX hal hS r3 dL_law_2474 ?_
  refine x_aload_n C dL_law_2475 rfl ?_
  refine x_iload C dL_law_2476 rfl ?_
  refine x_iconst (4 : Int32) C dL_law_2478 rfl ?_
  refine x_iadd C dL_law_2479 ?_
  refine x_sld C hX hal hS r4 dL_law_2480 ?_
  refine x_aload_n C dL_law_2481 rfl ?_
  refine x_goM (fun ls h => x_runH (As := [.ref b, .int a1, .int a2, .int a3, .int a4, .ref (b + 2636)]) [] h C (mw_L_quote 334 mlk_334) (k_L_quote l D cA s (b + 2637) b ν _ hG hNc (b + 2636) (by omega) (by omega) oc a1 a2 a3 a4 r hF hk) ⟨rfl, rfl, nb rfl, nb rfl⟩ rfl ⟨rfl, hw.1, hw.2.2⟩ (nb rfl) ⟨by show _ ≤ 601024; omega, by show _ ≤ 7293034; omega⟩ dL_law_2482) hS hw.aL (fun H1 locs1 hw1 hz1 hk1 hS1 => ?_)
  replace hw := hw.cls hw1 hk1
  replace hS := hS1
  clear hw1 hk1 hz1 hS1
  refine x_istore [(5, .int (thC (fun k => if k = 1 then 1 else if k = 2 then 2 else 0) r)), (4, .int i), (3, .ref (b + 2636)), (2, .ref (b + 2628)), (1, .ref b), (0, .ref a)] C dL_law_2485 (by decide) rfl ?_
  refine x_aload_n C dL_law_2487 rfl ?_
  refine x_aload_n C dL_law_2488 rfl ?_
  refine x_iload C dL_law_2489 rfl ?_
  refine x_iconst (1 : Int32) C dL_law_2491 rfl ?_
  refine x_iadd C dL_law_2492 ?_
  refine x_sld C hX hal hS r1 dL_law_2493 ?_
  refine x_aload_n C dL_law_2494 rfl ?_
  refine x_iload C dL_law_2495 rfl ?_
  refine x_iconst (2 : Int32) C dL_law_2497 rfl ?_
  refine x_iadd C dL_law_2498 ?_
  refine x_sld C hX hal hS r2 dL_law_2499 ?_
  refine x_aload_n C dL_law_2500 rfl ?_
  refine x_iload C dL_law_2501 rfl ?_
  refine x_iconst (3 : Int32) C dL_law_2503 rfl ?_
  refine x_iadd C dL_law_2504 ?_
  refine x_sld C hX hal hS r3 dL_law_2505 ?_
  refine x_aload_n C dL_law_2506 rfl ?_
  refine x_iload C dL_law_2507 rfl ?_
  refine x_iconst (4 : Int32) C dL_law_2509 rfl ?_
  refine x_iadd C dL_law_2510 ?_
  refine x_sld C hX hal hS r4 dL_law_2511 ?_
  refine x_goM (fun ls h => x_runV (As := [.int a1, .int a2, .int a3, .int a4]) [] h C ml_L_337 (k_X12_quote l D cA s (b + 2637) (b + 2628) μ _ hG a1 a2 a3 a4 q hM) ⟨rfl, rfl, nb rfl, nb rfl⟩ rfl (M_obj hw.2.1.2.2.2.2) rfl ⟨rfl, hw.2.1⟩ (nb rfl) ⟨by show _ ≤ 601024; omega, by show _ ≤ 7293034; omega⟩ dL_law_2512) hS hw.aM (fun H2 locs2 hw1 hz1 hk1 hS1 => ?_)
  replace hw := hw.mod hw1 hk1
  replace hS := hS1
  clear hw1 hk1 hz1 hS1
  refine x_istore [(6, .int q.1), (5, .int (thC (fun k => if k = 1 then 1 else if k = 2 then 2 else 0) r)), (4, .int i), (3, .ref (b + 2636)), (2, .ref (b + 2628)), (1, .ref b), (0, .ref a)] C dL_law_2515 (by decide) rfl ?_
  refine x_aload_n C dL_law_2517 rfl ?_
  refine x_goR (fun ls h => x_runV (As := []) [] h C ml_L_209 (c_X12_thrown l D cA s (b + 2628) q.2) ⟨rfl, rfl, nb rfl, nb rfl⟩ rfl (M_obj hw.2.1.2.2.2.2) rfl hw.2.1.2.2.2.2 (nb rfl) ⟨by show _ ≤ 601024; omega, by show _ ≤ 7293034; omega⟩ dL_law_2518) ?_
  refine x_iload C dL_law_2521 rfl ?_
  refine x_icmp_eq 2528 C dL_law_2523 (by decide) (fun _ => ?_) (fun z => absurd ht.symm z)
  refine x_iload C dL_law_2528 rfl ?_
  refine x_if_ne 2545 C dL_law_2530 (by decide) (fun _ => ?_) (fun h0 => ?_)
  · refine x_goto 4068 C dL_law_2545 (by decide) ?_
    refine x_sub [(4, .int i), (3, .ref (b + 2636)), (2, .ref (b + 2628)), (1, .ref b), (0, .ref a)] [2, 3, 4, 5, 6] rfl ?_
    refine x_widen (k := cells + 200) (n := slots + 2000) (by omega) (by omega) ?_
    exact kk _ _ hw hS
  have ho := ho h0
  refine x_aload_n C dL_law_2533 rfl ?_
  refine x_iconst (0 : Int32) C dL_law_2534 rfl ?_
  refine x_lald C hw.2.2 in01 dL_law_2535 ?_
  refine x_iload C dL_law_2536 rfl ?_
  refine x_i2l C dL_law_2538 ?_
  refine x_lcmp_eq 2545 C dL_law_2539 dL_law_2540 (by decide) (fun _ => ?_) (fun z => absurd ho z)
  refine x_goto 4068 C dL_law_2545 (by decide) ?_
  refine x_sub [(4, .int i), (3, .ref (b + 2636)), (2, .ref (b + 2628)), (1, .ref b), (0, .ref a)] [2, 3, 4, 5, 6] rfl ?_
  refine x_widen (k := cells + 200) (n := slots + 2000) (by omega) (by omega) ?_
  exact kk _ _ hw hS
set_option maxRecDepth 20000 in
set_option maxHeartbeats 4000000 in
theorem cs_40 {p : Program} {l : Launch} {e : Env} {s : State} {m : MethodId} {args : Array Value} {below : List Frame} {meth : Method} {c : Code} {Q : State → Prop} {H : Heap} {locs : List Loc} {cells slots : Nat} {D : va_G} {cA : Nat → ClassId} {a b L : Nat} {xs : Nat → Int32} {i : Int32} {ν μ : Mm} {oc : Nat → Int64} (C : xC D cA s RL cL_law 8 (some .boolean) p s m args meth c) (hG : xG l D cA s) (hNc : xNc s) (hX : va_X a L xs s s.heap) (hal : a < s.heap.size) (hw : LW D cA s b ν μ oc H) (hS : va_S (xOut s) s.heap H locs) (hcs : cells + 200 ≤ 601024 ∧ slots + 2000 ≤ 7293034) (a1 : Int32) (a2 : Int32) (r1 : vp_in (i + 1) L ∧ xs (i + 1).toNatClampNeg = a1) (r2 : vp_in (i + 2) L ∧ xs (i + 2).toNatClampNeg = a2) (r : Thr Int32) (q : Int32 × Mm) (hF : g_X11_callsToRebate ν a1 a2 = some r) (hk : ∀ k, r = .error k → k = 1 ∨ k = 2) (hM : g_X12_callsToRebate μ a1 a2 = some q) (ht : (thC (fun k => if k = 1 then 1 else if k = 2 then 2 else 0) r) = f_X12_thrown q.2) (ho : (thC (fun k => if k = 1 then 1 else if k = 2 then 2 else 0) r) = 0 → (thO (fun q => q.toInt64) oc r) 0 = q.1.toInt64) (kk : ∀ (H1 : Heap) (locs1 : List Loc), LW D cA s b (thM (fun _ => ν) ν r) q.2 (thO (fun q => q.toInt64) oc r) H1 → va_S (xOut s) s.heap H1 locs1 → xW p l e room_1 s m args below meth c 8 Q H1 locs1 (cells + 200) (slots + 2000) 4068 [(4, .int i), (3, .ref (b + 2636)), (2, .ref (b + 2628)), (1, .ref b), (0, .ref a)] []) : xW p l e room_1 s m args below meth c 8 Q H locs cells slots 2548 [(4, .int i), (3, .ref (b + 2636)), (2, .ref (b + 2628)), (1, .ref b), (0, .ref a)] [] := by
  refine x_aload_n C dL_law_2548 rfl ?_
  refine x_aload_n C dL_law_2549 rfl ?_
  refine x_iload C dL_law_2550 rfl ?_
  refine x_iconst (1 : Int32) C dL_law_2552 rfl ?_
  refine x_iadd C dL_law_2553 ?_
  refine x_sld C hX hal hS r1 dL_law_2554 ?_
  refine x_aload_n C dL_law_2555 rfl ?_
  refine x_iload C dL_law_2556 rfl ?_
  refine x_iconst (2 : Int32) C dL_law_2558 rfl ?_
  refine x_iadd C dL_law_2559 ?_
  refine x_sld C hX hal hS r2 dL_law_2560 ?_
  refine x_aload_n C dL_law_2561 rfl ?_
  refine x_goM (fun ls h => x_runH (As := [.ref b, .int a1, .int a2, .ref (b + 2636)]) [] h C (mw_L_callsToRebate 338 mlk_338) (k_L_callsToRebate l D cA s (b + 2637) b ν _ hG hNc (b + 2636) (by omega) (by omega) oc a1 a2 r hF hk) ⟨rfl, rfl, nb rfl, nb rfl⟩ rfl ⟨rfl, hw.1, hw.2.2⟩ (nb rfl) ⟨by show _ ≤ 601024; omega, by show _ ≤ 7293034; omega⟩ dL_law_2562) hS hw.aL (fun H1 locs1 hw1 hz1 hk1 hS1 => ?_)
  replace hw := hw.cls hw1 hk1
  replace hS := hS1
  clear hw1 hk1 hz1 hS1
  refine x_istore [(5, .int (thC (fun k => if k = 1 then 1 else if k = 2 then 2 else 0) r)), (4, .int i), (3, .ref (b + 2636)), (2, .ref (b + 2628)), (1, .ref b), (0, .ref a)] C dL_law_2565 (by decide) rfl ?_
  refine x_aload_n C dL_law_2567 rfl ?_
  refine x_aload_n C dL_law_2568 rfl ?_
  refine x_iload C dL_law_2569 rfl ?_
  refine x_iconst (1 : Int32) C dL_law_2571 rfl ?_
  refine x_iadd C dL_law_2572 ?_
  refine x_sld C hX hal hS r1 dL_law_2573 ?_
  refine x_aload_n C dL_law_2574 rfl ?_
  refine x_iload C dL_law_2575 rfl ?_
  refine x_iconst (2 : Int32) C dL_law_2577 rfl ?_
  refine x_iadd C dL_law_2578 ?_
  refine x_sld C hX hal hS r2 dL_law_2579 ?_
  refine x_goM (fun ls h => x_runV (As := [.int a1, .int a2]) [] h C ml_L_340 (k_X12_callsToRebate l D cA s (b + 2637) (b + 2628) μ _ hG a1 a2 q hM) ⟨rfl, rfl, nb rfl, nb rfl⟩ rfl (M_obj hw.2.1.2.2.2.2) rfl ⟨rfl, hw.2.1⟩ (nb rfl) ⟨by show _ ≤ 601024; omega, by show _ ≤ 7293034; omega⟩ dL_law_2580) hS hw.aM (fun H2 locs2 hw1 hz1 hk1 hS1 => ?_)
  replace hw := hw.mod hw1 hk1
  replace hS := hS1
  clear hw1 hk1 hz1 hS1
  refine x_istore [(6, .int q.1), (5, .int (thC (fun k => if k = 1 then 1 else if k = 2 then 2 else 0) r)), (4, .int i), (3, .ref (b + 2636)), (2, .ref (b + 2628)), (1, .ref b), (0, .ref a)] C dL_law_2583 (by decide) rfl ?_
  refine x_aload_n C dL_law_2585 rfl ?_
  refine x_goR (fun ls h => x_runV (As := []) [] h C ml_L_209 (c_X12_thrown l D cA s (b + 2628) q.2) ⟨rfl, rfl, nb rfl, nb rfl⟩ rfl (M_obj hw.2.1.2.2.2.2) rfl hw.2.1.2.2.2.2 (nb rfl) ⟨by show _ ≤ 601024; omega, by show _ ≤ 7293034; omega⟩ dL_law_2586) ?_
  refine x_iload C dL_law_2589 rfl ?_
  refine x_icmp_eq 2596 C dL_law_2591 (by decide) (fun _ => ?_) (fun z => absurd ht.symm z)
  refine x_iload C dL_law_2596 rfl ?_
  refine x_if_ne 2613 C dL_law_2598 (by decide) (fun _ => ?_) (fun h0 => ?_)
  · refine x_goto 4068 C dL_law_2613 (by decide) ?_
    refine x_sub [(4, .int i), (3, .ref (b + 2636)), (2, .ref (b + 2628)), (1, .ref b), (0, .ref a)] [2, 3, 4, 5, 6] rfl ?_
    refine x_widen (k := cells + 200) (n := slots + 2000) (by omega) (by omega) ?_
    exact kk _ _ hw hS
  have ho := ho h0
  refine x_aload_n C dL_law_2601 rfl ?_
  refine x_iconst (0 : Int32) C dL_law_2602 rfl ?_
  refine x_lald C hw.2.2 in01 dL_law_2603 ?_
  refine x_iload C dL_law_2604 rfl ?_
  refine x_i2l C dL_law_2606 ?_
  refine x_lcmp_eq 2613 C dL_law_2607 dL_law_2608 (by decide) (fun _ => ?_) (fun z => absurd ho z)
  refine x_goto 4068 C dL_law_2613 (by decide) ?_
  refine x_sub [(4, .int i), (3, .ref (b + 2636)), (2, .ref (b + 2628)), (1, .ref b), (0, .ref a)] [2, 3, 4, 5, 6] rfl ?_
  refine x_widen (k := cells + 200) (n := slots + 2000) (by omega) (by omega) ?_
  exact kk _ _ hw hS
set_option maxRecDepth 20000 in
set_option maxHeartbeats 4000000 in
theorem cs_41 {p : Program} {l : Launch} {e : Env} {s : State} {m : MethodId} {args : Array Value} {below : List Frame} {meth : Method} {c : Code} {Q : State → Prop} {H : Heap} {locs : List Loc} {cells slots : Nat} {D : va_G} {cA : Nat → ClassId} {a b L : Nat} {xs : Nat → Int32} {i : Int32} {ν μ : Mm} {oc : Nat → Int64} (C : xC D cA s RL cL_law 8 (some .boolean) p s m args meth c) (hG : xG l D cA s) (hNc : xNc s) (hX : va_X a L xs s s.heap) (hal : a < s.heap.size) (hw : LW D cA s b ν μ oc H) (hS : va_S (xOut s) s.heap H locs) (hcs : cells + 200 ≤ 601024 ∧ slots + 2000 ≤ 7293034) (a1 : Int32) (r1 : vp_in (i + 1) L ∧ xs (i + 1).toNatClampNeg = a1) (r : Thr Int32) (q : Int32 × Mm) (hF : g_X11_worth ν a1 = some r) (hk : ∀ k, r = .error k → k = 1) (hM : g_X12_worth μ a1 = some q) (ht : (thC (fun k => if k = 1 then 1 else 0) r) = f_X12_thrown q.2) (ho : (thC (fun k => if k = 1 then 1 else 0) r) = 0 → (thO (fun q => q.toInt64) oc r) 0 = q.1.toInt64) (kk : ∀ (H1 : Heap) (locs1 : List Loc), LW D cA s b (thM (fun _ => ν) ν r) q.2 (thO (fun q => q.toInt64) oc r) H1 → va_S (xOut s) s.heap H1 locs1 → xW p l e room_1 s m args below meth c 8 Q H1 locs1 (cells + 200) (slots + 2000) 4068 [(4, .int i), (3, .ref (b + 2636)), (2, .ref (b + 2628)), (1, .ref b), (0, .ref a)] []) : xW p l e room_1 s m args below meth c 8 Q H locs cells slots 2616 [(4, .int i), (3, .ref (b + 2636)), (2, .ref (b + 2628)), (1, .ref b), (0, .ref a)] [] := by
  refine x_aload_n C dL_law_2616 rfl ?_
  refine x_aload_n C dL_law_2617 rfl ?_
  refine x_iload C dL_law_2618 rfl ?_
  refine x_iconst (1 : Int32) C dL_law_2620 rfl ?_
  refine x_iadd C dL_law_2621 ?_
  refine x_sld C hX hal hS r1 dL_law_2622 ?_
  refine x_aload_n C dL_law_2623 rfl ?_
  refine x_goM (fun ls h => x_runH (As := [.ref b, .int a1, .ref (b + 2636)]) [] h C (mw_L_worth 341 mlk_341) (k_L_worth l D cA s (b + 2637) b ν _ hG hNc (b + 2636) (by omega) (by omega) oc a1 r hF hk) ⟨rfl, rfl, nb rfl, nb rfl⟩ rfl ⟨rfl, hw.1, hw.2.2⟩ (nb rfl) ⟨by show _ ≤ 601024; omega, by show _ ≤ 7293034; omega⟩ dL_law_2624) hS hw.aL (fun H1 locs1 hw1 hz1 hk1 hS1 => ?_)
  replace hw := hw.cls hw1 hk1
  replace hS := hS1
  clear hw1 hk1 hz1 hS1
  refine x_istore [(5, .int (thC (fun k => if k = 1 then 1 else 0) r)), (4, .int i), (3, .ref (b + 2636)), (2, .ref (b + 2628)), (1, .ref b), (0, .ref a)] C dL_law_2627 (by decide) rfl ?_
  refine x_aload_n C dL_law_2629 rfl ?_
  refine x_aload_n C dL_law_2630 rfl ?_
  refine x_iload C dL_law_2631 rfl ?_
  refine x_iconst (1 : Int32) C dL_law_2633 rfl ?_
  refine x_iadd C dL_law_2634 ?_
  refine x_sld C hX hal hS r1 dL_law_2635 ?_
  refine x_goM (fun ls h => x_runV (As := [.int a1]) [] h C ml_L_343 (k_X12_worth l D cA s (b + 2637) (b + 2628) μ _ hG a1 q hM) ⟨rfl, rfl, nb rfl, nb rfl⟩ rfl (M_obj hw.2.1.2.2.2.2) rfl ⟨rfl, hw.2.1⟩ (nb rfl) ⟨by show _ ≤ 601024; omega, by show _ ≤ 7293034; omega⟩ dL_law_2636) hS hw.aM (fun H2 locs2 hw1 hz1 hk1 hS1 => ?_)
  replace hw := hw.mod hw1 hk1
  replace hS := hS1
  clear hw1 hk1 hz1 hS1
  refine x_istore [(6, .int q.1), (5, .int (thC (fun k => if k = 1 then 1 else 0) r)), (4, .int i), (3, .ref (b + 2636)), (2, .ref (b + 2628)), (1, .ref b), (0, .ref a)] C dL_law_2639 (by decide) rfl ?_
  refine x_aload_n C dL_law_2641 rfl ?_
  refine x_goR (fun ls h => x_runV (As := []) [] h C ml_L_209 (c_X12_thrown l D cA s (b + 2628) q.2) ⟨rfl, rfl, nb rfl, nb rfl⟩ rfl (M_obj hw.2.1.2.2.2.2) rfl hw.2.1.2.2.2.2 (nb rfl) ⟨by show _ ≤ 601024; omega, by show _ ≤ 7293034; omega⟩ dL_law_2642) ?_
  refine x_iload C dL_law_2645 rfl ?_
  refine x_icmp_eq 2652 C dL_law_2647 (by decide) (fun _ => ?_) (fun z => absurd ht.symm z)
  refine x_iload C dL_law_2652 rfl ?_
  refine x_if_ne 2669 C dL_law_2654 (by decide) (fun _ => ?_) (fun h0 => ?_)
  · refine x_goto 4068 C dL_law_2669 (by decide) ?_
    refine x_sub [(4, .int i), (3, .ref (b + 2636)), (2, .ref (b + 2628)), (1, .ref b), (0, .ref a)] [2, 3, 4, 5, 6] rfl ?_
    refine x_widen (k := cells + 200) (n := slots + 2000) (by omega) (by omega) ?_
    exact kk _ _ hw hS
  have ho := ho h0
  refine x_aload_n C dL_law_2657 rfl ?_
  refine x_iconst (0 : Int32) C dL_law_2658 rfl ?_
  refine x_lald C hw.2.2 in01 dL_law_2659 ?_
  refine x_iload C dL_law_2660 rfl ?_
  refine x_i2l C dL_law_2662 ?_
  refine x_lcmp_eq 2669 C dL_law_2663 dL_law_2664 (by decide) (fun _ => ?_) (fun z => absurd ho z)
  refine x_goto 4068 C dL_law_2669 (by decide) ?_
  refine x_sub [(4, .int i), (3, .ref (b + 2636)), (2, .ref (b + 2628)), (1, .ref b), (0, .ref a)] [2, 3, 4, 5, 6] rfl ?_
  refine x_widen (k := cells + 200) (n := slots + 2000) (by omega) (by omega) ?_
  exact kk _ _ hw hS
set_option maxRecDepth 20000 in
set_option maxHeartbeats 4000000 in
theorem cs_42 {p : Program} {l : Launch} {e : Env} {s : State} {m : MethodId} {args : Array Value} {below : List Frame} {meth : Method} {c : Code} {Q : State → Prop} {H : Heap} {locs : List Loc} {cells slots : Nat} {D : va_G} {cA : Nat → ClassId} {a b L : Nat} {xs : Nat → Int32} {i : Int32} {ν μ : Mm} {oc : Nat → Int64} (C : xC D cA s RL cL_law 8 (some .boolean) p s m args meth c) (hG : xG l D cA s) (hNc : xNc s) (hX : va_X a L xs s s.heap) (hal : a < s.heap.size) (hw : LW D cA s b ν μ oc H) (hS : va_S (xOut s) s.heap H locs) (hcs : cells + 200 ≤ 601024 ∧ slots + 2000 ≤ 7293034) (a1 : Int32) (r1 : vp_in (i + 1) L ∧ xs (i + 1).toNatClampNeg = a1) (r : Thr Int32) (q : Int32 × Mm) (hF : g_X11_busiestYear ν a1 = some r) (hk : ∀ k, r = .error k → k = 1) (hok : OkR (μ.1 1)) (hM : f_X12_busiestYear μ a1 = q) (ht : (thC (fun k => if k = 1 then 1 else 0) r) = f_X12_thrown q.2) (ho : (thC (fun k => if k = 1 then 1 else 0) r) = 0 → (thO (fun q => q.toInt64) oc r) 0 = q.1.toInt64) (kk : ∀ (H1 : Heap) (locs1 : List Loc), LW D cA s b (thM (fun _ => ν) ν r) q.2 (thO (fun q => q.toInt64) oc r) H1 → va_S (xOut s) s.heap H1 locs1 → xW p l e room_1 s m args below meth c 8 Q H1 locs1 (cells + 200) (slots + 2000) 4068 [(4, .int i), (3, .ref (b + 2636)), (2, .ref (b + 2628)), (1, .ref b), (0, .ref a)] []) : xW p l e room_1 s m args below meth c 8 Q H locs cells slots 2672 [(4, .int i), (3, .ref (b + 2636)), (2, .ref (b + 2628)), (1, .ref b), (0, .ref a)] [] := by
  refine x_aload_n C dL_law_2672 rfl ?_
  refine x_aload_n C dL_law_2673 rfl ?_
  refine x_iload C dL_law_2674 rfl ?_
  refine x_iconst (1 : Int32) C dL_law_2676 rfl ?_
  refine x_iadd C dL_law_2677 ?_
  refine x_sld C hX hal hS r1 dL_law_2678 ?_
  refine x_aload_n C dL_law_2679 rfl ?_
  refine x_goM (fun ls h => x_runH (As := [.ref b, .int a1, .ref (b + 2636)]) [] h C (mw_L_busiestYear 344 mlk_344) (k_L_busiestYear l D cA s (b + 2637) b ν _ hG hNc (b + 2636) (by omega) (by omega) oc a1 r hF hk) ⟨rfl, rfl, nb rfl, nb rfl⟩ rfl ⟨rfl, hw.1, hw.2.2⟩ (nb rfl) ⟨by show _ ≤ 601024; omega, by show _ ≤ 7293034; omega⟩ dL_law_2680) hS hw.aL (fun H1 locs1 hw1 hz1 hk1 hS1 => ?_)
  replace hw := hw.cls hw1 hk1
  replace hS := hS1
  clear hw1 hk1 hz1 hS1
  refine x_istore [(5, .int (thC (fun k => if k = 1 then 1 else 0) r)), (4, .int i), (3, .ref (b + 2636)), (2, .ref (b + 2628)), (1, .ref b), (0, .ref a)] C dL_law_2683 (by decide) rfl ?_
  refine x_aload_n C dL_law_2685 rfl ?_
  refine x_aload_n C dL_law_2686 rfl ?_
  refine x_iload C dL_law_2687 rfl ?_
  refine x_iconst (1 : Int32) C dL_law_2689 rfl ?_
  refine x_iadd C dL_law_2690 ?_
  refine x_sld C hX hal hS r1 dL_law_2691 ?_
  have K := c_X12_busiestYear l D cA s (b + 2628) μ H1.size hok a1
  rw [hM] at K
  refine x_goM (fun ls h => x_runV (As := [.int a1]) [] h C ml_L_346 K ⟨rfl, rfl, nb rfl, nb rfl⟩ rfl (M_obj hw.2.1.2.2.2.2) rfl ⟨rfl, hw.2.1.2.2.2.2⟩ (nb rfl) ⟨by show _ ≤ 601024; omega, by show _ ≤ 7293034; omega⟩ dL_law_2692) hS hw.aM (fun H2 locs2 hw1 hz1 hk1 hS1 => ?_)
  replace hw := hw.modM hw1 hz1 hk1
  replace hS := hS1
  clear hw1 hk1 hz1 hS1
  refine x_istore [(6, .int q.1), (5, .int (thC (fun k => if k = 1 then 1 else 0) r)), (4, .int i), (3, .ref (b + 2636)), (2, .ref (b + 2628)), (1, .ref b), (0, .ref a)] C dL_law_2695 (by decide) rfl ?_
  refine x_aload_n C dL_law_2697 rfl ?_
  refine x_goR (fun ls h => x_runV (As := []) [] h C ml_L_209 (c_X12_thrown l D cA s (b + 2628) q.2) ⟨rfl, rfl, nb rfl, nb rfl⟩ rfl (M_obj hw.2.1.2.2.2.2) rfl hw.2.1.2.2.2.2 (nb rfl) ⟨by show _ ≤ 601024; omega, by show _ ≤ 7293034; omega⟩ dL_law_2698) ?_
  refine x_iload C dL_law_2701 rfl ?_
  refine x_icmp_eq 2708 C dL_law_2703 (by decide) (fun _ => ?_) (fun z => absurd ht.symm z)
  refine x_iload C dL_law_2708 rfl ?_
  refine x_if_ne 2725 C dL_law_2710 (by decide) (fun _ => ?_) (fun h0 => ?_)
  · refine x_goto 4068 C dL_law_2725 (by decide) ?_
    refine x_sub [(4, .int i), (3, .ref (b + 2636)), (2, .ref (b + 2628)), (1, .ref b), (0, .ref a)] [2, 3, 4, 5, 6] rfl ?_
    refine x_widen (k := cells + 200) (n := slots + 2000) (by omega) (by omega) ?_
    exact kk _ _ hw hS
  have ho := ho h0
  refine x_aload_n C dL_law_2713 rfl ?_
  refine x_iconst (0 : Int32) C dL_law_2714 rfl ?_
  refine x_lald C hw.2.2 in01 dL_law_2715 ?_
  refine x_iload C dL_law_2716 rfl ?_
  refine x_i2l C dL_law_2718 ?_
  refine x_lcmp_eq 2725 C dL_law_2719 dL_law_2720 (by decide) (fun _ => ?_) (fun z => absurd ho z)
  refine x_goto 4068 C dL_law_2725 (by decide) ?_
  refine x_sub [(4, .int i), (3, .ref (b + 2636)), (2, .ref (b + 2628)), (1, .ref b), (0, .ref a)] [2, 3, 4, 5, 6] rfl ?_
  refine x_widen (k := cells + 200) (n := slots + 2000) (by omega) (by omega) ?_
  exact kk _ _ hw hS
