set_option maxRecDepth 20000 in
set_option maxHeartbeats 4000000 in
theorem cs_43 {p : Program} {l : Launch} {e : Env} {s : State} {m : MethodId} {args : Array Value} {below : List Frame} {meth : Method} {c : Code} {Q : State → Prop} {H : Heap} {locs : List Loc} {cells slots : Nat} {D : va_G} {cA : Nat → ClassId} {a b L : Nat} {xs : Nat → Int32} {i : Int32} {ν μ : Mm} {oc : Nat → Int64} (C : xC D cA s RL cL_law 8 (some .boolean) p s m args meth c) (hG : xG l D cA s) (hNc : xNc s) (hX : va_X a L xs s s.heap) (hal : a < s.heap.size) (hw : LW D cA s b ν μ oc H) (hS : va_S (xOut s) s.heap H locs) (hcs : cells + 200 ≤ 601024 ∧ slots + 2000 ≤ 7293034) (a1 : Int32) (a2 : Int32) (a3 : Int32) (a4 : Int32) (r1 : vp_in (i + 1) L ∧ xs (i + 1).toNatClampNeg = a1) (r2 : vp_in (i + 2) L ∧ xs (i + 2).toNatClampNeg = a2) (r3 : vp_in (i + 3) L ∧ xs (i + 3).toNatClampNeg = a3) (r4 : vp_in (i + 4) L ∧ xs (i + 4).toNatClampNeg = a4) (r : Thr (Int32 × Mm)) (q : Int32 × Mm) (hF : g_X11_addCall ν a1 a2 a3 a4 = some r) (hk : ∀ k, r = .error k → k = 1 ∨ k = 2 ∨ k = 3) (hM : g_X12_addCall μ a1 a2 a3 a4 = some q) (ht : (thC (fun k => if k = 1 then 1 else if k = 2 then 2 else if k = 3 then 3 else 0) r) = f_X12_thrown q.2) (ho : (thC (fun k => if k = 1 then 1 else if k = 2 then 2 else if k = 3 then 3 else 0) r) = 0 → (thO (fun q => q.1.toInt64) oc r) 0 = q.1.toInt64) (kk : ∀ (H1 : Heap) (locs1 : List Loc), LW D cA s b (thM (fun q => q.2) ν r) q.2 (thO (fun q => q.1.toInt64) oc r) H1 → va_S (xOut s) s.heap H1 locs1 → xW p l e room_1 s m args below meth c 8 Q H1 locs1 (cells + 200) (slots + 2000) 4068 [(4, .int i), (3, .ref (b + 2636)), (2, .ref (b + 2628)), (1, .ref b), (0, .ref a)] []) : xW p l e room_1 s m args below meth c 8 Q H locs cells slots 2728 [(4, .int i), (3, .ref (b + 2636)), (2, .ref (b + 2628)), (1, .ref b), (0, .ref a)] [] := by
  refine x_aload_n C dL_law_2728 rfl ?_
  refine x_aload_n C dL_law_2729 rfl ?_
  refine x_iload C dL_law_2730 rfl ?_
  refine x_iconst (1 : Int32) C dL_law_2732 rfl ?_
  refine x_iadd C dL_law_2733 ?_
  refine x_sld C hX hal hS r1 dL_law_2734 ?_
  refine x_aload_n C dL_law_2735 rfl ?_
  refine x_iload C dL_law_2736 rfl ?_
  refine x_iconst (2 : Int32) C dL_law_2738 rfl ?_
  refine x_iadd C dL_law_2739 ?_
  refine x_sld C hX hal hS r2 dL_law_2740 ?_
  refine x_aload_n C dL_law_2741 rfl ?_
  refine x_iload C dL_law_2742 rfl ?_
  refine x_iconst (3 : Int32) C dL_law_2744 rfl ?_
  refine x_iadd C dL_law_2745 ?_
  refine x_sld C hX hal hS r3 dL_law_2746 ?_
  refine x_aload_n C dL_law_2747 rfl ?_
  refine x_iload C dL_law_2748 rfl ?_
  refine x_iconst (4 : Int32) C dL_law_2750 rfl ?_
  refine x_iadd C dL_law_2751 ?_
  refine x_sld C hX hal hS r4 dL_law_2752 ?_
  refine x_aload_n C dL_law_2753 rfl ?_
  refine x_goM (fun ls h => x_runH (As := [.ref b, .int a1, .int a2, .int a3, .int a4, .ref (b + 2636)]) [] h C (mw_L_addCall 347 mlk_347) (k_L_addCall l D cA s (b + 2637) b ν _ hG hNc (b + 2636) (by omega) (by omega) oc a1 a2 a3 a4 r hF hk) ⟨rfl, rfl, nb rfl, nb rfl⟩ rfl ⟨rfl, hw.1, hw.2.2⟩ (nb rfl) ⟨by show _ ≤ 601024; omega, by show _ ≤ 7293034; omega⟩ dL_law_2754) hS hw.aL (fun H1 locs1 hw1 hz1 hk1 hS1 => ?_)
  replace hw := hw.cls hw1 hk1
  replace hS := hS1
  clear hw1 hk1 hz1 hS1
  refine x_istore [(5, .int (thC (fun k => if k = 1 then 1 else if k = 2 then 2 else if k = 3 then 3 else 0) r)), (4, .int i), (3, .ref (b + 2636)), (2, .ref (b + 2628)), (1, .ref b), (0, .ref a)] C dL_law_2757 (by decide) rfl ?_
  refine x_aload_n C dL_law_2759 rfl ?_
  refine x_aload_n C dL_law_2760 rfl ?_
  refine x_iload C dL_law_2761 rfl ?_
  refine x_iconst (1 : Int32) C dL_law_2763 rfl ?_
  refine x_iadd C dL_law_2764 ?_
  refine x_sld C hX hal hS r1 dL_law_2765 ?_
  refine x_aload_n C dL_law_2766 rfl ?_
  refine x_iload C dL_law_2767 rfl ?_
  refine x_iconst (2 : Int32) C dL_law_2769 rfl ?_
  refine x_iadd C dL_law_2770 ?_
  refine x_sld C hX hal hS r2 dL_law_2771 ?_
  refine x_aload_n C dL_law_2772 rfl ?_
  refine x_iload C dL_law_2773 rfl ?_
  refine x_iconst (3 : Int32) C dL_law_2775 rfl ?_
  refine x_iadd C dL_law_2776 ?_
  refine x_sld C hX hal hS r3 dL_law_2777 ?_
  refine x_aload_n C dL_law_2778 rfl ?_
  refine x_iload C dL_law_2779 rfl ?_
  refine x_iconst (4 : Int32) C dL_law_2781 rfl ?_
  refine x_iadd C dL_law_2782 ?_
  refine x_sld C hX hal hS r4 dL_law_2783 ?_
  refine x_goM (fun ls h => x_runV (As := [.int a1, .int a2, .int a3, .int a4]) [] h C ml_L_349 (k_X12_addCall l D cA s (b + 2637) (b + 2628) μ _ hG a1 a2 a3 a4 q hM) ⟨rfl, rfl, nb rfl, nb rfl⟩ rfl (M_obj hw.2.1.2.2.2.2) rfl ⟨rfl, hw.2.1⟩ (nb rfl) ⟨by show _ ≤ 601024; omega, by show _ ≤ 7293034; omega⟩ dL_law_2784) hS hw.aM (fun H2 locs2 hw1 hz1 hk1 hS1 => ?_)
  replace hw := hw.mod hw1 hk1
  replace hS := hS1
  clear hw1 hk1 hz1 hS1
  refine x_istore [(6, .int q.1), (5, .int (thC (fun k => if k = 1 then 1 else if k = 2 then 2 else if k = 3 then 3 else 0) r)), (4, .int i), (3, .ref (b + 2636)), (2, .ref (b + 2628)), (1, .ref b), (0, .ref a)] C dL_law_2787 (by decide) rfl ?_
  refine x_aload_n C dL_law_2789 rfl ?_
  refine x_goR (fun ls h => x_runV (As := []) [] h C ml_L_209 (c_X12_thrown l D cA s (b + 2628) q.2) ⟨rfl, rfl, nb rfl, nb rfl⟩ rfl (M_obj hw.2.1.2.2.2.2) rfl hw.2.1.2.2.2.2 (nb rfl) ⟨by show _ ≤ 601024; omega, by show _ ≤ 7293034; omega⟩ dL_law_2790) ?_
  refine x_iload C dL_law_2793 rfl ?_
  refine x_icmp_eq 2800 C dL_law_2795 (by decide) (fun _ => ?_) (fun z => absurd ht.symm z)
  refine x_iload C dL_law_2800 rfl ?_
  refine x_if_ne 2817 C dL_law_2802 (by decide) (fun _ => ?_) (fun h0 => ?_)
  · refine x_goto 4068 C dL_law_2817 (by decide) ?_
    refine x_sub [(4, .int i), (3, .ref (b + 2636)), (2, .ref (b + 2628)), (1, .ref b), (0, .ref a)] [2, 3, 4, 5, 6] rfl ?_
    refine x_widen (k := cells + 200) (n := slots + 2000) (by omega) (by omega) ?_
    exact kk _ _ hw hS
  have ho := ho h0
  refine x_aload_n C dL_law_2805 rfl ?_
  refine x_iconst (0 : Int32) C dL_law_2806 rfl ?_
  refine x_lald C hw.2.2 in01 dL_law_2807 ?_
  refine x_iload C dL_law_2808 rfl ?_
  refine x_i2l C dL_law_2810 ?_
  refine x_lcmp_eq 2817 C dL_law_2811 dL_law_2812 (by decide) (fun _ => ?_) (fun z => absurd ho z)
  refine x_goto 4068 C dL_law_2817 (by decide) ?_
  refine x_sub [(4, .int i), (3, .ref (b + 2636)), (2, .ref (b + 2628)), (1, .ref b), (0, .ref a)] [2, 3, 4, 5, 6] rfl ?_
  refine x_widen (k := cells + 200) (n := slots + 2000) (by omega) (by omega) ?_
  exact kk _ _ hw hS
set_option maxRecDepth 20000 in
set_option maxHeartbeats 4000000 in
theorem cs_44 {p : Program} {l : Launch} {e : Env} {s : State} {m : MethodId} {args : Array Value} {below : List Frame} {meth : Method} {c : Code} {Q : State → Prop} {H : Heap} {locs : List Loc} {cells slots : Nat} {D : va_G} {cA : Nat → ClassId} {a b L : Nat} {xs : Nat → Int32} {i : Int32} {ν μ : Mm} {oc : Nat → Int64} (C : xC D cA s RL cL_law 8 (some .boolean) p s m args meth c) (hG : xG l D cA s) (hNc : xNc s) (hX : va_X a L xs s s.heap) (hal : a < s.heap.size) (hw : LW D cA s b ν μ oc H) (hS : va_S (xOut s) s.heap H locs) (hcs : cells + 200 ≤ 601024 ∧ slots + 2000 ≤ 7293034) (a1 : Int32) (r1 : vp_in (i + 1) L ∧ xs (i + 1).toNatClampNeg = a1) (r : Thr (Int32 × Mm)) (q : Int32 × Mm) (hF : g_X11_cancel ν a1 = some r) (hk : ∀ k, r = .error k → k = 1 ∨ k = 3) (hM : g_X12_cancel μ a1 = some q) (ht : (thC (fun k => if k = 1 then 1 else if k = 3 then 2 else 0) r) = f_X12_thrown q.2) (ho : (thC (fun k => if k = 1 then 1 else if k = 3 then 2 else 0) r) = 0 → (thO (fun q => q.1.toInt64) oc r) 0 = q.1.toInt64) (kk : ∀ (H1 : Heap) (locs1 : List Loc), LW D cA s b (thM (fun q => q.2) ν r) q.2 (thO (fun q => q.1.toInt64) oc r) H1 → va_S (xOut s) s.heap H1 locs1 → xW p l e room_1 s m args below meth c 8 Q H1 locs1 (cells + 200) (slots + 2000) 4068 [(4, .int i), (3, .ref (b + 2636)), (2, .ref (b + 2628)), (1, .ref b), (0, .ref a)] []) : xW p l e room_1 s m args below meth c 8 Q H locs cells slots 2820 [(4, .int i), (3, .ref (b + 2636)), (2, .ref (b + 2628)), (1, .ref b), (0, .ref a)] [] := by
  refine x_aload_n C dL_law_2820 rfl ?_
  refine x_aload_n C dL_law_2821 rfl ?_
  refine x_iload C dL_law_2822 rfl ?_
  refine x_iconst (1 : Int32) C dL_law_2824 rfl ?_
  refine x_iadd C dL_law_2825 ?_
  refine x_sld C hX hal hS r1 dL_law_2826 ?_
  refine x_aload_n C dL_law_2827 rfl ?_
  refine x_goM (fun ls h => x_runH (As := [.ref b, .int a1, .ref (b + 2636)]) [] h C (mw_L_cancel 350 mlk_350) (k_L_cancel l D cA s (b + 2637) b ν _ hG hNc (b + 2636) (by omega) (by omega) oc a1 r hF hk) ⟨rfl, rfl, nb rfl, nb rfl⟩ rfl ⟨rfl, hw.1, hw.2.2⟩ (nb rfl) ⟨by show _ ≤ 601024; omega, by show _ ≤ 7293034; omega⟩ dL_law_2828) hS hw.aL (fun H1 locs1 hw1 hz1 hk1 hS1 => ?_)
  replace hw := hw.cls hw1 hk1
  replace hS := hS1
  clear hw1 hk1 hz1 hS1
  refine x_istore [(5, .int (thC (fun k => if k = 1 then 1 else if k = 3 then 2 else 0) r)), (4, .int i), (3, .ref (b + 2636)), (2, .ref (b + 2628)), (1, .ref b), (0, .ref a)] C dL_law_2831 (by decide) rfl ?_
  refine x_aload_n C dL_law_2833 rfl ?_
  refine x_aload_n C dL_law_2834 rfl ?_
  refine x_iload C dL_law_2835 rfl ?_
  refine x_iconst (1 : Int32) C dL_law_2837 rfl ?_
  refine x_iadd C dL_law_2838 ?_
  refine x_sld C hX hal hS r1 dL_law_2839 ?_
  refine x_goM (fun ls h => x_runV (As := [.int a1]) [] h C ml_L_352 (k_X12_cancel l D cA s (b + 2637) (b + 2628) μ _ hG a1 q hM) ⟨rfl, rfl, nb rfl, nb rfl⟩ rfl (M_obj hw.2.1.2.2.2.2) rfl ⟨rfl, hw.2.1⟩ (nb rfl) ⟨by show _ ≤ 601024; omega, by show _ ≤ 7293034; omega⟩ dL_law_2840) hS hw.aM (fun H2 locs2 hw1 hz1 hk1 hS1 => ?_)
  replace hw := hw.mod hw1 hk1
  replace hS := hS1
  clear hw1 hk1 hz1 hS1
  refine x_istore [(6, .int q.1), (5, .int (thC (fun k => if k = 1 then 1 else if k = 3 then 2 else 0) r)), (4, .int i), (3, .ref (b + 2636)), (2, .ref (b + 2628)), (1, .ref b), (0, .ref a)] C dL_law_2843 (by decide) rfl ?_
  refine x_aload_n C dL_law_2845 rfl ?_
  refine x_goR (fun ls h => x_runV (As := []) [] h C ml_L_209 (c_X12_thrown l D cA s (b + 2628) q.2) ⟨rfl, rfl, nb rfl, nb rfl⟩ rfl (M_obj hw.2.1.2.2.2.2) rfl hw.2.1.2.2.2.2 (nb rfl) ⟨by show _ ≤ 601024; omega, by show _ ≤ 7293034; omega⟩ dL_law_2846) ?_
  refine x_iload C dL_law_2849 rfl ?_
  refine x_icmp_eq 2856 C dL_law_2851 (by decide) (fun _ => ?_) (fun z => absurd ht.symm z)
  refine x_iload C dL_law_2856 rfl ?_
  refine x_if_ne 2873 C dL_law_2858 (by decide) (fun _ => ?_) (fun h0 => ?_)
  · refine x_goto 4068 C dL_law_2873 (by decide) ?_
    refine x_sub [(4, .int i), (3, .ref (b + 2636)), (2, .ref (b + 2628)), (1, .ref b), (0, .ref a)] [2, 3, 4, 5, 6] rfl ?_
    refine x_widen (k := cells + 200) (n := slots + 2000) (by omega) (by omega) ?_
    exact kk _ _ hw hS
  have ho := ho h0
  refine x_aload_n C dL_law_2861 rfl ?_
  refine x_iconst (0 : Int32) C dL_law_2862 rfl ?_
  refine x_lald C hw.2.2 in01 dL_law_2863 ?_
  refine x_iload C dL_law_2864 rfl ?_
  refine x_i2l C dL_law_2866 ?_
  refine x_lcmp_eq 2873 C dL_law_2867 dL_law_2868 (by decide) (fun _ => ?_) (fun z => absurd ho z)
  refine x_goto 4068 C dL_law_2873 (by decide) ?_
  refine x_sub [(4, .int i), (3, .ref (b + 2636)), (2, .ref (b + 2628)), (1, .ref b), (0, .ref a)] [2, 3, 4, 5, 6] rfl ?_
  refine x_widen (k := cells + 200) (n := slots + 2000) (by omega) (by omega) ?_
  exact kk _ _ hw hS
set_option maxRecDepth 20000 in
set_option maxHeartbeats 4000000 in
theorem cs_45 {p : Program} {l : Launch} {e : Env} {s : State} {m : MethodId} {args : Array Value} {below : List Frame} {meth : Method} {c : Code} {Q : State → Prop} {H : Heap} {locs : List Loc} {cells slots : Nat} {D : va_G} {cA : Nat → ClassId} {a b L : Nat} {xs : Nat → Int32} {i : Int32} {ν μ : Mm} {oc : Nat → Int64} (C : xC D cA s RL cL_law 8 (some .boolean) p s m args meth c) (hG : xG l D cA s) (hNc : xNc s) (hX : va_X a L xs s s.heap) (hal : a < s.heap.size) (hw : LW D cA s b ν μ oc H) (hS : va_S (xOut s) s.heap H locs) (hcs : cells + 200 ≤ 601024 ∧ slots + 2000 ≤ 7293034) (a1 : Int32) (a2 : Int32) (r1 : vp_in (i + 1) L ∧ xs (i + 1).toNatClampNeg = a1) (r2 : vp_in (i + 2) L ∧ xs (i + 2).toNatClampNeg = a2) (r : Thr (Int32 × Mm)) (q : Int32 × Mm) (hF : g_X11_setWaste ν a1 a2 = some r) (hk : ∀ k, r = .error k → k = 1 ∨ k = 2) (hM : g_X12_setWaste μ a1 a2 = some q) (ht : (thC (fun k => if k = 1 then 1 else if k = 2 then 2 else 0) r) = f_X12_thrown q.2) (ho : (thC (fun k => if k = 1 then 1 else if k = 2 then 2 else 0) r) = 0 → (thO (fun q => q.1.toInt64) oc r) 0 = q.1.toInt64) (kk : ∀ (H1 : Heap) (locs1 : List Loc), LW D cA s b (thM (fun q => q.2) ν r) q.2 (thO (fun q => q.1.toInt64) oc r) H1 → va_S (xOut s) s.heap H1 locs1 → xW p l e room_1 s m args below meth c 8 Q H1 locs1 (cells + 200) (slots + 2000) 4068 [(4, .int i), (3, .ref (b + 2636)), (2, .ref (b + 2628)), (1, .ref b), (0, .ref a)] []) : xW p l e room_1 s m args below meth c 8 Q H locs cells slots 2876 [(4, .int i), (3, .ref (b + 2636)), (2, .ref (b + 2628)), (1, .ref b), (0, .ref a)] [] := by
  refine x_aload_n C dL_law_2876 rfl ?_
  refine x_aload_n C dL_law_2877 rfl ?_
  refine x_iload C dL_law_2878 rfl ?_
  refine x_iconst (1 : Int32) C dL_law_2880 rfl ?_
  refine x_iadd C dL_law_2881 ?_
  refine x_sld C hX hal hS r1 dL_law_2882 ?_
  refine x_aload_n C dL_law_2883 rfl ?_
  refine x_iload C dL_law_2884 rfl ?_
  refine x_iconst (2 : Int32) C dL_law_2886 rfl ?_
  refine x_iadd C dL_law_2887 ?_
  refine x_sld C hX hal hS r2 dL_law_2888 ?_
  refine x_aload_n C dL_law_2889 rfl ?_
  refine x_goM (fun ls h => x_runH (As := [.ref b, .int a1, .int a2, .ref (b + 2636)]) [] h C (mw_L_setWaste 353 mlk_353) (k_L_setWaste l D cA s (b + 2637) b ν _ hG hNc (b + 2636) (by omega) (by omega) oc a1 a2 r hF hk) ⟨rfl, rfl, nb rfl, nb rfl⟩ rfl ⟨rfl, hw.1, hw.2.2⟩ (nb rfl) ⟨by show _ ≤ 601024; omega, by show _ ≤ 7293034; omega⟩ dL_law_2890) hS hw.aL (fun H1 locs1 hw1 hz1 hk1 hS1 => ?_)
  replace hw := hw.cls hw1 hk1
  replace hS := hS1
  clear hw1 hk1 hz1 hS1
  refine x_istore [(5, .int (thC (fun k => if k = 1 then 1 else if k = 2 then 2 else 0) r)), (4, .int i), (3, .ref (b + 2636)), (2, .ref (b + 2628)), (1, .ref b), (0, .ref a)] C dL_law_2893 (by decide) rfl ?_
  refine x_aload_n C dL_law_2895 rfl ?_
  refine x_aload_n C dL_law_2896 rfl ?_
  refine x_iload C dL_law_2897 rfl ?_
  refine x_iconst (1 : Int32) C dL_law_2899 rfl ?_
  refine x_iadd C dL_law_2900 ?_
  refine x_sld C hX hal hS r1 dL_law_2901 ?_
  refine x_aload_n C dL_law_2902 rfl ?_
  refine x_iload C dL_law_2903 rfl ?_
  refine x_iconst (2 : Int32) C dL_law_2905 rfl ?_
  refine x_iadd C dL_law_2906 ?_
  refine x_sld C hX hal hS r2 dL_law_2907 ?_
  refine x_goM (fun ls h => x_runV (As := [.int a1, .int a2]) [] h C ml_L_355 (k_X12_setWaste l D cA s (b + 2637) (b + 2628) μ _ hG a1 a2 q hM) ⟨rfl, rfl, nb rfl, nb rfl⟩ rfl (M_obj hw.2.1.2.2.2.2) rfl ⟨rfl, hw.2.1⟩ (nb rfl) ⟨by show _ ≤ 601024; omega, by show _ ≤ 7293034; omega⟩ dL_law_2908) hS hw.aM (fun H2 locs2 hw1 hz1 hk1 hS1 => ?_)
  replace hw := hw.mod hw1 hk1
  replace hS := hS1
  clear hw1 hk1 hz1 hS1
  refine x_istore [(6, .int q.1), (5, .int (thC (fun k => if k = 1 then 1 else if k = 2 then 2 else 0) r)), (4, .int i), (3, .ref (b + 2636)), (2, .ref (b + 2628)), (1, .ref b), (0, .ref a)] C dL_law_2911 (by decide) rfl ?_
  refine x_aload_n C dL_law_2913 rfl ?_
  refine x_goR (fun ls h => x_runV (As := []) [] h C ml_L_209 (c_X12_thrown l D cA s (b + 2628) q.2) ⟨rfl, rfl, nb rfl, nb rfl⟩ rfl (M_obj hw.2.1.2.2.2.2) rfl hw.2.1.2.2.2.2 (nb rfl) ⟨by show _ ≤ 601024; omega, by show _ ≤ 7293034; omega⟩ dL_law_2914) ?_
  refine x_iload C dL_law_2917 rfl ?_
  refine x_icmp_eq 2924 C dL_law_2919 (by decide) (fun _ => ?_) (fun z => absurd ht.symm z)
  refine x_iload C dL_law_2924 rfl ?_
  refine x_if_ne 2941 C dL_law_2926 (by decide) (fun _ => ?_) (fun h0 => ?_)
  · refine x_goto 4068 C dL_law_2941 (by decide) ?_
    refine x_sub [(4, .int i), (3, .ref (b + 2636)), (2, .ref (b + 2628)), (1, .ref b), (0, .ref a)] [2, 3, 4, 5, 6] rfl ?_
    refine x_widen (k := cells + 200) (n := slots + 2000) (by omega) (by omega) ?_
    exact kk _ _ hw hS
  have ho := ho h0
  refine x_aload_n C dL_law_2929 rfl ?_
  refine x_iconst (0 : Int32) C dL_law_2930 rfl ?_
  refine x_lald C hw.2.2 in01 dL_law_2931 ?_
  refine x_iload C dL_law_2932 rfl ?_
  refine x_i2l C dL_law_2934 ?_
  refine x_lcmp_eq 2941 C dL_law_2935 dL_law_2936 (by decide) (fun _ => ?_) (fun z => absurd ho z)
  refine x_goto 4068 C dL_law_2941 (by decide) ?_
  refine x_sub [(4, .int i), (3, .ref (b + 2636)), (2, .ref (b + 2628)), (1, .ref b), (0, .ref a)] [2, 3, 4, 5, 6] rfl ?_
  refine x_widen (k := cells + 200) (n := slots + 2000) (by omega) (by omega) ?_
  exact kk _ _ hw hS
set_option maxRecDepth 20000 in
set_option maxHeartbeats 4000000 in
theorem cs_46 {p : Program} {l : Launch} {e : Env} {s : State} {m : MethodId} {args : Array Value} {below : List Frame} {meth : Method} {c : Code} {Q : State → Prop} {H : Heap} {locs : List Loc} {cells slots : Nat} {D : va_G} {cA : Nat → ClassId} {a b L : Nat} {xs : Nat → Int32} {i : Int32} {ν μ : Mm} {oc : Nat → Int64} (C : xC D cA s RL cL_law 8 (some .boolean) p s m args meth c) (hG : xG l D cA s) (hNc : xNc s) (hX : va_X a L xs s s.heap) (hal : a < s.heap.size) (hw : LW D cA s b ν μ oc H) (hS : va_S (xOut s) s.heap H locs) (hcs : cells + 200 ≤ 601024 ∧ slots + 2000 ≤ 7293034) (a1 : Int32) (a2 : Int32) (r1 : vp_in (i + 1) L ∧ xs (i + 1).toNatClampNeg = a1) (r2 : vp_in (i + 2) L ∧ xs (i + 2).toNatClampNeg = a2) (r : Thr (Int32 × Mm)) (q : Int32 × Mm) (hF : g_X11_setTons ν a1 a2 = some r) (hk : ∀ k, r = .error k → k = 1 ∨ k = 2) (hM : g_X12_setTons μ a1 a2 = some q) (ht : (thC (fun k => if k = 1 then 1 else if k = 2 then 2 else 0) r) = f_X12_thrown q.2) (ho : (thC (fun k => if k = 1 then 1 else if k = 2 then 2 else 0) r) = 0 → (thO (fun q => q.1.toInt64) oc r) 0 = q.1.toInt64) (kk : ∀ (H1 : Heap) (locs1 : List Loc), LW D cA s b (thM (fun q => q.2) ν r) q.2 (thO (fun q => q.1.toInt64) oc r) H1 → va_S (xOut s) s.heap H1 locs1 → xW p l e room_1 s m args below meth c 8 Q H1 locs1 (cells + 200) (slots + 2000) 4068 [(4, .int i), (3, .ref (b + 2636)), (2, .ref (b + 2628)), (1, .ref b), (0, .ref a)] []) : xW p l e room_1 s m args below meth c 8 Q H locs cells slots 2944 [(4, .int i), (3, .ref (b + 2636)), (2, .ref (b + 2628)), (1, .ref b), (0, .ref a)] [] := by
  refine x_aload_n C dL_law_2944 rfl ?_
  refine x_aload_n C dL_law_2945 rfl ?_
  refine x_iload C dL_law_2946 rfl ?_
  refine x_iconst (1 : Int32) C dL_law_2948 rfl ?_
  refine x_iadd C dL_law_2949 ?_
  refine x_sld C hX hal hS r1 dL_law_2950 ?_
  refine x_aload_n C dL_law_2951 rfl ?_
  refine x_iload C dL_law_2952 rfl ?_
  refine x_iconst (2 : Int32) C dL_law_2954 rfl ?_
  refine x_iadd C dL_law_2955 ?_
  refine x_sld C hX hal hS r2 dL_law_2956 ?_
  refine x_aload_n C dL_law_2957 rfl ?_
  refine x_goM (fun ls h => x_runH (As := [.ref b, .int a1, .int a2, .ref (b + 2636)]) [] h C (mw_L_setTons 356 mlk_356) (k_L_setTons l D cA s (b + 2637) b ν _ hG hNc (b + 2636) (by omega) (by omega) oc a1 a2 r hF hk) ⟨rfl, rfl, nb rfl, nb rfl⟩ rfl ⟨rfl, hw.1, hw.2.2⟩ (nb rfl) ⟨by show _ ≤ 601024; omega, by show _ ≤ 7293034; omega⟩ dL_law_2958) hS hw.aL (fun H1 locs1 hw1 hz1 hk1 hS1 => ?_)
  replace hw := hw.cls hw1 hk1
  replace hS := hS1
  clear hw1 hk1 hz1 hS1
  refine x_istore [(5, .int (thC (fun k => if k = 1 then 1 else if k = 2 then 2 else 0) r)), (4, .int i), (3, .ref (b + 2636)), (2, .ref (b + 2628)), (1, .ref b), (0, .ref a)] C dL_law_2961 (by decide) rfl ?_
  refine x_aload_n C dL_law_2963 rfl ?_
  refine x_aload_n C dL_law_2964 rfl ?_
  refine x_iload C dL_law_2965 rfl ?_
  refine x_iconst (1 : Int32) C dL_law_2967 rfl ?_
  refine x_iadd C dL_law_2968 ?_
  refine x_sld C hX hal hS r1 dL_law_2969 ?_
  refine x_aload_n C dL_law_2970 rfl ?_
  refine x_iload C dL_law_2971 rfl ?_
  refine x_iconst (2 : Int32) C dL_law_2973 rfl ?_
  refine x_iadd C dL_law_2974 ?_
  refine x_sld C hX hal hS r2 dL_law_2975 ?_
  refine x_goM (fun ls h => x_runV (As := [.int a1, .int a2]) [] h C ml_L_358 (k_X12_setTons l D cA s (b + 2637) (b + 2628) μ _ hG a1 a2 q hM) ⟨rfl, rfl, nb rfl, nb rfl⟩ rfl (M_obj hw.2.1.2.2.2.2) rfl ⟨rfl, hw.2.1⟩ (nb rfl) ⟨by show _ ≤ 601024; omega, by show _ ≤ 7293034; omega⟩ dL_law_2976) hS hw.aM (fun H2 locs2 hw1 hz1 hk1 hS1 => ?_)
  replace hw := hw.mod hw1 hk1
  replace hS := hS1
  clear hw1 hk1 hz1 hS1
  refine x_istore [(6, .int q.1), (5, .int (thC (fun k => if k = 1 then 1 else if k = 2 then 2 else 0) r)), (4, .int i), (3, .ref (b + 2636)), (2, .ref (b + 2628)), (1, .ref b), (0, .ref a)] C dL_law_2979 (by decide) rfl ?_
  refine x_aload_n C dL_law_2981 rfl ?_
  refine x_goR (fun ls h => x_runV (As := []) [] h C ml_L_209 (c_X12_thrown l D cA s (b + 2628) q.2) ⟨rfl, rfl, nb rfl, nb rfl⟩ rfl (M_obj hw.2.1.2.2.2.2) rfl hw.2.1.2.2.2.2 (nb rfl) ⟨by show _ ≤ 601024; omega, by show _ ≤ 7293034; omega⟩ dL_law_2982) ?_
  refine x_iload C dL_law_2985 rfl ?_
  refine x_icmp_eq 2992 C dL_law_2987 (by decide) (fun _ => ?_) (fun z => absurd ht.symm z)
  refine x_iload C dL_law_2992 rfl ?_
  refine x_if_ne 3009 C dL_law_2994 (by decide) (fun _ => ?_) (fun h0 => ?_)
  · refine x_goto 4068 C dL_law_3009 (by decide) ?_
    refine x_sub [(4, .int i), (3, .ref (b + 2636)), (2, .ref (b + 2628)), (1, .ref b), (0, .ref a)] [2, 3, 4, 5, 6] rfl ?_
    refine x_widen (k := cells + 200) (n := slots + 2000) (by omega) (by omega) ?_
    exact kk _ _ hw hS
  have ho := ho h0
  refine x_aload_n C dL_law_2997 rfl ?_
  refine x_iconst (0 : Int32) C dL_law_2998 rfl ?_
  refine x_lald C hw.2.2 in01 dL_law_2999 ?_
  refine x_iload C dL_law_3000 rfl ?_
  refine x_i2l C dL_law_3002 ?_
  refine x_lcmp_eq 3009 C dL_law_3003 dL_law_3004 (by decide) (fun _ => ?_) (fun z => absurd ho z)
  refine x_goto 4068 C dL_law_3009 (by decide) ?_
  refine x_sub [(4, .int i), (3, .ref (b + 2636)), (2, .ref (b + 2628)), (1, .ref b), (0, .ref a)] [2, 3, 4, 5, 6] rfl ?_
  refine x_widen (k := cells + 200) (n := slots + 2000) (by omega) (by omega) ?_
  exact kk _ _ hw hS
set_option maxRecDepth 20000 in
set_option maxHeartbeats 4000000 in
theorem cs_47 {p : Program} {l : Launch} {e : Env} {s : State} {m : MethodId} {args : Array Value} {below : List Frame} {meth : Method} {c : Code} {Q : State → Prop} {H : Heap} {locs : List Loc} {cells slots : Nat} {D : va_G} {cA : Nat → ClassId} {a b L : Nat} {xs : Nat → Int32} {i : Int32} {ν μ : Mm} {oc : Nat → Int64} (C : xC D cA s RL cL_law 8 (some .boolean) p s m args meth c) (hG : xG l D cA s) (hNc : xNc s) (hX : va_X a L xs s s.heap) (hal : a < s.heap.size) (hw : LW D cA s b ν μ oc H) (hS : va_S (xOut s) s.heap H locs) (hcs : cells + 200 ≤ 601024 ∧ slots + 2000 ≤ 7293034) (a1 : Int32) (r1 : vp_in (i + 1) L ∧ xs (i + 1).toNatClampNeg = a1) (r : Thr (Int32 × Mm)) (q : Int32 × Mm) (hF : g_X11_bill ν a1 = some r) (hk : ∀ k, r = .error k → k = 1 ∨ k = 3) (hM : g_X12_bill μ a1 = some q) (ht : (thC (fun k => if k = 1 then 1 else if k = 3 then 2 else 0) r) = f_X12_thrown q.2) (ho : (thC (fun k => if k = 1 then 1 else if k = 3 then 2 else 0) r) = 0 → (thO (fun q => q.1.toInt64) oc r) 0 = q.1.toInt64) (kk : ∀ (H1 : Heap) (locs1 : List Loc), LW D cA s b (thM (fun q => q.2) ν r) q.2 (thO (fun q => q.1.toInt64) oc r) H1 → va_S (xOut s) s.heap H1 locs1 → xW p l e room_1 s m args below meth c 8 Q H1 locs1 (cells + 200) (slots + 2000) 4068 [(4, .int i), (3, .ref (b + 2636)), (2, .ref (b + 2628)), (1, .ref b), (0, .ref a)] []) : xW p l e room_1 s m args below meth c 8 Q H locs cells slots 3012 [(4, .int i), (3, .ref (b + 2636)), (2, .ref (b + 2628)), (1, .ref b), (0, .ref a)] [] := by
  refine x_aload_n C dL_law_3012 rfl ?_
  refine x_aload_n C dL_law_3013 rfl ?_
  refine x_iload C dL_law_3014 rfl ?_
  refine x_iconst (1 : Int32) C dL_law_3016 rfl ?_
  refine x_iadd C dL_law_3017 ?_
  refine x_sld C hX hal hS r1 dL_law_3018 ?_
  refine x_aload_n C dL_law_3019 rfl ?_
  refine x_goM (fun ls h => x_runH (As := [.ref b, .int a1, .ref (b + 2636)]) [] h C (mw_L_bill 359 mlk_359) (k_L_bill l D cA s (b + 2637) b ν _ hG hNc (b + 2636) (by omega) (by omega) oc a1 r hF hk) ⟨rfl, rfl, nb rfl, nb rfl⟩ rfl ⟨rfl, hw.1, hw.2.2⟩ (nb rfl) ⟨by show _ ≤ 601024; omega, by show _ ≤ 7293034; omega⟩ dL_law_3020) hS hw.aL (fun H1 locs1 hw1 hz1 hk1 hS1 => ?_)
  replace hw := hw.cls hw1 hk1
  replace hS := hS1
  clear hw1 hk1 hz1 hS1
  refine x_istore [(5, .int (thC (fun k => if k = 1 then 1 else if k = 3 then 2 else 0) r)), (4, .int i), (3, .ref (b + 2636)), (2, .ref (b + 2628)), (1, .ref b), (0, .ref a)] C dL_law_3023 (by decide) rfl ?_
  refine x_aload_n C dL_law_3025 rfl ?_
  refine x_aload_n C dL_law_3026 rfl ?_
  refine x_iload C dL_law_3027 rfl ?_
  refine x_iconst (1 : Int32) C dL_law_3029 rfl ?_
  refine x_iadd C dL_law_3030 ?_
  refine x_sld C hX hal hS r1 dL_law_3031 ?_
  refine x_goM (fun ls h => x_runV (As := [.int a1]) [] h C ml_L_361 (k_X12_bill l D cA s (b + 2637) (b + 2628) μ _ hG a1 q hM) ⟨rfl, rfl, nb rfl, nb rfl⟩ rfl (M_obj hw.2.1.2.2.2.2) rfl ⟨rfl, hw.2.1⟩ (nb rfl) ⟨by show _ ≤ 601024; omega, by show _ ≤ 7293034; omega⟩ dL_law_3032) hS hw.aM (fun H2 locs2 hw1 hz1 hk1 hS1 => ?_)
  replace hw := hw.mod hw1 hk1
  replace hS := hS1
  clear hw1 hk1 hz1 hS1
  refine x_istore [(6, .int q.1), (5, .int (thC (fun k => if k = 1 then 1 else if k = 3 then 2 else 0) r)), (4, .int i), (3, .ref (b + 2636)), (2, .ref (b + 2628)), (1, .ref b), (0, .ref a)] C dL_law_3035 (by decide) rfl ?_
  refine x_aload_n C dL_law_3037 rfl ?_
  refine x_goR (fun ls h => x_runV (As := []) [] h C ml_L_209 (c_X12_thrown l D cA s (b + 2628) q.2) ⟨rfl, rfl, nb rfl, nb rfl⟩ rfl (M_obj hw.2.1.2.2.2.2) rfl hw.2.1.2.2.2.2 (nb rfl) ⟨by show _ ≤ 601024; omega, by show _ ≤ 7293034; omega⟩ dL_law_3038) ?_
  refine x_iload C dL_law_3041 rfl ?_
  refine x_icmp_eq 3048 C dL_law_3043 (by decide) (fun _ => ?_) (fun z => absurd ht.symm z)
  refine x_iload C dL_law_3048 rfl ?_
  refine x_if_ne 3065 C dL_law_3050 (by decide) (fun _ => ?_) (fun h0 => ?_)
  · refine x_goto 4068 C dL_law_3065 (by decide) ?_
    refine x_sub [(4, .int i), (3, .ref (b + 2636)), (2, .ref (b + 2628)), (1, .ref b), (0, .ref a)] [2, 3, 4, 5, 6] rfl ?_
    refine x_widen (k := cells + 200) (n := slots + 2000) (by omega) (by omega) ?_
    exact kk _ _ hw hS
  have ho := ho h0
  refine x_aload_n C dL_law_3053 rfl ?_
  refine x_iconst (0 : Int32) C dL_law_3054 rfl ?_
  refine x_lald C hw.2.2 in01 dL_law_3055 ?_
  refine x_iload C dL_law_3056 rfl ?_
  refine x_i2l C dL_law_3058 ?_
  refine x_lcmp_eq 3065 C dL_law_3059 dL_law_3060 (by decide) (fun _ => ?_) (fun z => absurd ho z)
  refine x_goto 4068 C dL_law_3065 (by decide) ?_
  refine x_sub [(4, .int i), (3, .ref (b + 2636)), (2, .ref (b + 2628)), (1, .ref b), (0, .ref a)] [2, 3, 4, 5, 6] rfl ?_
  refine x_widen (k := cells + 200) (n := slots + 2000) (by omega) (by omega) ?_
  exact kk _ _ hw hS
set_option maxRecDepth 20000 in
set_option maxHeartbeats 4000000 in
theorem cs_48 {p : Program} {l : Launch} {e : Env} {s : State} {m : MethodId} {args : Array Value} {below : List Frame} {meth : Method} {c : Code} {Q : State → Prop} {H : Heap} {locs : List Loc} {cells slots : Nat} {D : va_G} {cA : Nat → ClassId} {a b L : Nat} {xs : Nat → Int32} {i : Int32} {ν μ : Mm} {oc : Nat → Int64} (C : xC D cA s RL cL_law 8 (some .boolean) p s m args meth c) (hG : xG l D cA s) (hNc : xNc s) (hX : va_X a L xs s s.heap) (hal : a < s.heap.size) (hw : LW D cA s b ν μ oc H) (hS : va_S (xOut s) s.heap H locs) (hcs : cells + 200 ≤ 601024 ∧ slots + 2000 ≤ 7293034) (a1 : Int32) (r1 : vp_in (i + 1) L ∧ xs (i + 1).toNatClampNeg = a1) (r : Thr (Int32 × Mm)) (q : Int32 × Mm) (hF : g_X11_billAll ν a1 = some r) (hk : ∀ k, r = .error k → k = 1) (hM : g_X12_billAll μ a1 = some q) (ht : (thC (fun k => if k = 1 then 1 else 0) r) = f_X12_thrown q.2) (ho : (thC (fun k => if k = 1 then 1 else 0) r) = 0 → (thO (fun q => q.1.toInt64) oc r) 0 = q.1.toInt64) (kk : ∀ (H1 : Heap) (locs1 : List Loc), LW D cA s b (thM (fun q => q.2) ν r) q.2 (thO (fun q => q.1.toInt64) oc r) H1 → va_S (xOut s) s.heap H1 locs1 → xW p l e room_1 s m args below meth c 8 Q H1 locs1 (cells + 200) (slots + 2000) 4068 [(4, .int i), (3, .ref (b + 2636)), (2, .ref (b + 2628)), (1, .ref b), (0, .ref a)] []) : xW p l e room_1 s m args below meth c 8 Q H locs cells slots 3068 [(4, .int i), (3, .ref (b + 2636)), (2, .ref (b + 2628)), (1, .ref b), (0, .ref a)] [] := by
  refine x_aload_n C dL_law_3068 rfl ?_
  refine x_aload_n C dL_law_3069 rfl ?_
  refine x_iload C dL_law_3070 rfl ?_
  refine x_iconst (1 : Int32) C dL_law_3072 rfl ?_
  refine x_iadd C dL_law_3073 ?_
  refine x_sld C hX hal hS r1 dL_law_3074 ?_
  refine x_aload_n C dL_law_3075 rfl ?_
  refine x_goM (fun ls h => x_runH (As := [.ref b, .int a1, .ref (b + 2636)]) [] h C (mw_L_billAll 362 mlk_362) (k_L_billAll l D cA s (b + 2637) b ν _ hG hNc (b + 2636) (by omega) (by omega) oc a1 r hF hk) ⟨rfl, rfl, nb rfl, nb rfl⟩ rfl ⟨rfl, hw.1, hw.2.2⟩ (nb rfl) ⟨by show _ ≤ 601024; omega, by show _ ≤ 7293034; omega⟩ dL_law_3076) hS hw.aL (fun H1 locs1 hw1 hz1 hk1 hS1 => ?_)
  replace hw := hw.cls hw1 hk1
  replace hS := hS1
  clear hw1 hk1 hz1 hS1
  refine x_istore [(5, .int (thC (fun k => if k = 1 then 1 else 0) r)), (4, .int i), (3, .ref (b + 2636)), (2, .ref (b + 2628)), (1, .ref b), (0, .ref a)] C dL_law_3079 (by decide) rfl ?_
  refine x_aload_n C dL_law_3081 rfl ?_
  refine x_aload_n C dL_law_3082 rfl ?_
  refine x_iload C dL_law_3083 rfl ?_
  refine x_iconst (1 : Int32) C dL_law_3085 rfl ?_
  refine x_iadd C dL_law_3086 ?_
  refine x_sld C hX hal hS r1 dL_law_3087 ?_
  refine x_goM (fun ls h => x_runV (As := [.int a1]) [] h C ml_L_364 (k_X12_billAll l D cA s (b + 2637) (b + 2628) μ _ hG a1 q hM) ⟨rfl, rfl, nb rfl, nb rfl⟩ rfl (M_obj hw.2.1.2.2.2.2) rfl ⟨rfl, hw.2.1⟩ (nb rfl) ⟨by show _ ≤ 601024; omega, by show _ ≤ 7293034; omega⟩ dL_law_3088) hS hw.aM (fun H2 locs2 hw1 hz1 hk1 hS1 => ?_)
  replace hw := hw.mod hw1 hk1
  replace hS := hS1
  clear hw1 hk1 hz1 hS1
  refine x_istore [(6, .int q.1), (5, .int (thC (fun k => if k = 1 then 1 else 0) r)), (4, .int i), (3, .ref (b + 2636)), (2, .ref (b + 2628)), (1, .ref b), (0, .ref a)] C dL_law_3091 (by decide) rfl ?_
  refine x_aload_n C dL_law_3093 rfl ?_
  refine x_goR (fun ls h => x_runV (As := []) [] h C ml_L_209 (c_X12_thrown l D cA s (b + 2628) q.2) ⟨rfl, rfl, nb rfl, nb rfl⟩ rfl (M_obj hw.2.1.2.2.2.2) rfl hw.2.1.2.2.2.2 (nb rfl) ⟨by show _ ≤ 601024; omega, by show _ ≤ 7293034; omega⟩ dL_law_3094) ?_
  refine x_iload C dL_law_3097 rfl ?_
  refine x_icmp_eq 3104 C dL_law_3099 (by decide) (fun _ => ?_) (fun z => absurd ht.symm z)
  refine x_iload C dL_law_3104 rfl ?_
  refine x_if_ne 3121 C dL_law_3106 (by decide) (fun _ => ?_) (fun h0 => ?_)
  · refine x_goto 4068 C dL_law_3121 (by decide) ?_
    refine x_sub [(4, .int i), (3, .ref (b + 2636)), (2, .ref (b + 2628)), (1, .ref b), (0, .ref a)] [2, 3, 4, 5, 6] rfl ?_
    refine x_widen (k := cells + 200) (n := slots + 2000) (by omega) (by omega) ?_
    exact kk _ _ hw hS
  have ho := ho h0
  refine x_aload_n C dL_law_3109 rfl ?_
  refine x_iconst (0 : Int32) C dL_law_3110 rfl ?_
  refine x_lald C hw.2.2 in01 dL_law_3111 ?_
  refine x_iload C dL_law_3112 rfl ?_
  refine x_i2l C dL_law_3114 ?_
  refine x_lcmp_eq 3121 C dL_law_3115 dL_law_3116 (by decide) (fun _ => ?_) (fun z => absurd ho z)
  refine x_goto 4068 C dL_law_3121 (by decide) ?_
  refine x_sub [(4, .int i), (3, .ref (b + 2636)), (2, .ref (b + 2628)), (1, .ref b), (0, .ref a)] [2, 3, 4, 5, 6] rfl ?_
  refine x_widen (k := cells + 200) (n := slots + 2000) (by omega) (by omega) ?_
  exact kk _ _ hw hS
set_option maxRecDepth 20000 in
set_option maxHeartbeats 4000000 in
theorem cs_49 {p : Program} {l : Launch} {e : Env} {s : State} {m : MethodId} {args : Array Value} {below : List Frame} {meth : Method} {c : Code} {Q : State → Prop} {H : Heap} {locs : List Loc} {cells slots : Nat} {D : va_G} {cA : Nat → ClassId} {a b L : Nat} {xs : Nat → Int32} {i : Int32} {ν μ : Mm} {oc : Nat → Int64} (C : xC D cA s RL cL_law 8 (some .boolean) p s m args meth c) (hG : xG l D cA s) (hNc : xNc s) (hX : va_X a L xs s s.heap) (hal : a < s.heap.size) (hw : LW D cA s b ν μ oc H) (hS : va_S (xOut s) s.heap H locs) (hcs : cells + 200 ≤ 601024 ∧ slots + 2000 ≤ 7293034) (a1 : Int32) (a2 : Int32) (r1 : vp_in (i + 1) L ∧ xs (i + 1).toNatClampNeg = a1) (r2 : vp_in (i + 2) L ∧ xs (i + 2).toNatClampNeg = a2) (r : Thr (Int32 × Mm)) (q : Int32 × Mm) (hF : g_X11_credit ν a1 a2 = some r) (hk : ∀ k, r = .error k → k = 1 ∨ k = 2 ∨ k = 3) (hM : g_X12_credit μ a1 a2 = some q) (ht : (thC (fun k => if k = 1 then 1 else if k = 2 then 2 else if k = 3 then 3 else 0) r) = f_X12_thrown q.2) (ho : (thC (fun k => if k = 1 then 1 else if k = 2 then 2 else if k = 3 then 3 else 0) r) = 0 → (thO (fun q => q.1.toInt64) oc r) 0 = q.1.toInt64) (kk : ∀ (H1 : Heap) (locs1 : List Loc), LW D cA s b (thM (fun q => q.2) ν r) q.2 (thO (fun q => q.1.toInt64) oc r) H1 → va_S (xOut s) s.heap H1 locs1 → xW p l e room_1 s m args below meth c 8 Q H1 locs1 (cells + 200) (slots + 2000) 4068 [(4, .int i), (3, .ref (b + 2636)), (2, .ref (b + 2628)), (1, .ref b), (0, .ref a)] []) : xW p l e room_1 s m args below meth c 8 Q H locs cells slots 3124 [(4, .int i), (3, .ref (b + 2636)), (2, .ref (b + 2628)), (1, .ref b), (0, .ref a)] [] := by
  refine x_aload_n C dL_law_3124 rfl ?_
  refine x_aload_n C dL_law_3125 rfl ?_
  refine x_iload C dL_law_3126 rfl ?_
  refine x_iconst (1 : Int32) C dL_law_3128 rfl ?_
  refine x_iadd C dL_law_3129 ?_
  refine x_sld C hX hal hS r1 dL_law_3130 ?_
  refine x_aload_n C dL_law_3131 rfl ?_
  refine x_iload C dL_law_3132 rfl ?_
  refine x_iconst (2 : Int32) C dL_law_3134 rfl ?_
  refine x_iadd C dL_law_3135 ?_
  refine x_sld C hX hal hS r2 dL_law_3136 ?_
  refine x_aload_n C dL_law_3137 rfl ?_
  refine x_goM (fun ls h => x_runH (As := [.ref b, .int a1, .int a2, .ref (b + 2636)]) [] h C (mw_L_credit 365 mlk_365) (k_L_credit l D cA s (b + 2637) b ν _ hG hNc (b + 2636) (by omega) (by omega) oc a1 a2 r hF hk) ⟨rfl, rfl, nb rfl, nb rfl⟩ rfl ⟨rfl, hw.1, hw.2.2⟩ (nb rfl) ⟨by show _ ≤ 601024; omega, by show _ ≤ 7293034; omega⟩ dL_law_3138) hS hw.aL (fun H1 locs1 hw1 hz1 hk1 hS1 => ?_)
  replace hw := hw.cls hw1 hk1
  replace hS := hS1
  clear hw1 hk1 hz1 hS1
  refine x_istore [(5, .int (thC (fun k => if k = 1 then 1 else if k = 2 then 2 else if k = 3 then 3 else 0) r)), (4, .int i), (3, .ref (b + 2636)), (2, .ref (b + 2628)), (1, .ref b), (0, .ref a)] C dL_law_3141 (by decide) rfl ?_
  refine x_aload_n C dL_law_3143 rfl ?_
  refine x_aload_n C dL_law_3144 rfl ?_
  refine x_iload C dL_law_3145 rfl ?_
  refine x_iconst (1 : Int32) C dL_law_3147 rfl ?_
  refine x_iadd C dL_law_3148 ?_
  refine x_sld C hX hal hS r1 dL_law_3149 ?_
  refine x_aload_n C dL_law_3150 rfl ?_
  refine x_iload C dL_law_3151 rfl ?_
  refine x_iconst (2 : Int32) C dL_law_3153 rfl ?_
  refine x_iadd C dL_law_3154 ?_
  refine x_sld C hX hal hS r2 dL_law_3155 ?_
  refine x_goM (fun ls h => x_runV (As := [.int a1, .int a2]) [] h C ml_L_367 (k_X12_credit l D cA s (b + 2637) (b + 2628) μ _ hG a1 a2 q hM) ⟨rfl, rfl, nb rfl, nb rfl⟩ rfl (M_obj hw.2.1.2.2.2.2) rfl ⟨rfl, hw.2.1⟩ (nb rfl) ⟨by show _ ≤ 601024; omega, by show _ ≤ 7293034; omega⟩ dL_law_3156) hS hw.aM (fun H2 locs2 hw1 hz1 hk1 hS1 => ?_)
  replace hw := hw.mod hw1 hk1
  replace hS := hS1
  clear hw1 hk1 hz1 hS1
  refine x_istore [(6, .int q.1), (5, .int (thC (fun k => if k = 1 then 1 else if k = 2 then 2 else if k = 3 then 3 else 0) r)), (4, .int i), (3, .ref (b + 2636)), (2, .ref (b + 2628)), (1, .ref b), (0, .ref a)] C dL_law_3159 (by decide) rfl ?_
  refine x_aload_n C dL_law_3161 rfl ?_
  refine x_goR (fun ls h => x_runV (As := []) [] h C ml_L_209 (c_X12_thrown l D cA s (b + 2628) q.2) ⟨rfl, rfl, nb rfl, nb rfl⟩ rfl (M_obj hw.2.1.2.2.2.2) rfl hw.2.1.2.2.2.2 (nb rfl) ⟨by show _ ≤ 601024; omega, by show _ ≤ 7293034; omega⟩ dL_law_3162) ?_
  refine x_iload C dL_law_3165 rfl ?_
  refine x_icmp_eq 3172 C dL_law_3167 (by decide) (fun _ => ?_) (fun z => absurd ht.symm z)
  refine x_iload C dL_law_3172 rfl ?_
  refine x_if_ne 3189 C dL_law_3174 (by decide) (fun _ => ?_) (fun h0 => ?_)
  · refine x_goto 4068 C dL_law_3189 (by decide) ?_
    refine x_sub [(4, .int i), (3, .ref (b + 2636)), (2, .ref (b + 2628)), (1, .ref b), (0, .ref a)] [2, 3, 4, 5, 6] rfl ?_
    refine x_widen (k := cells + 200) (n := slots + 2000) (by omega) (by omega) ?_
    exact kk _ _ hw hS
  have ho := ho h0
  refine x_aload_n C dL_law_3177 rfl ?_
  refine x_iconst (0 : Int32) C dL_law_3178 rfl ?_
  refine x_lald C hw.2.2 in01 dL_law_3179 ?_
  refine x_iload C dL_law_3180 rfl ?_
  refine x_i2l C dL_law_3182 ?_
  refine x_lcmp_eq 3189 C dL_law_3183 dL_law_3184 (by decide) (fun _ => ?_) (fun z => absurd ho z)
  refine x_goto 4068 C dL_law_3189 (by decide) ?_
  refine x_sub [(4, .int i), (3, .ref (b + 2636)), (2, .ref (b + 2628)), (1, .ref b), (0, .ref a)] [2, 3, 4, 5, 6] rfl ?_
  refine x_widen (k := cells + 200) (n := slots + 2000) (by omega) (by omega) ?_
  exact kk _ _ hw hS
set_option maxRecDepth 20000 in
set_option maxHeartbeats 4000000 in
theorem cs_50 {p : Program} {l : Launch} {e : Env} {s : State} {m : MethodId} {args : Array Value} {below : List Frame} {meth : Method} {c : Code} {Q : State → Prop} {H : Heap} {locs : List Loc} {cells slots : Nat} {D : va_G} {cA : Nat → ClassId} {a b L : Nat} {xs : Nat → Int32} {i : Int32} {ν μ : Mm} {oc : Nat → Int64} (C : xC D cA s RL cL_law 8 (some .boolean) p s m args meth c) (hG : xG l D cA s) (hNc : xNc s) (hX : va_X a L xs s s.heap) (hal : a < s.heap.size) (hw : LW D cA s b ν μ oc H) (hS : va_S (xOut s) s.heap H locs) (hcs : cells + 200 ≤ 601024 ∧ slots + 2000 ≤ 7293034) (a1 : Int32) (a2 : Int32) (r1 : vp_in (i + 1) L ∧ xs (i + 1).toNatClampNeg = a1) (r2 : vp_in (i + 2) L ∧ xs (i + 2).toNatClampNeg = a2) (r : Thr (Int32 × Mm)) (q : Int32 × Mm) (hF : g_X11_dispute ν a1 a2 = some r) (hk : ∀ k, r = .error k → k = 1 ∨ k = 2 ∨ k = 3) (hM : g_X12_dispute μ a1 a2 = some q) (ht : (thC (fun k => if k = 1 then 1 else if k = 2 then 2 else if k = 3 then 3 else 0) r) = f_X12_thrown q.2) (ho : (thC (fun k => if k = 1 then 1 else if k = 2 then 2 else if k = 3 then 3 else 0) r) = 0 → (thO (fun q => q.1.toInt64) oc r) 0 = q.1.toInt64) (kk : ∀ (H1 : Heap) (locs1 : List Loc), LW D cA s b (thM (fun q => q.2) ν r) q.2 (thO (fun q => q.1.toInt64) oc r) H1 → va_S (xOut s) s.heap H1 locs1 → xW p l e room_1 s m args below meth c 8 Q H1 locs1 (cells + 200) (slots + 2000) 4068 [(4, .int i), (3, .ref (b + 2636)), (2, .ref (b + 2628)), (1, .ref b), (0, .ref a)] []) : xW p l e room_1 s m args below meth c 8 Q H locs cells slots 3192 [(4, .int i), (3, .ref (b + 2636)), (2, .ref (b + 2628)), (1, .ref b), (0, .ref a)] [] := by
  refine x_aload_n C dL_law_3192 rfl ?_
  refine x_aload_n C dL_law_3193 rfl ?_
  refine x_iload C dL_law_3194 rfl ?_
  refine x_iconst (1 : Int32) C dL_law_3196 rfl ?_
  refine x_iadd C dL_law_3197 ?_
  refine x_sld C hX hal hS r1 dL_law_3198 ?_
  refine x_aload_n C dL_law_3199 rfl ?_
  refine x_iload C dL_law_3200 rfl ?_
  refine x_iconst (2 : Int32) C dL_law_3202 rfl ?_
  refine x_iadd C dL_law_3203 ?_
  refine x_sld C hX hal hS r2 dL_law_3204 ?_
  refine x_aload_n C dL_law_3205 rfl ?_
  refine x_goM (fun ls h => x_runH (As := [.ref b, .int a1, .int a2, .ref (b + 2636)]) [] h C (mw_L_dispute 368 mlk_368) (k_L_dispute l D cA s (b + 2637) b ν _ hG hNc (b + 2636) (by omega) (by omega) oc a1 a2 r hF hk) ⟨rfl, rfl, nb rfl, nb rfl⟩ rfl ⟨rfl, hw.1, hw.2.2⟩ (nb rfl) ⟨by show _ ≤ 601024; omega, by show _ ≤ 7293034; omega⟩ dL_law_3206) hS hw.aL (fun H1 locs1 hw1 hz1 hk1 hS1 => ?_)
  replace hw := hw.cls hw1 hk1
  replace hS := hS1
  clear hw1 hk1 hz1 hS1
  refine x_istore [(5, .int (thC (fun k => if k = 1 then 1 else if k = 2 then 2 else if k = 3 then 3 else 0) r)), (4, .int i), (3, .ref (b + 2636)), (2, .ref (b + 2628)), (1, .ref b), (0, .ref a)] C dL_law_3209 (by decide) rfl ?_
  refine x_aload_n C dL_law_3211 rfl ?_
  refine x_aload_n C dL_law_3212 rfl ?_
  refine x_iload C dL_law_3213 rfl ?_
  refine x_iconst (1 : Int32) C dL_law_3215 rfl ?_
  refine x_iadd C dL_law_3216 ?_
  refine x_sld C hX hal hS r1 dL_law_3217 ?_
  refine x_aload_n C dL_law_3218 rfl ?_
  refine x_iload C dL_law_3219 rfl ?_
  refine x_iconst (2 : Int32) C dL_law_3221 rfl ?_
  refine x_iadd C dL_law_3222 ?_
  refine x_sld C hX hal hS r2 dL_law_3223 ?_
  refine x_goM (fun ls h => x_runV (As := [.int a1, .int a2]) [] h C ml_L_370 (k_X12_dispute l D cA s (b + 2637) (b + 2628) μ _ hG a1 a2 q hM) ⟨rfl, rfl, nb rfl, nb rfl⟩ rfl (M_obj hw.2.1.2.2.2.2) rfl ⟨rfl, hw.2.1⟩ (nb rfl) ⟨by show _ ≤ 601024; omega, by show _ ≤ 7293034; omega⟩ dL_law_3224) hS hw.aM (fun H2 locs2 hw1 hz1 hk1 hS1 => ?_)
  replace hw := hw.mod hw1 hk1
  replace hS := hS1
  clear hw1 hk1 hz1 hS1
  refine x_istore [(6, .int q.1), (5, .int (thC (fun k => if k = 1 then 1 else if k = 2 then 2 else if k = 3 then 3 else 0) r)), (4, .int i), (3, .ref (b + 2636)), (2, .ref (b + 2628)), (1, .ref b), (0, .ref a)] C dL_law_3227 (by decide) rfl ?_
  refine x_aload_n C dL_law_3229 rfl ?_
  refine x_goR (fun ls h => x_runV (As := []) [] h C ml_L_209 (c_X12_thrown l D cA s (b + 2628) q.2) ⟨rfl, rfl, nb rfl, nb rfl⟩ rfl (M_obj hw.2.1.2.2.2.2) rfl hw.2.1.2.2.2.2 (nb rfl) ⟨by show _ ≤ 601024; omega, by show _ ≤ 7293034; omega⟩ dL_law_3230) ?_
  refine x_iload C dL_law_3233 rfl ?_
  refine x_icmp_eq 3240 C dL_law_3235 (by decide) (fun _ => ?_) (fun z => absurd ht.symm z)
  refine x_iload C dL_law_3240 rfl ?_
  refine x_if_ne 3257 C dL_law_3242 (by decide) (fun _ => ?_) (fun h0 => ?_)
  · refine x_goto 4068 C dL_law_3257 (by decide) ?_
    refine x_sub [(4, .int i), (3, .ref (b + 2636)), (2, .ref (b + 2628)), (1, .ref b), (0, .ref a)] [2, 3, 4, 5, 6] rfl ?_
    refine x_widen (k := cells + 200) (n := slots + 2000) (by omega) (by omega) ?_
    exact kk _ _ hw hS
  have ho := ho h0
  refine x_aload_n C dL_law_3245 rfl ?_
  refine x_iconst (0 : Int32) C dL_law_3246 rfl ?_
  refine x_lald C hw.2.2 in01 dL_law_3247 ?_
  refine x_iload C dL_law_3248 rfl ?_
  refine x_i2l C dL_law_3250 ?_
  refine x_lcmp_eq 3257 C dL_law_3251 dL_law_3252 (by decide) (fun _ => ?_) (fun z => absurd ho z)
  refine x_goto 4068 C dL_law_3257 (by decide) ?_
  refine x_sub [(4, .int i), (3, .ref (b + 2636)), (2, .ref (b + 2628)), (1, .ref b), (0, .ref a)] [2, 3, 4, 5, 6] rfl ?_
  refine x_widen (k := cells + 200) (n := slots + 2000) (by omega) (by omega) ?_
  exact kk _ _ hw hS
set_option maxRecDepth 20000 in
set_option maxHeartbeats 4000000 in
theorem cs_51t {p : Program} {l : Launch} {e : Env} {s : State} {m : MethodId} {args : Array Value} {below : List Frame} {meth : Method} {c : Code} {Q : State → Prop} {H : Heap} {locs : List Loc} {cells slots : Nat} {D : va_G} {cA : Nat → ClassId} {a b L : Nat} {xs : Nat → Int32} {i : Int32} {ν μ : Mm} {oc : Nat → Int64} (C : xC D cA s RL cL_law 8 (some .boolean) p s m args meth c) (hG : xG l D cA s) (hNc : xNc s) (hX : va_X a L xs s s.heap) (hal : a < s.heap.size) (hw : LW D cA s b ν μ oc H) (hS : va_S (xOut s) s.heap H locs) (hcs : cells + 200 ≤ 601024 ∧ slots + 2000 ≤ 7293034) (a1 : Int32) (a2 : Int32) (a3 : Int32) (r1 : vp_in (i + 1) L ∧ xs (i + 1).toNatClampNeg = a1) (r2 : vp_in (i + 2) L ∧ xs (i + 2).toNatClampNeg = a2) (r3 : vp_in (i + 3) L ∧ xs (i + 3).toNatClampNeg = a3) (hb : ¬ a3 = 0) (r : Thr (Int32 × Mm)) (q : Int32 × Mm) (hF : g_X11_settle ν a1 a2 true = some r) (hk : ∀ k, r = .error k → k = 1 ∨ k = 3) (hM : g_X12_settle μ a1 a2 true = some q) (ht : (thC (fun k => if k = 1 then 1 else if k = 3 then 2 else 0) r) = f_X12_thrown q.2) (ho : (thC (fun k => if k = 1 then 1 else if k = 3 then 2 else 0) r) = 0 → (thO (fun q => q.1.toInt64) oc r) 0 = q.1.toInt64) (kk : ∀ (H1 : Heap) (locs1 : List Loc), LW D cA s b (thM (fun q => q.2) ν r) q.2 (thO (fun q => q.1.toInt64) oc r) H1 → va_S (xOut s) s.heap H1 locs1 → xW p l e room_1 s m args below meth c 8 Q H1 locs1 (cells + 200) (slots + 2000) 4068 [(4, .int i), (3, .ref (b + 2636)), (2, .ref (b + 2628)), (1, .ref b), (0, .ref a)] []) : xW p l e room_1 s m args below meth c 8 Q H locs cells slots 3260 [(4, .int i), (3, .ref (b + 2636)), (2, .ref (b + 2628)), (1, .ref b), (0, .ref a)] [] := by
  refine x_aload_n C dL_law_3260 rfl ?_
  refine x_aload_n C dL_law_3261 rfl ?_
  refine x_iload C dL_law_3262 rfl ?_
  refine x_iconst (1 : Int32) C dL_law_3264 rfl ?_
  refine x_iadd C dL_law_3265 ?_
  refine x_sld C hX hal hS r1 dL_law_3266 ?_
  refine x_aload_n C dL_law_3267 rfl ?_
  refine x_iload C dL_law_3268 rfl ?_
  refine x_iconst (2 : Int32) C dL_law_3270 rfl ?_
  refine x_iadd C dL_law_3271 ?_
  refine x_sld C hX hal hS r2 dL_law_3272 ?_
  refine x_aload_n C dL_law_3273 rfl ?_
  refine x_iload C dL_law_3274 rfl ?_
  refine x_iconst (3 : Int32) C dL_law_3276 rfl ?_
  refine x_iadd C dL_law_3277 ?_
  refine x_sld C hX hal hS r3 dL_law_3278 ?_
  refine x_if_eq 3286 C dL_law_3279 (by decide) (fun z => absurd z hb) (fun _ => ?_)
  refine x_iconst (bI true) C dL_law_3282 rfl ?_
  refine x_goto 3287 C dL_law_3283 (by decide) ?_
  refine x_aload_n C dL_law_3287 rfl ?_
  refine x_goM (fun ls h => x_runH (As := [.ref b, .int a1, .int a2, .int (bI true), .ref (b + 2636)]) [] h C (mw_L_settle 371 mlk_371) (k_L_settle l D cA s (b + 2637) b ν _ hG hNc (b + 2636) (by omega) (by omega) oc a1 a2 true r hF hk) ⟨rfl, rfl, nb rfl, nb rfl⟩ rfl ⟨rfl, hw.1, hw.2.2⟩ (nb rfl) ⟨by show _ ≤ 601024; omega, by show _ ≤ 7293034; omega⟩ dL_law_3288) hS hw.aL (fun H1 locs1 hw1 hz1 hk1 hS1 => ?_)
  replace hw := hw.cls hw1 hk1
  replace hS := hS1
  clear hw1 hk1 hz1 hS1
  refine x_istore [(5, .int (thC (fun k => if k = 1 then 1 else if k = 3 then 2 else 0) r)), (4, .int i), (3, .ref (b + 2636)), (2, .ref (b + 2628)), (1, .ref b), (0, .ref a)] C dL_law_3291 (by decide) rfl ?_
  refine x_aload_n C dL_law_3293 rfl ?_
  refine x_aload_n C dL_law_3294 rfl ?_
  refine x_iload C dL_law_3295 rfl ?_
  refine x_iconst (1 : Int32) C dL_law_3297 rfl ?_
  refine x_iadd C dL_law_3298 ?_
  refine x_sld C hX hal hS r1 dL_law_3299 ?_
  refine x_aload_n C dL_law_3300 rfl ?_
  refine x_iload C dL_law_3301 rfl ?_
  refine x_iconst (2 : Int32) C dL_law_3303 rfl ?_
  refine x_iadd C dL_law_3304 ?_
  refine x_sld C hX hal hS r2 dL_law_3305 ?_
  refine x_aload_n C dL_law_3306 rfl ?_
  refine x_iload C dL_law_3307 rfl ?_
  refine x_iconst (3 : Int32) C dL_law_3309 rfl ?_
  refine x_iadd C dL_law_3310 ?_
  refine x_sld C hX hal hS r3 dL_law_3311 ?_
  refine x_if_eq 3319 C dL_law_3312 (by decide) (fun z => absurd z hb) (fun _ => ?_)
  refine x_iconst (bI true) C dL_law_3315 rfl ?_
  refine x_goto 3320 C dL_law_3316 (by decide) ?_
  refine x_goM (fun ls h => x_runV (As := [.int a1, .int a2, .int (bI true)]) [] h C ml_L_374 (k_X12_settle l D cA s (b + 2637) (b + 2628) μ _ hG a1 a2 true q hM) ⟨rfl, rfl, nb rfl, nb rfl⟩ rfl (M_obj hw.2.1.2.2.2.2) rfl ⟨rfl, hw.2.1⟩ (nb rfl) ⟨by show _ ≤ 601024; omega, by show _ ≤ 7293034; omega⟩ dL_law_3320) hS hw.aM (fun H2 locs2 hw1 hz1 hk1 hS1 => ?_)
  replace hw := hw.mod hw1 hk1
  replace hS := hS1
  clear hw1 hk1 hz1 hS1
  refine x_istore [(6, .int q.1), (5, .int (thC (fun k => if k = 1 then 1 else if k = 3 then 2 else 0) r)), (4, .int i), (3, .ref (b + 2636)), (2, .ref (b + 2628)), (1, .ref b), (0, .ref a)] C dL_law_3323 (by decide) rfl ?_
  refine x_aload_n C dL_law_3325 rfl ?_
  refine x_goR (fun ls h => x_runV (As := []) [] h C ml_L_209 (c_X12_thrown l D cA s (b + 2628) q.2) ⟨rfl, rfl, nb rfl, nb rfl⟩ rfl (M_obj hw.2.1.2.2.2.2) rfl hw.2.1.2.2.2.2 (nb rfl) ⟨by show _ ≤ 601024; omega, by show _ ≤ 7293034; omega⟩ dL_law_3326) ?_
  refine x_iload C dL_law_3329 rfl ?_
  refine x_icmp_eq 3336 C dL_law_3331 (by decide) (fun _ => ?_) (fun z => absurd ht.symm z)
  refine x_iload C dL_law_3336 rfl ?_
  refine x_if_ne 3353 C dL_law_3338 (by decide) (fun _ => ?_) (fun h0 => ?_)
  · refine x_goto 4068 C dL_law_3353 (by decide) ?_
    refine x_sub [(4, .int i), (3, .ref (b + 2636)), (2, .ref (b + 2628)), (1, .ref b), (0, .ref a)] [2, 3, 4, 5, 6] rfl ?_
    refine x_widen (k := cells + 200) (n := slots + 2000) (by omega) (by omega) ?_
    exact kk _ _ hw hS
  have ho := ho h0
  refine x_aload_n C dL_law_3341 rfl ?_
  refine x_iconst (0 : Int32) C dL_law_3342 rfl ?_
  refine x_lald C hw.2.2 in01 dL_law_3343 ?_
  refine x_iload C dL_law_3344 rfl ?_
  refine x_i2l C dL_law_3346 ?_
  refine x_lcmp_eq 3353 C dL_law_3347 dL_law_3348 (by decide) (fun _ => ?_) (fun z => absurd ho z)
  refine x_goto 4068 C dL_law_3353 (by decide) ?_
  refine x_sub [(4, .int i), (3, .ref (b + 2636)), (2, .ref (b + 2628)), (1, .ref b), (0, .ref a)] [2, 3, 4, 5, 6] rfl ?_
  refine x_widen (k := cells + 200) (n := slots + 2000) (by omega) (by omega) ?_
  exact kk _ _ hw hS
set_option maxRecDepth 20000 in
set_option maxHeartbeats 4000000 in
theorem cs_51f {p : Program} {l : Launch} {e : Env} {s : State} {m : MethodId} {args : Array Value} {below : List Frame} {meth : Method} {c : Code} {Q : State → Prop} {H : Heap} {locs : List Loc} {cells slots : Nat} {D : va_G} {cA : Nat → ClassId} {a b L : Nat} {xs : Nat → Int32} {i : Int32} {ν μ : Mm} {oc : Nat → Int64} (C : xC D cA s RL cL_law 8 (some .boolean) p s m args meth c) (hG : xG l D cA s) (hNc : xNc s) (hX : va_X a L xs s s.heap) (hal : a < s.heap.size) (hw : LW D cA s b ν μ oc H) (hS : va_S (xOut s) s.heap H locs) (hcs : cells + 200 ≤ 601024 ∧ slots + 2000 ≤ 7293034) (a1 : Int32) (a2 : Int32) (a3 : Int32) (r1 : vp_in (i + 1) L ∧ xs (i + 1).toNatClampNeg = a1) (r2 : vp_in (i + 2) L ∧ xs (i + 2).toNatClampNeg = a2) (r3 : vp_in (i + 3) L ∧ xs (i + 3).toNatClampNeg = a3) (hb : a3 = 0) (r : Thr (Int32 × Mm)) (q : Int32 × Mm) (hF : g_X11_settle ν a1 a2 false = some r) (hk : ∀ k, r = .error k → k = 1 ∨ k = 3) (hM : g_X12_settle μ a1 a2 false = some q) (ht : (thC (fun k => if k = 1 then 1 else if k = 3 then 2 else 0) r) = f_X12_thrown q.2) (ho : (thC (fun k => if k = 1 then 1 else if k = 3 then 2 else 0) r) = 0 → (thO (fun q => q.1.toInt64) oc r) 0 = q.1.toInt64) (kk : ∀ (H1 : Heap) (locs1 : List Loc), LW D cA s b (thM (fun q => q.2) ν r) q.2 (thO (fun q => q.1.toInt64) oc r) H1 → va_S (xOut s) s.heap H1 locs1 → xW p l e room_1 s m args below meth c 8 Q H1 locs1 (cells + 200) (slots + 2000) 4068 [(4, .int i), (3, .ref (b + 2636)), (2, .ref (b + 2628)), (1, .ref b), (0, .ref a)] []) : xW p l e room_1 s m args below meth c 8 Q H locs cells slots 3260 [(4, .int i), (3, .ref (b + 2636)), (2, .ref (b + 2628)), (1, .ref b), (0, .ref a)] [] := by
  refine x_aload_n C dL_law_3260 rfl ?_
  refine x_aload_n C dL_law_3261 rfl ?_
  refine x_iload C dL_law_3262 rfl ?_
  refine x_iconst (1 : Int32) C dL_law_3264 rfl ?_
  refine x_iadd C dL_law_3265 ?_
  refine x_sld C hX hal hS r1 dL_law_3266 ?_
  refine x_aload_n C dL_law_3267 rfl ?_
  refine x_iload C dL_law_3268 rfl ?_
  refine x_iconst (2 : Int32) C dL_law_3270 rfl ?_
  refine x_iadd C dL_law_3271 ?_
  refine x_sld C hX hal hS r2 dL_law_3272 ?_
  refine x_aload_n C dL_law_3273 rfl ?_
  refine x_iload C dL_law_3274 rfl ?_
  refine x_iconst (3 : Int32) C dL_law_3276 rfl ?_
  refine x_iadd C dL_law_3277 ?_
  refine x_sld C hX hal hS r3 dL_law_3278 ?_
  refine x_if_eq 3286 C dL_law_3279 (by decide) (fun _ => ?_) (fun z => absurd hb z)
  refine x_iconst (bI false) C dL_law_3286 rfl ?_
  refine x_aload_n C dL_law_3287 rfl ?_
  refine x_goM (fun ls h => x_runH (As := [.ref b, .int a1, .int a2, .int (bI false), .ref (b + 2636)]) [] h C (mw_L_settle 371 mlk_371) (k_L_settle l D cA s (b + 2637) b ν _ hG hNc (b + 2636) (by omega) (by omega) oc a1 a2 false r hF hk) ⟨rfl, rfl, nb rfl, nb rfl⟩ rfl ⟨rfl, hw.1, hw.2.2⟩ (nb rfl) ⟨by show _ ≤ 601024; omega, by show _ ≤ 7293034; omega⟩ dL_law_3288) hS hw.aL (fun H1 locs1 hw1 hz1 hk1 hS1 => ?_)
  replace hw := hw.cls hw1 hk1
  replace hS := hS1
  clear hw1 hk1 hz1 hS1
  refine x_istore [(5, .int (thC (fun k => if k = 1 then 1 else if k = 3 then 2 else 0) r)), (4, .int i), (3, .ref (b + 2636)), (2, .ref (b + 2628)), (1, .ref b), (0, .ref a)] C dL_law_3291 (by decide) rfl ?_
  refine x_aload_n C dL_law_3293 rfl ?_
  refine x_aload_n C dL_law_3294 rfl ?_
  refine x_iload C dL_law_3295 rfl ?_
  refine x_iconst (1 : Int32) C dL_law_3297 rfl ?_
  refine x_iadd C dL_law_3298 ?_
  refine x_sld C hX hal hS r1 dL_law_3299 ?_
  refine x_aload_n C dL_law_3300 rfl ?_
  refine x_iload C dL_law_3301 rfl ?_
  refine x_iconst (2 : Int32) C dL_law_3303 rfl ?_
  refine x_iadd C dL_law_3304 ?_
  refine x_sld C hX hal hS r2 dL_law_3305 ?_
  refine x_aload_n C dL_law_3306 rfl ?_
  refine x_iload C dL_law_3307 rfl ?_
  refine x_iconst (3 : Int32) C dL_law_3309 rfl ?_
  refine x_iadd C dL_law_3310 ?_
  refine x_sld C hX hal hS r3 dL_law_3311 ?_
  refine x_if_eq 3319 C dL_law_3312 (by decide) (fun _ => ?_) (fun z => absurd hb z)
  refine x_iconst (bI false) C dL_law_3319 rfl ?_
  refine x_goM (fun ls h => x_runV (As := [.int a1, .int a2, .int (bI false)]) [] h C ml_L_374 (k_X12_settle l D cA s (b + 2637) (b + 2628) μ _ hG a1 a2 false q hM) ⟨rfl, rfl, nb rfl, nb rfl⟩ rfl (M_obj hw.2.1.2.2.2.2) rfl ⟨rfl, hw.2.1⟩ (nb rfl) ⟨by show _ ≤ 601024; omega, by show _ ≤ 7293034; omega⟩ dL_law_3320) hS hw.aM (fun H2 locs2 hw1 hz1 hk1 hS1 => ?_)
  replace hw := hw.mod hw1 hk1
  replace hS := hS1
  clear hw1 hk1 hz1 hS1
  refine x_istore [(6, .int q.1), (5, .int (thC (fun k => if k = 1 then 1 else if k = 3 then 2 else 0) r)), (4, .int i), (3, .ref (b + 2636)), (2, .ref (b + 2628)), (1, .ref b), (0, .ref a)] C dL_law_3323 (by decide) rfl ?_
  refine x_aload_n C dL_law_3325 rfl ?_
  refine x_goR (fun ls h => x_runV (As := []) [] h C ml_L_209 (c_X12_thrown l D cA s (b + 2628) q.2) ⟨rfl, rfl, nb rfl, nb rfl⟩ rfl (M_obj hw.2.1.2.2.2.2) rfl hw.2.1.2.2.2.2 (nb rfl) ⟨by show _ ≤ 601024; omega, by show _ ≤ 7293034; omega⟩ dL_law_3326) ?_
  refine x_iload C dL_law_3329 rfl ?_
  refine x_icmp_eq 3336 C dL_law_3331 (by decide) (fun _ => ?_) (fun z => absurd ht.symm z)
  refine x_iload C dL_law_3336 rfl ?_
  refine x_if_ne 3353 C dL_law_3338 (by decide) (fun _ => ?_) (fun h0 => ?_)
  · refine x_goto 4068 C dL_law_3353 (by decide) ?_
    refine x_sub [(4, .int i), (3, .ref (b + 2636)), (2, .ref (b + 2628)), (1, .ref b), (0, .ref a)] [2, 3, 4, 5, 6] rfl ?_
    refine x_widen (k := cells + 200) (n := slots + 2000) (by omega) (by omega) ?_
    exact kk _ _ hw hS
  have ho := ho h0
  refine x_aload_n C dL_law_3341 rfl ?_
  refine x_iconst (0 : Int32) C dL_law_3342 rfl ?_
  refine x_lald C hw.2.2 in01 dL_law_3343 ?_
  refine x_iload C dL_law_3344 rfl ?_
  refine x_i2l C dL_law_3346 ?_
  refine x_lcmp_eq 3353 C dL_law_3347 dL_law_3348 (by decide) (fun _ => ?_) (fun z => absurd ho z)
  refine x_goto 4068 C dL_law_3353 (by decide) ?_
  refine x_sub [(4, .int i), (3, .ref (b + 2636)), (2, .ref (b + 2628)), (1, .ref b), (0, .ref a)] [2, 3, 4, 5, 6] rfl ?_
  refine x_widen (k := cells + 200) (n := slots + 2000) (by omega) (by omega) ?_
  exact kk _ _ hw hS
set_option maxRecDepth 20000 in
set_option maxHeartbeats 4000000 in
theorem cs_52 {p : Program} {l : Launch} {e : Env} {s : State} {m : MethodId} {args : Array Value} {below : List Frame} {meth : Method} {c : Code} {Q : State → Prop} {H : Heap} {locs : List Loc} {cells slots : Nat} {D : va_G} {cA : Nat → ClassId} {a b L : Nat} {xs : Nat → Int32} {i : Int32} {ν μ : Mm} {oc : Nat → Int64} (C : xC D cA s RL cL_law 8 (some .boolean) p s m args meth c) (hG : xG l D cA s) (hNc : xNc s) (hX : va_X a L xs s s.heap) (hal : a < s.heap.size) (hw : LW D cA s b ν μ oc H) (hS : va_S (xOut s) s.heap H locs) (hcs : cells + 200 ≤ 601024 ∧ slots + 2000 ≤ 7293034) (a1 : Int32) (a2 : Int32) (r1 : vp_in (i + 1) L ∧ xs (i + 1).toNatClampNeg = a1) (r2 : vp_in (i + 2) L ∧ xs (i + 2).toNatClampNeg = a2) (r : Thr (Int64 × Mm)) (q : Int64 × Mm) (hF : g_X11_pay ν a1 a2 = some r) (hk : ∀ k, r = .error k → k = 1 ∨ k = 2) (hM : g_X12_pay μ a1 a2 = some q) (ht : (thC (fun k => if k = 1 then 1 else if k = 2 then 2 else 0) r) = f_X12_thrown q.2) (ho : (thC (fun k => if k = 1 then 1 else if k = 2 then 2 else 0) r) = 0 → (thO (fun q => q.1) oc r) 0 = q.1) (kk : ∀ (H1 : Heap) (locs1 : List Loc), LW D cA s b (thM (fun q => q.2) ν r) q.2 (thO (fun q => q.1) oc r) H1 → va_S (xOut s) s.heap H1 locs1 → xW p l e room_1 s m args below meth c 8 Q H1 locs1 (cells + 200) (slots + 2000) 4068 [(4, .int i), (3, .ref (b + 2636)), (2, .ref (b + 2628)), (1, .ref b), (0, .ref a)] []) : xW p l e room_1 s m args below meth c 8 Q H locs cells slots 3356 [(4, .int i), (3, .ref (b + 2636)), (2, .ref (b + 2628)), (1, .ref b), (0, .ref a)] [] := by
  refine x_aload_n C dL_law_3356 rfl ?_
  refine x_aload_n C dL_law_3357 rfl ?_
  refine x_iload C dL_law_3358 rfl ?_
  refine x_iconst (1 : Int32) C dL_law_3360 rfl ?_
  refine x_iadd C dL_law_3361 ?_
  refine x_sld C hX hal hS r1 dL_law_3362 ?_
  refine x_aload_n C dL_law_3363 rfl ?_
  refine x_iload C dL_law_3364 rfl ?_
  refine x_iconst (2 : Int32) C dL_law_3366 rfl ?_
  refine x_iadd C dL_law_3367 ?_
  refine x_sld C hX hal hS r2 dL_law_3368 ?_
  refine x_aload_n C dL_law_3369 rfl ?_
  refine x_goM (fun ls h => x_runH (As := [.ref b, .int a1, .int a2, .ref (b + 2636)]) [] h C (mw_L_pay 375 mlk_375) (k_L_pay l D cA s (b + 2637) b ν _ hG hNc (b + 2636) (by omega) (by omega) oc a1 a2 r hF hk) ⟨rfl, rfl, nb rfl, nb rfl⟩ rfl ⟨rfl, hw.1, hw.2.2⟩ (nb rfl) ⟨by show _ ≤ 601024; omega, by show _ ≤ 7293034; omega⟩ dL_law_3370) hS hw.aL (fun H1 locs1 hw1 hz1 hk1 hS1 => ?_)
  replace hw := hw.cls hw1 hk1
  replace hS := hS1
  clear hw1 hk1 hz1 hS1
  refine x_istore [(5, .int (thC (fun k => if k = 1 then 1 else if k = 2 then 2 else 0) r)), (4, .int i), (3, .ref (b + 2636)), (2, .ref (b + 2628)), (1, .ref b), (0, .ref a)] C dL_law_3373 (by decide) rfl ?_
  refine x_aload_n C dL_law_3375 rfl ?_
  refine x_aload_n C dL_law_3376 rfl ?_
  refine x_iload C dL_law_3377 rfl ?_
  refine x_iconst (1 : Int32) C dL_law_3379 rfl ?_
  refine x_iadd C dL_law_3380 ?_
  refine x_sld C hX hal hS r1 dL_law_3381 ?_
  refine x_aload_n C dL_law_3382 rfl ?_
  refine x_iload C dL_law_3383 rfl ?_
  refine x_iconst (2 : Int32) C dL_law_3385 rfl ?_
  refine x_iadd C dL_law_3386 ?_
  refine x_sld C hX hal hS r2 dL_law_3387 ?_
  refine x_goM (fun ls h => x_runV (As := [.int a1, .int a2]) [] h C ml_L_377 (k_X12_pay l D cA s (b + 2637) (b + 2628) μ _ hG a1 a2 q hM) ⟨rfl, rfl, nb rfl, nb rfl⟩ rfl (M_obj hw.2.1.2.2.2.2) rfl ⟨rfl, hw.2.1⟩ (nb rfl) ⟨by show _ ≤ 601024; omega, by show _ ≤ 7293034; omega⟩ dL_law_3388) hS hw.aM (fun H2 locs2 hw1 hz1 hk1 hS1 => ?_)
  replace hw := hw.mod hw1 hk1
  replace hS := hS1
  clear hw1 hk1 hz1 hS1
  refine x_lstore [(6, .long q.1), (5, .int (thC (fun k => if k = 1 then 1 else if k = 2 then 2 else 0) r)), (4, .int i), (3, .ref (b + 2636)), (2, .ref (b + 2628)), (1, .ref b), (0, .ref a)] C dL_law_3391 (by decide) rfl ?_
  refine x_aload_n C dL_law_3393 rfl ?_
  refine x_goR (fun ls h => x_runV (As := []) [] h C ml_L_209 (c_X12_thrown l D cA s (b + 2628) q.2) ⟨rfl, rfl, nb rfl, nb rfl⟩ rfl (M_obj hw.2.1.2.2.2.2) rfl hw.2.1.2.2.2.2 (nb rfl) ⟨by show _ ≤ 601024; omega, by show _ ≤ 7293034; omega⟩ dL_law_3394) ?_
  refine x_iload C dL_law_3397 rfl ?_
  refine x_icmp_eq 3404 C dL_law_3399 (by decide) (fun _ => ?_) (fun z => absurd ht.symm z)
  refine x_iload C dL_law_3404 rfl ?_
  refine x_if_ne 3420 C dL_law_3406 (by decide) (fun _ => ?_) (fun h0 => ?_)
  · refine x_goto 4068 C dL_law_3420 (by decide) ?_
    refine x_sub [(4, .int i), (3, .ref (b + 2636)), (2, .ref (b + 2628)), (1, .ref b), (0, .ref a)] [2, 3, 4, 5, 6] rfl ?_
    refine x_widen (k := cells + 200) (n := slots + 2000) (by omega) (by omega) ?_
    exact kk _ _ hw hS
  have ho := ho h0
  refine x_aload_n C dL_law_3409 rfl ?_
  refine x_iconst (0 : Int32) C dL_law_3410 rfl ?_
  refine x_lald C hw.2.2 in01 dL_law_3411 ?_
  refine x_lload C dL_law_3412 rfl ?_
  refine x_lcmp_eq 3420 C dL_law_3414 dL_law_3415 (by decide) (fun _ => ?_) (fun z => absurd ho z)
  refine x_goto 4068 C dL_law_3420 (by decide) ?_
  refine x_sub [(4, .int i), (3, .ref (b + 2636)), (2, .ref (b + 2628)), (1, .ref b), (0, .ref a)] [2, 3, 4, 5, 6] rfl ?_
  refine x_widen (k := cells + 200) (n := slots + 2000) (by omega) (by omega) ?_
  exact kk _ _ hw hS
set_option maxRecDepth 20000 in
set_option maxHeartbeats 4000000 in
theorem cs_53 {p : Program} {l : Launch} {e : Env} {s : State} {m : MethodId} {args : Array Value} {below : List Frame} {meth : Method} {c : Code} {Q : State → Prop} {H : Heap} {locs : List Loc} {cells slots : Nat} {D : va_G} {cA : Nat → ClassId} {a b L : Nat} {xs : Nat → Int32} {i : Int32} {ν μ : Mm} {oc : Nat → Int64} (C : xC D cA s RL cL_law 8 (some .boolean) p s m args meth c) (hG : xG l D cA s) (hNc : xNc s) (hX : va_X a L xs s s.heap) (hal : a < s.heap.size) (hw : LW D cA s b ν μ oc H) (hS : va_S (xOut s) s.heap H locs) (hcs : cells + 200 ≤ 601024 ∧ slots + 2000 ≤ 7293034) (a1 : Int32) (r1 : vp_in (i + 1) L ∧ xs (i + 1).toNatClampNeg = a1) (r : Thr (Int32 × Mm)) (q : Int32 × Mm) (hF : g_X11_advance ν a1 = some r) (hk : ∀ k, r = .error k → k = 2 ∨ k = 3) (hM : g_X12_advance μ a1 = some q) (ht : (thC (fun k => if k = 2 then 1 else if k = 3 then 2 else 0) r) = f_X12_thrown q.2) (ho : (thC (fun k => if k = 2 then 1 else if k = 3 then 2 else 0) r) = 0 → (thO (fun q => q.1.toInt64) oc r) 0 = q.1.toInt64) (kk : ∀ (H1 : Heap) (locs1 : List Loc), LW D cA s b (thM (fun q => q.2) ν r) q.2 (thO (fun q => q.1.toInt64) oc r) H1 → va_S (xOut s) s.heap H1 locs1 → xW p l e room_1 s m args below meth c 8 Q H1 locs1 (cells + 200) (slots + 2000) 4068 [(4, .int i), (3, .ref (b + 2636)), (2, .ref (b + 2628)), (1, .ref b), (0, .ref a)] []) : xW p l e room_1 s m args below meth c 8 Q H locs cells slots 3423 [(4, .int i), (3, .ref (b + 2636)), (2, .ref (b + 2628)), (1, .ref b), (0, .ref a)] [] := by
  refine x_aload_n C dL_law_3423 rfl ?_
  refine x_aload_n C dL_law_3424 rfl ?_
  refine x_iload C dL_law_3425 rfl ?_
  refine x_iconst (1 : Int32) C dL_law_3427 rfl ?_
  refine x_iadd C dL_law_3428 ?_
  refine x_sld C hX hal hS r1 dL_law_3429 ?_
  refine x_aload_n C dL_law_3430 rfl ?_
  refine x_goM (fun ls h => x_runH (As := [.ref b, .int a1, .ref (b + 2636)]) [] h C (mw_L_advance 378 mlk_378) (k_L_advance l D cA s (b + 2637) b ν _ hG hNc (b + 2636) (by omega) (by omega) oc a1 r hF hk) ⟨rfl, rfl, nb rfl, nb rfl⟩ rfl ⟨rfl, hw.1, hw.2.2⟩ (nb rfl) ⟨by show _ ≤ 601024; omega, by show _ ≤ 7293034; omega⟩ dL_law_3431) hS hw.aL (fun H1 locs1 hw1 hz1 hk1 hS1 => ?_)
  replace hw := hw.cls hw1 hk1
  replace hS := hS1
  clear hw1 hk1 hz1 hS1
  refine x_istore [(5, .int (thC (fun k => if k = 2 then 1 else if k = 3 then 2 else 0) r)), (4, .int i), (3, .ref (b + 2636)), (2, .ref (b + 2628)), (1, .ref b), (0, .ref a)] C dL_law_3434 (by decide) rfl ?_
  refine x_aload_n C dL_law_3436 rfl ?_
  refine x_aload_n C dL_law_3437 rfl ?_
  refine x_iload C dL_law_3438 rfl ?_
  refine x_iconst (1 : Int32) C dL_law_3440 rfl ?_
  refine x_iadd C dL_law_3441 ?_
  refine x_sld C hX hal hS r1 dL_law_3442 ?_
  refine x_goM (fun ls h => x_runV (As := [.int a1]) [] h C ml_L_380 (k_X12_advance l D cA s (b + 2637) (b + 2628) μ _ hG a1 q hM) ⟨rfl, rfl, nb rfl, nb rfl⟩ rfl (M_obj hw.2.1.2.2.2.2) rfl ⟨rfl, hw.2.1⟩ (nb rfl) ⟨by show _ ≤ 601024; omega, by show _ ≤ 7293034; omega⟩ dL_law_3443) hS hw.aM (fun H2 locs2 hw1 hz1 hk1 hS1 => ?_)
  replace hw := hw.mod hw1 hk1
  replace hS := hS1
  clear hw1 hk1 hz1 hS1
  refine x_istore [(6, .int q.1), (5, .int (thC (fun k => if k = 2 then 1 else if k = 3 then 2 else 0) r)), (4, .int i), (3, .ref (b + 2636)), (2, .ref (b + 2628)), (1, .ref b), (0, .ref a)] C dL_law_3446 (by decide) rfl ?_
  refine x_aload_n C dL_law_3448 rfl ?_
  refine x_goR (fun ls h => x_runV (As := []) [] h C ml_L_209 (c_X12_thrown l D cA s (b + 2628) q.2) ⟨rfl, rfl, nb rfl, nb rfl⟩ rfl (M_obj hw.2.1.2.2.2.2) rfl hw.2.1.2.2.2.2 (nb rfl) ⟨by show _ ≤ 601024; omega, by show _ ≤ 7293034; omega⟩ dL_law_3449) ?_
  refine x_iload C dL_law_3452 rfl ?_
  refine x_icmp_eq 3459 C dL_law_3454 (by decide) (fun _ => ?_) (fun z => absurd ht.symm z)
  refine x_iload C dL_law_3459 rfl ?_
  refine x_if_ne 3476 C dL_law_3461 (by decide) (fun _ => ?_) (fun h0 => ?_)
  · refine x_goto 4068 C dL_law_3476 (by decide) ?_
    refine x_sub [(4, .int i), (3, .ref (b + 2636)), (2, .ref (b + 2628)), (1, .ref b), (0, .ref a)] [2, 3, 4, 5, 6] rfl ?_
    refine x_widen (k := cells + 200) (n := slots + 2000) (by omega) (by omega) ?_
    exact kk _ _ hw hS
  have ho := ho h0
  refine x_aload_n C dL_law_3464 rfl ?_
  refine x_iconst (0 : Int32) C dL_law_3465 rfl ?_
  refine x_lald C hw.2.2 in01 dL_law_3466 ?_
  refine x_iload C dL_law_3467 rfl ?_
  refine x_i2l C dL_law_3469 ?_
  refine x_lcmp_eq 3476 C dL_law_3470 dL_law_3471 (by decide) (fun _ => ?_) (fun z => absurd ho z)
  refine x_goto 4068 C dL_law_3476 (by decide) ?_
  refine x_sub [(4, .int i), (3, .ref (b + 2636)), (2, .ref (b + 2628)), (1, .ref b), (0, .ref a)] [2, 3, 4, 5, 6] rfl ?_
  refine x_widen (k := cells + 200) (n := slots + 2000) (by omega) (by omega) ?_
  exact kk _ _ hw hS
set_option maxRecDepth 20000 in
set_option maxHeartbeats 4000000 in
theorem cs_54 {p : Program} {l : Launch} {e : Env} {s : State} {m : MethodId} {args : Array Value} {below : List Frame} {meth : Method} {c : Code} {Q : State → Prop} {H : Heap} {locs : List Loc} {cells slots : Nat} {D : va_G} {cA : Nat → ClassId} {a b L : Nat} {xs : Nat → Int32} {i : Int32} {ν μ : Mm} {oc : Nat → Int64} (C : xC D cA s RL cL_law 8 (some .boolean) p s m args meth c) (hG : xG l D cA s) (hNc : xNc s) (hX : va_X a L xs s s.heap) (hal : a < s.heap.size) (hw : LW D cA s b ν μ oc H) (hS : va_S (xOut s) s.heap H locs) (hcs : cells + 200 ≤ 601024 ∧ slots + 2000 ≤ 7293034) (a1 : Int32) (a2 : Int32) (r1 : vp_in (i + 1) L ∧ xs (i + 1).toNatClampNeg = a1) (r2 : vp_in (i + 2) L ∧ xs (i + 2).toNatClampNeg = a2) (r : Thr (Int32 × Mm)) (q : Int32 × Mm) (hF : g_X11_setRate ν a1 a2 = some r) (hk : ∀ k, r = .error k → k = 1 ∨ k = 2 ∨ k = 3) (hM : g_X12_setRate μ a1 a2 = some q) (ht : (thC (fun k => if k = 1 then 1 else if k = 2 then 2 else if k = 3 then 3 else 0) r) = f_X12_thrown q.2) (ho : (thC (fun k => if k = 1 then 1 else if k = 2 then 2 else if k = 3 then 3 else 0) r) = 0 → (thO (fun q => q.1.toInt64) oc r) 0 = q.1.toInt64) (kk : ∀ (H1 : Heap) (locs1 : List Loc), LW D cA s b (thM (fun q => q.2) ν r) q.2 (thO (fun q => q.1.toInt64) oc r) H1 → va_S (xOut s) s.heap H1 locs1 → xW p l e room_1 s m args below meth c 8 Q H1 locs1 (cells + 200) (slots + 2000) 4068 [(4, .int i), (3, .ref (b + 2636)), (2, .ref (b + 2628)), (1, .ref b), (0, .ref a)] []) : xW p l e room_1 s m args below meth c 8 Q H locs cells slots 3479 [(4, .int i), (3, .ref (b + 2636)), (2, .ref (b + 2628)), (1, .ref b), (0, .ref a)] [] := by
  refine x_aload_n C dL_law_3479 rfl ?_
  refine x_aload_n C dL_law_3480 rfl ?_
  refine x_iload C dL_law_3481 rfl ?_
  refine x_iconst (1 : Int32) C dL_law_3483 rfl ?_
  refine x_iadd C dL_law_3484 ?_
  refine x_sld C hX hal hS r1 dL_law_3485 ?_
  refine x_aload_n C dL_law_3486 rfl ?_
  refine x_iload C dL_law_3487 rfl ?_
  refine x_iconst (2 : Int32) C dL_law_3489 rfl ?_
  refine x_iadd C dL_law_3490 ?_
  refine x_sld C hX hal hS r2 dL_law_3491 ?_
  refine x_aload_n C dL_law_3492 rfl ?_
  refine x_goM (fun ls h => x_runH (As := [.ref b, .int a1, .int a2, .ref (b + 2636)]) [] h C (mw_L_setRate 381 mlk_381) (k_L_setRate l D cA s (b + 2637) b ν _ hG hNc (b + 2636) (by omega) (by omega) oc a1 a2 r hF hk) ⟨rfl, rfl, nb rfl, nb rfl⟩ rfl ⟨rfl, hw.1, hw.2.2⟩ (nb rfl) ⟨by show _ ≤ 601024; omega, by show _ ≤ 7293034; omega⟩ dL_law_3493) hS hw.aL (fun H1 locs1 hw1 hz1 hk1 hS1 => ?_)
  replace hw := hw.cls hw1 hk1
  replace hS := hS1
  clear hw1 hk1 hz1 hS1
  refine x_istore [(5, .int (thC (fun k => if k = 1 then 1 else if k = 2 then 2 else if k = 3 then 3 else 0) r)), (4, .int i), (3, .ref (b + 2636)), (2, .ref (b + 2628)), (1, .ref b), (0, .ref a)] C dL_law_3496 (by decide) rfl ?_
  refine x_aload_n C dL_law_3498 rfl ?_
  refine x_aload_n C dL_law_3499 rfl ?_
  refine x_iload C dL_law_3500 rfl ?_
  refine x_iconst (1 : Int32) C dL_law_3502 rfl ?_
  refine x_iadd C dL_law_3503 ?_
  refine x_sld C hX hal hS r1 dL_law_3504 ?_
  refine x_aload_n C dL_law_3505 rfl ?_
  refine x_iload C dL_law_3506 rfl ?_
  refine x_iconst (2 : Int32) C dL_law_3508 rfl ?_
  refine x_iadd C dL_law_3509 ?_
  refine x_sld C hX hal hS r2 dL_law_3510 ?_
  refine x_goM (fun ls h => x_runV (As := [.int a1, .int a2]) [] h C ml_L_383 (k_X12_setRate l D cA s (b + 2637) (b + 2628) μ _ hG a1 a2 q hM) ⟨rfl, rfl, nb rfl, nb rfl⟩ rfl (M_obj hw.2.1.2.2.2.2) rfl ⟨rfl, hw.2.1⟩ (nb rfl) ⟨by show _ ≤ 601024; omega, by show _ ≤ 7293034; omega⟩ dL_law_3511) hS hw.aM (fun H2 locs2 hw1 hz1 hk1 hS1 => ?_)
  replace hw := hw.mod hw1 hk1
  replace hS := hS1
  clear hw1 hk1 hz1 hS1
  refine x_istore [(6, .int q.1), (5, .int (thC (fun k => if k = 1 then 1 else if k = 2 then 2 else if k = 3 then 3 else 0) r)), (4, .int i), (3, .ref (b + 2636)), (2, .ref (b + 2628)), (1, .ref b), (0, .ref a)] C dL_law_3514 (by decide) rfl ?_
  refine x_aload_n C dL_law_3516 rfl ?_
  refine x_goR (fun ls h => x_runV (As := []) [] h C ml_L_209 (c_X12_thrown l D cA s (b + 2628) q.2) ⟨rfl, rfl, nb rfl, nb rfl⟩ rfl (M_obj hw.2.1.2.2.2.2) rfl hw.2.1.2.2.2.2 (nb rfl) ⟨by show _ ≤ 601024; omega, by show _ ≤ 7293034; omega⟩ dL_law_3517) ?_
  refine x_iload C dL_law_3520 rfl ?_
  refine x_icmp_eq 3527 C dL_law_3522 (by decide) (fun _ => ?_) (fun z => absurd ht.symm z)
  refine x_iload C dL_law_3527 rfl ?_
  refine x_if_ne 3544 C dL_law_3529 (by decide) (fun _ => ?_) (fun h0 => ?_)
  · refine x_goto 4068 C dL_law_3544 (by decide) ?_
    refine x_sub [(4, .int i), (3, .ref (b + 2636)), (2, .ref (b + 2628)), (1, .ref b), (0, .ref a)] [2, 3, 4, 5, 6] rfl ?_
    refine x_widen (k := cells + 200) (n := slots + 2000) (by omega) (by omega) ?_
    exact kk _ _ hw hS
  have ho := ho h0
  refine x_aload_n C dL_law_3532 rfl ?_
  refine x_iconst (0 : Int32) C dL_law_3533 rfl ?_
  refine x_lald C hw.2.2 in01 dL_law_3534 ?_
  refine x_iload C dL_law_3535 rfl ?_
  refine x_i2l C dL_law_3537 ?_
  refine x_lcmp_eq 3544 C dL_law_3538 dL_law_3539 (by decide) (fun _ => ?_) (fun z => absurd ho z)
  refine x_goto 4068 C dL_law_3544 (by decide) ?_
  refine x_sub [(4, .int i), (3, .ref (b + 2636)), (2, .ref (b + 2628)), (1, .ref b), (0, .ref a)] [2, 3, 4, 5, 6] rfl ?_
  refine x_widen (k := cells + 200) (n := slots + 2000) (by omega) (by omega) ?_
  exact kk _ _ hw hS
set_option maxRecDepth 20000 in
set_option maxHeartbeats 4000000 in
theorem cs_55 {p : Program} {l : Launch} {e : Env} {s : State} {m : MethodId} {args : Array Value} {below : List Frame} {meth : Method} {c : Code} {Q : State → Prop} {H : Heap} {locs : List Loc} {cells slots : Nat} {D : va_G} {cA : Nat → ClassId} {a b L : Nat} {xs : Nat → Int32} {i : Int32} {ν μ : Mm} {oc : Nat → Int64} (C : xC D cA s RL cL_law 8 (some .boolean) p s m args meth c) (hG : xG l D cA s) (hNc : xNc s) (hX : va_X a L xs s s.heap) (hal : a < s.heap.size) (hw : LW D cA s b ν μ oc H) (hS : va_S (xOut s) s.heap H locs) (hcs : cells + 200 ≤ 601024 ∧ slots + 2000 ≤ 7293034) (a1 : Int32) (a2 : Int32) (r1 : vp_in (i + 1) L ∧ xs (i + 1).toNatClampNeg = a1) (r2 : vp_in (i + 2) L ∧ xs (i + 2).toNatClampNeg = a2) (r : Thr (Int32 × Mm)) (q : Int32 × Mm) (hF : g_X11_setPercent ν a1 a2 = some r) (hk : ∀ k, r = .error k → k = 1 ∨ k = 2 ∨ k = 3) (hM : g_X12_setPercent μ a1 a2 = some q) (ht : (thC (fun k => if k = 1 then 1 else if k = 2 then 2 else if k = 3 then 3 else 0) r) = f_X12_thrown q.2) (ho : (thC (fun k => if k = 1 then 1 else if k = 2 then 2 else if k = 3 then 3 else 0) r) = 0 → (thO (fun q => q.1.toInt64) oc r) 0 = q.1.toInt64) (kk : ∀ (H1 : Heap) (locs1 : List Loc), LW D cA s b (thM (fun q => q.2) ν r) q.2 (thO (fun q => q.1.toInt64) oc r) H1 → va_S (xOut s) s.heap H1 locs1 → xW p l e room_1 s m args below meth c 8 Q H1 locs1 (cells + 200) (slots + 2000) 4068 [(4, .int i), (3, .ref (b + 2636)), (2, .ref (b + 2628)), (1, .ref b), (0, .ref a)] []) : xW p l e room_1 s m args below meth c 8 Q H locs cells slots 3547 [(4, .int i), (3, .ref (b + 2636)), (2, .ref (b + 2628)), (1, .ref b), (0, .ref a)] [] := by
  refine x_aload_n C dL_law_3547 rfl ?_
  refine x_aload_n C dL_law_3548 rfl ?_
  refine x_iload C dL_law_3549 rfl ?_
  refine x_iconst (1 : Int32) C dL_law_3551 rfl ?_
  refine x_iadd C dL_law_3552 ?_
  refine x_sld C hX hal hS r1 dL_law_3553 ?_
  refine x_aload_n C dL_law_3554 rfl ?_
  refine x_iload C dL_law_3555 rfl ?_
  refine x_iconst (2 : Int32) C dL_law_3557 rfl ?_
  refine x_iadd C dL_law_3558 ?_
  refine x_sld C hX hal hS r2 dL_law_3559 ?_
  refine x_aload_n C dL_law_3560 rfl ?_
  refine x_goM (fun ls h => x_runH (As := [.ref b, .int a1, .int a2, .ref (b + 2636)]) [] h C (mw_L_setPercent 384 mlk_384) (k_L_setPercent l D cA s (b + 2637) b ν _ hG hNc (b + 2636) (by omega) (by omega) oc a1 a2 r hF hk) ⟨rfl, rfl, nb rfl, nb rfl⟩ rfl ⟨rfl, hw.1, hw.2.2⟩ (nb rfl) ⟨by show _ ≤ 601024; omega, by show _ ≤ 7293034; omega⟩ dL_law_3561) hS hw.aL (fun H1 locs1 hw1 hz1 hk1 hS1 => ?_)
  replace hw := hw.cls hw1 hk1
  replace hS := hS1
  clear hw1 hk1 hz1 hS1
  refine x_istore [(5, .int (thC (fun k => if k = 1 then 1 else if k = 2 then 2 else if k = 3 then 3 else 0) r)), (4, .int i), (3, .ref (b + 2636)), (2, .ref (b + 2628)), (1, .ref b), (0, .ref a)] C dL_law_3564 (by decide) rfl ?_
  refine x_aload_n C dL_law_3566 rfl ?_
  refine x_aload_n C dL_law_3567 rfl ?_
  refine x_iload C dL_law_3568 rfl ?_
  refine x_iconst (1 : Int32) C dL_law_3570 rfl ?_
  refine x_iadd C dL_law_3571 ?_
  refine x_sld C hX hal hS r1 dL_law_3572 ?_
  refine x_aload_n C dL_law_3573 rfl ?_
  refine x_iload C dL_law_3574 rfl ?_
  refine x_iconst (2 : Int32) C dL_law_3576 rfl ?_
  refine x_iadd C dL_law_3577 ?_
  refine x_sld C hX hal hS r2 dL_law_3578 ?_
  refine x_goM (fun ls h => x_runV (As := [.int a1, .int a2]) [] h C ml_L_386 (k_X12_setPercent l D cA s (b + 2637) (b + 2628) μ _ hG a1 a2 q hM) ⟨rfl, rfl, nb rfl, nb rfl⟩ rfl (M_obj hw.2.1.2.2.2.2) rfl ⟨rfl, hw.2.1⟩ (nb rfl) ⟨by show _ ≤ 601024; omega, by show _ ≤ 7293034; omega⟩ dL_law_3579) hS hw.aM (fun H2 locs2 hw1 hz1 hk1 hS1 => ?_)
  replace hw := hw.mod hw1 hk1
  replace hS := hS1
  clear hw1 hk1 hz1 hS1
  refine x_istore [(6, .int q.1), (5, .int (thC (fun k => if k = 1 then 1 else if k = 2 then 2 else if k = 3 then 3 else 0) r)), (4, .int i), (3, .ref (b + 2636)), (2, .ref (b + 2628)), (1, .ref b), (0, .ref a)] C dL_law_3582 (by decide) rfl ?_
  refine x_aload_n C dL_law_3584 rfl ?_
  refine x_goR (fun ls h => x_runV (As := []) [] h C ml_L_209 (c_X12_thrown l D cA s (b + 2628) q.2) ⟨rfl, rfl, nb rfl, nb rfl⟩ rfl (M_obj hw.2.1.2.2.2.2) rfl hw.2.1.2.2.2.2 (nb rfl) ⟨by show _ ≤ 601024; omega, by show _ ≤ 7293034; omega⟩ dL_law_3585) ?_
  refine x_iload C dL_law_3588 rfl ?_
  refine x_icmp_eq 3595 C dL_law_3590 (by decide) (fun _ => ?_) (fun z => absurd ht.symm z)
  refine x_iload C dL_law_3595 rfl ?_
  refine x_if_ne 3612 C dL_law_3597 (by decide) (fun _ => ?_) (fun h0 => ?_)
  · refine x_goto 4068 C dL_law_3612 (by decide) ?_
    refine x_sub [(4, .int i), (3, .ref (b + 2636)), (2, .ref (b + 2628)), (1, .ref b), (0, .ref a)] [2, 3, 4, 5, 6] rfl ?_
    refine x_widen (k := cells + 200) (n := slots + 2000) (by omega) (by omega) ?_
    exact kk _ _ hw hS
  have ho := ho h0
  refine x_aload_n C dL_law_3600 rfl ?_
  refine x_iconst (0 : Int32) C dL_law_3601 rfl ?_
  refine x_lald C hw.2.2 in01 dL_law_3602 ?_
  refine x_iload C dL_law_3603 rfl ?_
  refine x_i2l C dL_law_3605 ?_
  refine x_lcmp_eq 3612 C dL_law_3606 dL_law_3607 (by decide) (fun _ => ?_) (fun z => absurd ho z)
  refine x_goto 4068 C dL_law_3612 (by decide) ?_
  refine x_sub [(4, .int i), (3, .ref (b + 2636)), (2, .ref (b + 2628)), (1, .ref b), (0, .ref a)] [2, 3, 4, 5, 6] rfl ?_
  refine x_widen (k := cells + 200) (n := slots + 2000) (by omega) (by omega) ?_
  exact kk _ _ hw hS
set_option maxRecDepth 20000 in
set_option maxHeartbeats 4000000 in
theorem cs_56 {p : Program} {l : Launch} {e : Env} {s : State} {m : MethodId} {args : Array Value} {below : List Frame} {meth : Method} {c : Code} {Q : State → Prop} {H : Heap} {locs : List Loc} {cells slots : Nat} {D : va_G} {cA : Nat → ClassId} {a b L : Nat} {xs : Nat → Int32} {i : Int32} {ν μ : Mm} {oc : Nat → Int64} (C : xC D cA s RL cL_law 8 (some .boolean) p s m args meth c) (hG : xG l D cA s) (hNc : xNc s) (hX : va_X a L xs s s.heap) (hal : a < s.heap.size) (hw : LW D cA s b ν μ oc H) (hS : va_S (xOut s) s.heap H locs) (hcs : cells + 200 ≤ 601024 ∧ slots + 2000 ≤ 7293034) (a1 : Int32) (a2 : Int32) (r1 : vp_in (i + 1) L ∧ xs (i + 1).toNatClampNeg = a1) (r2 : vp_in (i + 2) L ∧ xs (i + 2).toNatClampNeg = a2) (r : Thr (Int32 × Mm)) (q : Int32 × Mm) (hF : g_X11_setLay ν a1 a2 = some r) (hk : ∀ k, r = .error k → k = 2 ∨ k = 3) (hM : g_X12_setLay μ a1 a2 = some q) (ht : (thC (fun k => if k = 2 then 1 else if k = 3 then 2 else 0) r) = f_X12_thrown q.2) (ho : (thC (fun k => if k = 2 then 1 else if k = 3 then 2 else 0) r) = 0 → (thO (fun q => q.1.toInt64) oc r) 0 = q.1.toInt64) (kk : ∀ (H1 : Heap) (locs1 : List Loc), LW D cA s b (thM (fun q => q.2) ν r) q.2 (thO (fun q => q.1.toInt64) oc r) H1 → va_S (xOut s) s.heap H1 locs1 → xW p l e room_1 s m args below meth c 8 Q H1 locs1 (cells + 200) (slots + 2000) 4068 [(4, .int i), (3, .ref (b + 2636)), (2, .ref (b + 2628)), (1, .ref b), (0, .ref a)] []) : xW p l e room_1 s m args below meth c 8 Q H locs cells slots 3615 [(4, .int i), (3, .ref (b + 2636)), (2, .ref (b + 2628)), (1, .ref b), (0, .ref a)] [] := by
  refine x_aload_n C dL_law_3615 rfl ?_
  refine x_aload_n C dL_law_3616 rfl ?_
  refine x_iload C dL_law_3617 rfl ?_
  refine x_iconst (1 : Int32) C dL_law_3619 rfl ?_
  refine x_iadd C dL_law_3620 ?_
  refine x_sld C hX hal hS r1 dL_law_3621 ?_
  refine x_aload_n C dL_law_3622 rfl ?_
  refine x_iload C dL_law_3623 rfl ?_
  refine x_iconst (2 : Int32) C dL_law_3625 rfl ?_
  refine x_iadd C dL_law_3626 ?_
  refine x_sld C hX hal hS r2 dL_law_3627 ?_
  refine x_aload_n C dL_law_3628 rfl ?_
  refine x_goM (fun ls h => x_runH (As := [.ref b, .int a1, .int a2, .ref (b + 2636)]) [] h C (mw_L_setLay 387 mlk_387) (k_L_setLay l D cA s (b + 2637) b ν _ hG hNc (b + 2636) (by omega) (by omega) oc a1 a2 r hF hk) ⟨rfl, rfl, nb rfl, nb rfl⟩ rfl ⟨rfl, hw.1, hw.2.2⟩ (nb rfl) ⟨by show _ ≤ 601024; omega, by show _ ≤ 7293034; omega⟩ dL_law_3629) hS hw.aL (fun H1 locs1 hw1 hz1 hk1 hS1 => ?_)
  replace hw := hw.cls hw1 hk1
  replace hS := hS1
  clear hw1 hk1 hz1 hS1
  refine x_istore [(5, .int (thC (fun k => if k = 2 then 1 else if k = 3 then 2 else 0) r)), (4, .int i), (3, .ref (b + 2636)), (2, .ref (b + 2628)), (1, .ref b), (0, .ref a)] C dL_law_3632 (by decide) rfl ?_
  refine x_aload_n C dL_law_3634 rfl ?_
  refine x_aload_n C dL_law_3635 rfl ?_
  refine x_iload C dL_law_3636 rfl ?_
  refine x_iconst (1 : Int32) C dL_law_3638 rfl ?_
  refine x_iadd C dL_law_3639 ?_
  refine x_sld C hX hal hS r1 dL_law_3640 ?_
  refine x_aload_n C dL_law_3641 rfl ?_
  refine x_iload C dL_law_3642 rfl ?_
  refine x_iconst (2 : Int32) C dL_law_3644 rfl ?_
  refine x_iadd C dL_law_3645 ?_
  refine x_sld C hX hal hS r2 dL_law_3646 ?_
  refine x_goM (fun ls h => x_runV (As := [.int a1, .int a2]) [] h C ml_L_389 (k_X12_setLay l D cA s (b + 2637) (b + 2628) μ _ hG a1 a2 q hM) ⟨rfl, rfl, nb rfl, nb rfl⟩ rfl (M_obj hw.2.1.2.2.2.2) rfl ⟨rfl, hw.2.1⟩ (nb rfl) ⟨by show _ ≤ 601024; omega, by show _ ≤ 7293034; omega⟩ dL_law_3647) hS hw.aM (fun H2 locs2 hw1 hz1 hk1 hS1 => ?_)
  replace hw := hw.mod hw1 hk1
  replace hS := hS1
  clear hw1 hk1 hz1 hS1
  refine x_istore [(6, .int q.1), (5, .int (thC (fun k => if k = 2 then 1 else if k = 3 then 2 else 0) r)), (4, .int i), (3, .ref (b + 2636)), (2, .ref (b + 2628)), (1, .ref b), (0, .ref a)] C dL_law_3650 (by decide) rfl ?_
  refine x_aload_n C dL_law_3652 rfl ?_
  refine x_goR (fun ls h => x_runV (As := []) [] h C ml_L_209 (c_X12_thrown l D cA s (b + 2628) q.2) ⟨rfl, rfl, nb rfl, nb rfl⟩ rfl (M_obj hw.2.1.2.2.2.2) rfl hw.2.1.2.2.2.2 (nb rfl) ⟨by show _ ≤ 601024; omega, by show _ ≤ 7293034; omega⟩ dL_law_3653) ?_
  refine x_iload C dL_law_3656 rfl ?_
  refine x_icmp_eq 3663 C dL_law_3658 (by decide) (fun _ => ?_) (fun z => absurd ht.symm z)
  refine x_iload C dL_law_3663 rfl ?_
  refine x_if_ne 3680 C dL_law_3665 (by decide) (fun _ => ?_) (fun h0 => ?_)
  · refine x_goto 4068 C dL_law_3680 (by decide) ?_
    refine x_sub [(4, .int i), (3, .ref (b + 2636)), (2, .ref (b + 2628)), (1, .ref b), (0, .ref a)] [2, 3, 4, 5, 6] rfl ?_
    refine x_widen (k := cells + 200) (n := slots + 2000) (by omega) (by omega) ?_
    exact kk _ _ hw hS
  have ho := ho h0
  refine x_aload_n C dL_law_3668 rfl ?_
  refine x_iconst (0 : Int32) C dL_law_3669 rfl ?_
  refine x_lald C hw.2.2 in01 dL_law_3670 ?_
  refine x_iload C dL_law_3671 rfl ?_
  refine x_i2l C dL_law_3673 ?_
  refine x_lcmp_eq 3680 C dL_law_3674 dL_law_3675 (by decide) (fun _ => ?_) (fun z => absurd ho z)
  refine x_goto 4068 C dL_law_3680 (by decide) ?_
  refine x_sub [(4, .int i), (3, .ref (b + 2636)), (2, .ref (b + 2628)), (1, .ref b), (0, .ref a)] [2, 3, 4, 5, 6] rfl ?_
  refine x_widen (k := cells + 200) (n := slots + 2000) (by omega) (by omega) ?_
  exact kk _ _ hw hS
set_option maxRecDepth 20000 in
set_option maxHeartbeats 4000000 in
theorem cs_57 {p : Program} {l : Launch} {e : Env} {s : State} {m : MethodId} {args : Array Value} {below : List Frame} {meth : Method} {c : Code} {Q : State → Prop} {H : Heap} {locs : List Loc} {cells slots : Nat} {D : va_G} {cA : Nat → ClassId} {a b L : Nat} {xs : Nat → Int32} {i : Int32} {ν μ : Mm} {oc : Nat → Int64} (C : xC D cA s RL cL_law 8 (some .boolean) p s m args meth c) (hG : xG l D cA s) (hNc : xNc s) (hX : va_X a L xs s s.heap) (hal : a < s.heap.size) (hw : LW D cA s b ν μ oc H) (hS : va_S (xOut s) s.heap H locs) (hcs : cells + 200 ≤ 601024 ∧ slots + 2000 ≤ 7293034)   (r : Thr (Int32 × Mm)) (q : Int32 × Mm) (hF : g_X11_undo ν  = some r) (hk : ∀ k, r = .error k → k = 3) (hM : g_X12_undo μ = some q) (ht : (thC (fun k => if k = 3 then 1 else 0) r) = f_X12_thrown q.2) (ho : (thC (fun k => if k = 3 then 1 else 0) r) = 0 → (thO (fun q => q.1.toInt64) oc r) 0 = q.1.toInt64) (kk : ∀ (H1 : Heap) (locs1 : List Loc), LW D cA s b (thM (fun q => q.2) ν r) q.2 (thO (fun q => q.1.toInt64) oc r) H1 → va_S (xOut s) s.heap H1 locs1 → xW p l e room_1 s m args below meth c 8 Q H1 locs1 (cells + 200) (slots + 2000) 4068 [(4, .int i), (3, .ref (b + 2636)), (2, .ref (b + 2628)), (1, .ref b), (0, .ref a)] []) : xW p l e room_1 s m args below meth c 8 Q H locs cells slots 3683 [(4, .int i), (3, .ref (b + 2636)), (2, .ref (b + 2628)), (1, .ref b), (0, .ref a)] [] := by
  refine x_aload_n C dL_law_3683 rfl ?_
  refine x_aload_n C dL_law_3684 rfl ?_
  refine x_goM (fun ls h => x_runH (As := [.ref b, .ref (b + 2636)]) [] h C (mw_L_undo 390 mlk_390) (k_L_undo l D cA s (b + 2637) b ν _ hG hNc (b + 2636) (by omega) (by omega) oc  r hF hk) ⟨rfl, rfl, nb rfl, nb rfl⟩ rfl ⟨rfl, hw.1, hw.2.2⟩ (nb rfl) ⟨by show _ ≤ 601024; omega, by show _ ≤ 7293034; omega⟩ dL_law_3685) hS hw.aL (fun H1 locs1 hw1 hz1 hk1 hS1 => ?_)
  replace hw := hw.cls hw1 hk1
  replace hS := hS1
  clear hw1 hk1 hz1 hS1
  refine x_istore [(5, .int (thC (fun k => if k = 3 then 1 else 0) r)), (4, .int i), (3, .ref (b + 2636)), (2, .ref (b + 2628)), (1, .ref b), (0, .ref a)] C dL_law_3688 (by decide) rfl ?_
  refine x_aload_n C dL_law_3690 rfl ?_
  refine x_goM (fun ls h => x_runV (As := []) [] h C ml_L_393 (k_X12_undo l D cA s (b + 2637) (b + 2628) μ _ hG q hM) ⟨rfl, rfl, nb rfl, nb rfl⟩ rfl (M_obj hw.2.1.2.2.2.2) rfl ⟨rfl, hw.2.1⟩ (nb rfl) ⟨by show _ ≤ 601024; omega, by show _ ≤ 7293034; omega⟩ dL_law_3691) hS hw.aM (fun H2 locs2 hw1 hz1 hk1 hS1 => ?_)
  replace hw := hw.mod hw1 hk1
  replace hS := hS1
  clear hw1 hk1 hz1 hS1
  refine x_istore [(6, .int q.1), (5, .int (thC (fun k => if k = 3 then 1 else 0) r)), (4, .int i), (3, .ref (b + 2636)), (2, .ref (b + 2628)), (1, .ref b), (0, .ref a)] C dL_law_3694 (by decide) rfl ?_
  refine x_aload_n C dL_law_3696 rfl ?_
  refine x_goR (fun ls h => x_runV (As := []) [] h C ml_L_209 (c_X12_thrown l D cA s (b + 2628) q.2) ⟨rfl, rfl, nb rfl, nb rfl⟩ rfl (M_obj hw.2.1.2.2.2.2) rfl hw.2.1.2.2.2.2 (nb rfl) ⟨by show _ ≤ 601024; omega, by show _ ≤ 7293034; omega⟩ dL_law_3697) ?_
  refine x_iload C dL_law_3700 rfl ?_
  refine x_icmp_eq 3707 C dL_law_3702 (by decide) (fun _ => ?_) (fun z => absurd ht.symm z)
  refine x_iload C dL_law_3707 rfl ?_
  refine x_if_ne 3724 C dL_law_3709 (by decide) (fun _ => ?_) (fun h0 => ?_)
  · refine x_goto 4068 C dL_law_3724 (by decide) ?_
    refine x_sub [(4, .int i), (3, .ref (b + 2636)), (2, .ref (b + 2628)), (1, .ref b), (0, .ref a)] [2, 3, 4, 5, 6] rfl ?_
    refine x_widen (k := cells + 200) (n := slots + 2000) (by omega) (by omega) ?_
    exact kk _ _ hw hS
  have ho := ho h0
  refine x_aload_n C dL_law_3712 rfl ?_
  refine x_iconst (0 : Int32) C dL_law_3713 rfl ?_
  refine x_lald C hw.2.2 in01 dL_law_3714 ?_
  refine x_iload C dL_law_3715 rfl ?_
  refine x_i2l C dL_law_3717 ?_
  refine x_lcmp_eq 3724 C dL_law_3718 dL_law_3719 (by decide) (fun _ => ?_) (fun z => absurd ho z)
  refine x_goto 4068 C dL_law_3724 (by decide) ?_
  refine x_sub [(4, .int i), (3, .ref (b + 2636)), (2, .ref (b + 2628)), (1, .ref b), (0, .ref a)] [2, 3, 4, 5, 6] rfl ?_
  refine x_widen (k := cells + 200) (n := slots + 2000) (by omega) (by omega) ?_
  exact kk _ _ hw hS
set_option maxRecDepth 20000 in
set_option maxHeartbeats 4000000 in
theorem cs_58 {p : Program} {l : Launch} {e : Env} {s : State} {m : MethodId} {args : Array Value} {below : List Frame} {meth : Method} {c : Code} {Q : State → Prop} {H : Heap} {locs : List Loc} {cells slots : Nat} {D : va_G} {cA : Nat → ClassId} {a b L : Nat} {xs : Nat → Int32} {i : Int32} {ν μ : Mm} {oc : Nat → Int64} (C : xC D cA s RL cL_law 8 (some .boolean) p s m args meth c) (hG : xG l D cA s) (hNc : xNc s) (hX : va_X a L xs s s.heap) (hal : a < s.heap.size) (hw : LW D cA s b ν μ oc H) (hS : va_S (xOut s) s.heap H locs) (hcs : cells + 200 ≤ 601024 ∧ slots + 2000 ≤ 7293034)   (r : Int32) (q : Int32 × Mm) (hF : g_X11_undoCount ν = some r) (hM : g_X12_undoCount μ = some q) (hx : r = q.1) (kk : ∀ (H1 : Heap) (locs1 : List Loc), LW D cA s b ν q.2 oc H1 → va_S (xOut s) s.heap H1 locs1 → xW p l e room_1 s m args below meth c 8 Q H1 locs1 (cells + 200) (slots + 2000) 4068 [(4, .int i), (3, .ref (b + 2636)), (2, .ref (b + 2628)), (1, .ref b), (0, .ref a)] []) : xW p l e room_1 s m args below meth c 8 Q H locs cells slots 3727 [(4, .int i), (3, .ref (b + 2636)), (2, .ref (b + 2628)), (1, .ref b), (0, .ref a)] [] := by
  refine x_aload_n C dL_law_3727 rfl ?_
  refine x_goR (fun ls h => x_runV (As := []) [] h C ml_L_394 (k_X11_undoCount l D cA s (b + 2637) b ν hG r hF) ⟨rfl, rfl, nb rfl, nb rfl⟩ rfl (C_PD hw.1) rfl hw.1 (nb rfl) ⟨by show _ ≤ 601024; omega, by show _ ≤ 7293034; omega⟩ dL_law_3728) ?_
  refine x_aload_n C dL_law_3731 rfl ?_
  refine x_goM (fun ls h => x_runV (As := []) [.int r] h C ml_L_397 (k_X12_undoCount l D cA s (b + 2637) (b + 2628) μ _ hG q hM) ⟨rfl, rfl, nb rfl, nb rfl⟩ rfl (M_obj hw.2.1.2.2.2.2) rfl ⟨rfl, hw.2.1⟩ (nb rfl) ⟨by show _ ≤ 601024; omega, by show _ ≤ 7293034; omega⟩ dL_law_3732) hS hw.aM (fun H2 locs2 hw1 hz1 hk1 hS1 => ?_)
  replace hw := hw.mod hw1 hk1
  replace hS := hS1
  clear hw1 hk1 hz1 hS1
  refine x_icmp_eq 4068 C dL_law_3735 (by decide) (fun _ => ?_) (fun z => absurd hx z)
  refine x_widen (k := cells + 200) (n := slots + 2000) (by omega) (by omega) ?_
  exact kk _ _ hw hS
set_option maxRecDepth 20000 in
set_option maxHeartbeats 4000000 in
theorem cs_59 {p : Program} {l : Launch} {e : Env} {s : State} {m : MethodId} {args : Array Value} {below : List Frame} {meth : Method} {c : Code} {Q : State → Prop} {H : Heap} {locs : List Loc} {cells slots : Nat} {D : va_G} {cA : Nat → ClassId} {a b L : Nat} {xs : Nat → Int32} {i : Int32} {ν μ : Mm} {oc : Nat → Int64} (C : xC D cA s RL cL_law 8 (some .boolean) p s m args meth c) (hG : xG l D cA s) (hNc : xNc s) (hX : va_X a L xs s s.heap) (hal : a < s.heap.size) (hw : LW D cA s b ν μ oc H) (hS : va_S (xOut s) s.heap H locs) (hcs : cells + 200 ≤ 601024 ∧ slots + 2000 ≤ 7293034) (a1 : Int32) (r1 : vp_in (i + 1) L ∧ xs (i + 1).toNatClampNeg = a1) (r : Thr (Int32 × Mm)) (q : Int32 × Mm) (hF : g_X11_writeStatement ν a1 = some r) (hk : ∀ k, r = .error k → k = 1) (hM : g_X12_writeStatement μ a1 = some q) (ht : (thC (fun k => if k = 1 then 1 else 0) r) = f_X12_thrown q.2) (ho : (thC (fun k => if k = 1 then 1 else 0) r) = 0 → (thO (fun q => q.1.toInt64) oc r) 0 = q.1.toInt64) (kk : ∀ (H1 : Heap) (locs1 : List Loc), LW D cA s b (thM (fun q => q.2) ν r) q.2 (thO (fun q => q.1.toInt64) oc r) H1 → va_S (xOut s) s.heap H1 locs1 → xW p l e room_1 s m args below meth c 8 Q H1 locs1 (cells + 200) (slots + 2000) 4068 [(4, .int i), (3, .ref (b + 2636)), (2, .ref (b + 2628)), (1, .ref b), (0, .ref a)] []) : xW p l e room_1 s m args below meth c 8 Q H locs cells slots 3740 [(4, .int i), (3, .ref (b + 2636)), (2, .ref (b + 2628)), (1, .ref b), (0, .ref a)] [] := by
  refine x_aload_n C dL_law_3740 rfl ?_
  refine x_aload_n C dL_law_3741 rfl ?_
  refine x_iload C dL_law_3742 rfl ?_
  refine x_iconst (1 : Int32) C dL_law_3744 rfl ?_
  refine x_iadd C dL_law_3745 ?_
  refine x_sld C hX hal hS r1 dL_law_3746 ?_
  refine x_aload_n C dL_law_3747 rfl ?_
  refine x_goM (fun ls h => x_runH (As := [.ref b, .int a1, .ref (b + 2636)]) [] h C (mw_L_writeStatement 398 mlk_398) (k_L_writeStatement l D cA s (b + 2637) b ν _ hG hNc (b + 2636) (by omega) (by omega) oc a1 r hF hk) ⟨rfl, rfl, nb rfl, nb rfl⟩ rfl ⟨rfl, hw.1, hw.2.2⟩ (nb rfl) ⟨by show _ ≤ 601024; omega, by show _ ≤ 7293034; omega⟩ dL_law_3748) hS hw.aL (fun H1 locs1 hw1 hz1 hk1 hS1 => ?_)
  replace hw := hw.cls hw1 hk1
  replace hS := hS1
  clear hw1 hk1 hz1 hS1
  refine x_istore [(5, .int (thC (fun k => if k = 1 then 1 else 0) r)), (4, .int i), (3, .ref (b + 2636)), (2, .ref (b + 2628)), (1, .ref b), (0, .ref a)] C dL_law_3751 (by decide) rfl ?_
  refine x_aload_n C dL_law_3753 rfl ?_
  refine x_aload_n C dL_law_3754 rfl ?_
  refine x_iload C dL_law_3755 rfl ?_
  refine x_iconst (1 : Int32) C dL_law_3757 rfl ?_
  refine x_iadd C dL_law_3758 ?_
  refine x_sld C hX hal hS r1 dL_law_3759 ?_
  refine x_goM (fun ls h => x_runV (As := [.int a1]) [] h C ml_L_400 (k_X12_writeStatement l D cA s (b + 2637) (b + 2628) μ _ hG a1 q hM) ⟨rfl, rfl, nb rfl, nb rfl⟩ rfl (M_obj hw.2.1.2.2.2.2) rfl ⟨rfl, hw.2.1⟩ (nb rfl) ⟨by show _ ≤ 601024; omega, by show _ ≤ 7293034; omega⟩ dL_law_3760) hS hw.aM (fun H2 locs2 hw1 hz1 hk1 hS1 => ?_)
  replace hw := hw.mod hw1 hk1
  replace hS := hS1
  clear hw1 hk1 hz1 hS1
  refine x_istore [(6, .int q.1), (5, .int (thC (fun k => if k = 1 then 1 else 0) r)), (4, .int i), (3, .ref (b + 2636)), (2, .ref (b + 2628)), (1, .ref b), (0, .ref a)] C dL_law_3763 (by decide) rfl ?_
  refine x_aload_n C dL_law_3765 rfl ?_
  refine x_goR (fun ls h => x_runV (As := []) [] h C ml_L_209 (c_X12_thrown l D cA s (b + 2628) q.2) ⟨rfl, rfl, nb rfl, nb rfl⟩ rfl (M_obj hw.2.1.2.2.2.2) rfl hw.2.1.2.2.2.2 (nb rfl) ⟨by show _ ≤ 601024; omega, by show _ ≤ 7293034; omega⟩ dL_law_3766) ?_
  refine x_iload C dL_law_3769 rfl ?_
  refine x_icmp_eq 3776 C dL_law_3771 (by decide) (fun _ => ?_) (fun z => absurd ht.symm z)
  refine x_iload C dL_law_3776 rfl ?_
  refine x_if_ne 3793 C dL_law_3778 (by decide) (fun _ => ?_) (fun h0 => ?_)
  · refine x_goto 4068 C dL_law_3793 (by decide) ?_
    refine x_sub [(4, .int i), (3, .ref (b + 2636)), (2, .ref (b + 2628)), (1, .ref b), (0, .ref a)] [2, 3, 4, 5, 6] rfl ?_
    refine x_widen (k := cells + 200) (n := slots + 2000) (by omega) (by omega) ?_
    exact kk _ _ hw hS
  have ho := ho h0
  refine x_aload_n C dL_law_3781 rfl ?_
  refine x_iconst (0 : Int32) C dL_law_3782 rfl ?_
  refine x_lald C hw.2.2 in01 dL_law_3783 ?_
  refine x_iload C dL_law_3784 rfl ?_
  refine x_i2l C dL_law_3786 ?_
  refine x_lcmp_eq 3793 C dL_law_3787 dL_law_3788 (by decide) (fun _ => ?_) (fun z => absurd ho z)
  refine x_goto 4068 C dL_law_3793 (by decide) ?_
  refine x_sub [(4, .int i), (3, .ref (b + 2636)), (2, .ref (b + 2628)), (1, .ref b), (0, .ref a)] [2, 3, 4, 5, 6] rfl ?_
  refine x_widen (k := cells + 200) (n := slots + 2000) (by omega) (by omega) ?_
  exact kk _ _ hw hS
set_option maxRecDepth 20000 in
set_option maxHeartbeats 4000000 in
theorem cs_60 {p : Program} {l : Launch} {e : Env} {s : State} {m : MethodId} {args : Array Value} {below : List Frame} {meth : Method} {c : Code} {Q : State → Prop} {H : Heap} {locs : List Loc} {cells slots : Nat} {D : va_G} {cA : Nat → ClassId} {a b L : Nat} {xs : Nat → Int32} {i : Int32} {ν μ : Mm} {oc : Nat → Int64} (C : xC D cA s RL cL_law 8 (some .boolean) p s m args meth c) (hG : xG l D cA s) (hNc : xNc s) (hX : va_X a L xs s s.heap) (hal : a < s.heap.size) (hw : LW D cA s b ν μ oc H) (hS : va_S (xOut s) s.heap H locs) (hcs : cells + 200 ≤ 601024 ∧ slots + 2000 ≤ 7293034) (a1 : Int32) (r1 : vp_in (i + 1) L ∧ xs (i + 1).toNatClampNeg = a1) (r : Thr (Int32 × Mm)) (q : Int32 × Mm) (hF : g_X11_writeInvoice ν a1 = some r) (hk : ∀ k, r = .error k → k = 1) (hM : g_X12_writeInvoice μ a1 = some q) (ht : (thC (fun k => if k = 1 then 1 else 0) r) = f_X12_thrown q.2) (ho : (thC (fun k => if k = 1 then 1 else 0) r) = 0 → (thO (fun q => q.1.toInt64) oc r) 0 = q.1.toInt64) (kk : ∀ (H1 : Heap) (locs1 : List Loc), LW D cA s b (thM (fun q => q.2) ν r) q.2 (thO (fun q => q.1.toInt64) oc r) H1 → va_S (xOut s) s.heap H1 locs1 → xW p l e room_1 s m args below meth c 8 Q H1 locs1 (cells + 200) (slots + 2000) 4068 [(4, .int i), (3, .ref (b + 2636)), (2, .ref (b + 2628)), (1, .ref b), (0, .ref a)] []) : xW p l e room_1 s m args below meth c 8 Q H locs cells slots 3796 [(4, .int i), (3, .ref (b + 2636)), (2, .ref (b + 2628)), (1, .ref b), (0, .ref a)] [] := by
  refine x_aload_n C dL_law_3796 rfl ?_
  refine x_aload_n C dL_law_3797 rfl ?_
  refine x_iload C dL_law_3798 rfl ?_
  refine x_iconst (1 : Int32) C dL_law_3800 rfl ?_
  refine x_iadd C dL_law_3801 ?_
  refine x_sld C hX hal hS r1 dL_law_3802 ?_
  refine x_aload_n C dL_law_3803 rfl ?_
  refine x_goM (fun ls h => x_runH (As := [.ref b, .int a1, .ref (b + 2636)]) [] h C (mw_L_writeInvoice 401 mlk_401) (k_L_writeInvoice l D cA s (b + 2637) b ν _ hG hNc (b + 2636) (by omega) (by omega) oc a1 r hF hk) ⟨rfl, rfl, nb rfl, nb rfl⟩ rfl ⟨rfl, hw.1, hw.2.2⟩ (nb rfl) ⟨by show _ ≤ 601024; omega, by show _ ≤ 7293034; omega⟩ dL_law_3804) hS hw.aL (fun H1 locs1 hw1 hz1 hk1 hS1 => ?_)
  replace hw := hw.cls hw1 hk1
  replace hS := hS1
  clear hw1 hk1 hz1 hS1
  refine x_istore [(5, .int (thC (fun k => if k = 1 then 1 else 0) r)), (4, .int i), (3, .ref (b + 2636)), (2, .ref (b + 2628)), (1, .ref b), (0, .ref a)] C dL_law_3807 (by decide) rfl ?_
  refine x_aload_n C dL_law_3809 rfl ?_
  refine x_aload_n C dL_law_3810 rfl ?_
  refine x_iload C dL_law_3811 rfl ?_
  refine x_iconst (1 : Int32) C dL_law_3813 rfl ?_
  refine x_iadd C dL_law_3814 ?_
  refine x_sld C hX hal hS r1 dL_law_3815 ?_
  refine x_goM (fun ls h => x_runV (As := [.int a1]) [] h C ml_L_403 (k_X12_writeInvoice l D cA s (b + 2637) (b + 2628) μ _ hG a1 q hM) ⟨rfl, rfl, nb rfl, nb rfl⟩ rfl (M_obj hw.2.1.2.2.2.2) rfl ⟨rfl, hw.2.1⟩ (nb rfl) ⟨by show _ ≤ 601024; omega, by show _ ≤ 7293034; omega⟩ dL_law_3816) hS hw.aM (fun H2 locs2 hw1 hz1 hk1 hS1 => ?_)
  replace hw := hw.mod hw1 hk1
  replace hS := hS1
  clear hw1 hk1 hz1 hS1
  refine x_istore [(6, .int q.1), (5, .int (thC (fun k => if k = 1 then 1 else 0) r)), (4, .int i), (3, .ref (b + 2636)), (2, .ref (b + 2628)), (1, .ref b), (0, .ref a)] C dL_law_3819 (by decide) rfl ?_
  refine x_aload_n C dL_law_3821 rfl ?_
  refine x_goR (fun ls h => x_runV (As := []) [] h C ml_L_209 (c_X12_thrown l D cA s (b + 2628) q.2) ⟨rfl, rfl, nb rfl, nb rfl⟩ rfl (M_obj hw.2.1.2.2.2.2) rfl hw.2.1.2.2.2.2 (nb rfl) ⟨by show _ ≤ 601024; omega, by show _ ≤ 7293034; omega⟩ dL_law_3822) ?_
  refine x_iload C dL_law_3825 rfl ?_
  refine x_icmp_eq 3832 C dL_law_3827 (by decide) (fun _ => ?_) (fun z => absurd ht.symm z)
  refine x_iload C dL_law_3832 rfl ?_
  refine x_if_ne 3849 C dL_law_3834 (by decide) (fun _ => ?_) (fun h0 => ?_)
  · refine x_goto 4068 C dL_law_3849 (by decide) ?_
    refine x_sub [(4, .int i), (3, .ref (b + 2636)), (2, .ref (b + 2628)), (1, .ref b), (0, .ref a)] [2, 3, 4, 5, 6] rfl ?_
    refine x_widen (k := cells + 200) (n := slots + 2000) (by omega) (by omega) ?_
    exact kk _ _ hw hS
  have ho := ho h0
  refine x_aload_n C dL_law_3837 rfl ?_
  refine x_iconst (0 : Int32) C dL_law_3838 rfl ?_
  refine x_lald C hw.2.2 in01 dL_law_3839 ?_
  refine x_iload C dL_law_3840 rfl ?_
  refine x_i2l C dL_law_3842 ?_
  refine x_lcmp_eq 3849 C dL_law_3843 dL_law_3844 (by decide) (fun _ => ?_) (fun z => absurd ho z)
  refine x_goto 4068 C dL_law_3849 (by decide) ?_
  refine x_sub [(4, .int i), (3, .ref (b + 2636)), (2, .ref (b + 2628)), (1, .ref b), (0, .ref a)] [2, 3, 4, 5, 6] rfl ?_
  refine x_widen (k := cells + 200) (n := slots + 2000) (by omega) (by omega) ?_
  exact kk _ _ hw hS
set_option maxRecDepth 20000 in
set_option maxHeartbeats 4000000 in
theorem cs_61 {p : Program} {l : Launch} {e : Env} {s : State} {m : MethodId} {args : Array Value} {below : List Frame} {meth : Method} {c : Code} {Q : State → Prop} {H : Heap} {locs : List Loc} {cells slots : Nat} {D : va_G} {cA : Nat → ClassId} {a b L : Nat} {xs : Nat → Int32} {i : Int32} {ν μ : Mm} {oc : Nat → Int64} (C : xC D cA s RL cL_law 8 (some .boolean) p s m args meth c) (hG : xG l D cA s) (hNc : xNc s) (hX : va_X a L xs s s.heap) (hal : a < s.heap.size) (hw : LW D cA s b ν μ oc H) (hS : va_S (xOut s) s.heap H locs) (hcs : cells + 200 ≤ 601024 ∧ slots + 2000 ≤ 7293034) (a1 : Int32) (r1 : vp_in (i + 1) L ∧ xs (i + 1).toNatClampNeg = a1) (r : Thr (Int32 × Mm)) (q : Int32 × Mm) (hF : g_X11_writeTariff ν a1 = some r) (hk : ∀ k, r = .error k → k = 1) (hM : g_X12_writeTariff μ a1 = some q) (ht : (thC (fun k => if k = 1 then 1 else 0) r) = f_X12_thrown q.2) (ho : (thC (fun k => if k = 1 then 1 else 0) r) = 0 → (thO (fun q => q.1.toInt64) oc r) 0 = q.1.toInt64) (kk : ∀ (H1 : Heap) (locs1 : List Loc), LW D cA s b (thM (fun q => q.2) ν r) q.2 (thO (fun q => q.1.toInt64) oc r) H1 → va_S (xOut s) s.heap H1 locs1 → xW p l e room_1 s m args below meth c 8 Q H1 locs1 (cells + 200) (slots + 2000) 4068 [(4, .int i), (3, .ref (b + 2636)), (2, .ref (b + 2628)), (1, .ref b), (0, .ref a)] []) : xW p l e room_1 s m args below meth c 8 Q H locs cells slots 3852 [(4, .int i), (3, .ref (b + 2636)), (2, .ref (b + 2628)), (1, .ref b), (0, .ref a)] [] := by
  refine x_aload_n C dL_law_3852 rfl ?_
  refine x_aload_n C dL_law_3853 rfl ?_
  refine x_iload C dL_law_3854 rfl ?_
  refine x_iconst (1 : Int32) C dL_law_3856 rfl ?_
  refine x_iadd C dL_law_3857 ?_
  refine x_sld C hX hal hS r1 dL_law_3858 ?_
  refine x_aload_n C dL_law_3859 rfl ?_
  refine x_goM (fun ls h => x_runH (As := [.ref b, .int a1, .ref (b + 2636)]) [] h C (mw_L_writeTariff 404 mlk_404) (k_L_writeTariff l D cA s (b + 2637) b ν _ hG hNc (b + 2636) (by omega) (by omega) oc a1 r hF hk) ⟨rfl, rfl, nb rfl, nb rfl⟩ rfl ⟨rfl, hw.1, hw.2.2⟩ (nb rfl) ⟨by show _ ≤ 601024; omega, by show _ ≤ 7293034; omega⟩ dL_law_3860) hS hw.aL (fun H1 locs1 hw1 hz1 hk1 hS1 => ?_)
  replace hw := hw.cls hw1 hk1
  replace hS := hS1
  clear hw1 hk1 hz1 hS1
  refine x_istore [(5, .int (thC (fun k => if k = 1 then 1 else 0) r)), (4, .int i), (3, .ref (b + 2636)), (2, .ref (b + 2628)), (1, .ref b), (0, .ref a)] C dL_law_3863 (by decide) rfl ?_
  refine x_aload_n C dL_law_3865 rfl ?_
  refine x_aload_n C dL_law_3866 rfl ?_
  refine x_iload C dL_law_3867 rfl ?_
  refine x_iconst (1 : Int32) C dL_law_3869 rfl ?_
  refine x_iadd C dL_law_3870 ?_
  refine x_sld C hX hal hS r1 dL_law_3871 ?_
  refine x_goM (fun ls h => x_runV (As := [.int a1]) [] h C ml_L_406 (k_X12_writeTariff l D cA s (b + 2637) (b + 2628) μ _ hG a1 q hM) ⟨rfl, rfl, nb rfl, nb rfl⟩ rfl (M_obj hw.2.1.2.2.2.2) rfl ⟨rfl, hw.2.1⟩ (nb rfl) ⟨by show _ ≤ 601024; omega, by show _ ≤ 7293034; omega⟩ dL_law_3872) hS hw.aM (fun H2 locs2 hw1 hz1 hk1 hS1 => ?_)
  replace hw := hw.mod hw1 hk1
  replace hS := hS1
  clear hw1 hk1 hz1 hS1
  refine x_istore [(6, .int q.1), (5, .int (thC (fun k => if k = 1 then 1 else 0) r)), (4, .int i), (3, .ref (b + 2636)), (2, .ref (b + 2628)), (1, .ref b), (0, .ref a)] C dL_law_3875 (by decide) rfl ?_
  refine x_aload_n C dL_law_3877 rfl ?_
  refine x_goR (fun ls h => x_runV (As := []) [] h C ml_L_209 (c_X12_thrown l D cA s (b + 2628) q.2) ⟨rfl, rfl, nb rfl, nb rfl⟩ rfl (M_obj hw.2.1.2.2.2.2) rfl hw.2.1.2.2.2.2 (nb rfl) ⟨by show _ ≤ 601024; omega, by show _ ≤ 7293034; omega⟩ dL_law_3878) ?_
  refine x_iload C dL_law_3881 rfl ?_
  refine x_icmp_eq 3888 C dL_law_3883 (by decide) (fun _ => ?_) (fun z => absurd ht.symm z)
  refine x_iload C dL_law_3888 rfl ?_
  refine x_if_ne 3905 C dL_law_3890 (by decide) (fun _ => ?_) (fun h0 => ?_)
  · refine x_goto 4068 C dL_law_3905 (by decide) ?_
    refine x_sub [(4, .int i), (3, .ref (b + 2636)), (2, .ref (b + 2628)), (1, .ref b), (0, .ref a)] [2, 3, 4, 5, 6] rfl ?_
    refine x_widen (k := cells + 200) (n := slots + 2000) (by omega) (by omega) ?_
    exact kk _ _ hw hS
  have ho := ho h0
  refine x_aload_n C dL_law_3893 rfl ?_
  refine x_iconst (0 : Int32) C dL_law_3894 rfl ?_
  refine x_lald C hw.2.2 in01 dL_law_3895 ?_
  refine x_iload C dL_law_3896 rfl ?_
  refine x_i2l C dL_law_3898 ?_
  refine x_lcmp_eq 3905 C dL_law_3899 dL_law_3900 (by decide) (fun _ => ?_) (fun z => absurd ho z)
  refine x_goto 4068 C dL_law_3905 (by decide) ?_
  refine x_sub [(4, .int i), (3, .ref (b + 2636)), (2, .ref (b + 2628)), (1, .ref b), (0, .ref a)] [2, 3, 4, 5, 6] rfl ?_
  refine x_widen (k := cells + 200) (n := slots + 2000) (by omega) (by omega) ?_
  exact kk _ _ hw hS
set_option maxRecDepth 20000 in
set_option maxHeartbeats 4000000 in
theorem cs_62 {p : Program} {l : Launch} {e : Env} {s : State} {m : MethodId} {args : Array Value} {below : List Frame} {meth : Method} {c : Code} {Q : State → Prop} {H : Heap} {locs : List Loc} {cells slots : Nat} {D : va_G} {cA : Nat → ClassId} {a b L : Nat} {xs : Nat → Int32} {i : Int32} {ν μ : Mm} {oc : Nat → Int64} (C : xC D cA s RL cL_law 8 (some .boolean) p s m args meth c) (hG : xG l D cA s) (hNc : xNc s) (hX : va_X a L xs s s.heap) (hal : a < s.heap.size) (hw : LW D cA s b ν μ oc H) (hS : va_S (xOut s) s.heap H locs) (hcs : cells + 200 ≤ 601024 ∧ slots + 2000 ≤ 7293034) (a1 : Int32) (a2 : Int32) (a3 : Int32) (a4 : Int32) (a5 : Int32) (r1 : vp_in (i + 1) L ∧ xs (i + 1).toNatClampNeg = a1) (r2 : vp_in (i + 2) L ∧ xs (i + 2).toNatClampNeg = a2) (r3 : vp_in (i + 3) L ∧ xs (i + 3).toNatClampNeg = a3) (r4 : vp_in (i + 4) L ∧ xs (i + 4).toNatClampNeg = a4) (r5 : vp_in (i + 5) L ∧ xs (i + 5).toNatClampNeg = a5) (r : Thr Int32) (q : Int32 × Mm) (hF : g_X11_bestDay ν a1 a2 a3 a4 a5 = some r) (hk : ∀ k, r = .error k → k = 1 ∨ k = 2) (hM : g_X12_bestDay μ a1 a2 a3 a4 a5 = some q) (ht : (thC (fun k => if k = 1 then 1 else if k = 2 then 2 else 0) r) = f_X12_thrown q.2) (ho : (thC (fun k => if k = 1 then 1 else if k = 2 then 2 else 0) r) = 0 → (thO (fun q => q.toInt64) oc r) 0 = q.1.toInt64) (kk : ∀ (H1 : Heap) (locs1 : List Loc), LW D cA s b (thM (fun _ => ν) ν r) q.2 (thO (fun q => q.toInt64) oc r) H1 → va_S (xOut s) s.heap H1 locs1 → xW p l e room_1 s m args below meth c 8 Q H1 locs1 (cells + 200) (slots + 2000) 4068 [(4, .int i), (3, .ref (b + 2636)), (2, .ref (b + 2628)), (1, .ref b), (0, .ref a)] []) : xW p l e room_1 s m args below meth c 8 Q H locs cells slots 3908 [(4, .int i), (3, .ref (b + 2636)), (2, .ref (b + 2628)), (1, .ref b), (0, .ref a)] [] := by
  refine x_aload_n C dL_law_3908 rfl ?_
  refine x_aload_n C dL_law_3909 rfl ?_
  refine x_iload C dL_law_3910 rfl ?_
  refine x_iconst (1 : Int32) C dL_law_3912 rfl ?_
  refine x_iadd C dL_law_3913 ?_
  refine x_sld C hX hal hS r1 dL_law_3914 ?_
  refine x_aload_n C dL_law_3915 rfl ?_
  refine x_iload C dL_law_3916 rfl ?_
  refine x_iconst (2 : Int32) C dL_law_3918 rfl ?_
  refine x_iadd C dL_law_3919 ?_
  refine x_sld C hX hal hS r2 dL_law_3920 ?_
  refine x_aload_n C dL_law_3921 rfl ?_
  refine x_iload C dL_law_3922 rfl ?_
  refine x_iconst (3 : Int32) C dL_law_3924 rfl ?_
  refine x_iadd C dL_law_3925 ?_
  refine x_sld C hX hal hS r3 dL_law_3926 ?_
  refine x_aload_n C dL_law_3927 rfl ?_
  refine x_iload C dL_law_3928 rfl ?_
  refine x_iconst (4 : Int32) C dL_law_3930 rfl ?_
  refine x_iadd C dL_law_3931 ?_
  refine x_sld C hX hal hS r4 dL_law_3932 ?_
  refine x_aload_n C dL_law_3933 rfl ?_
  refine x_iload C dL_law_3934 rfl ?_
  refine x_iconst (5 : Int32) C dL_law_3936 rfl ?_
  refine x_iadd C dL_law_3937 ?_
  refine x_sld C hX hal hS r5 dL_law_3938 ?_
  refine x_aload_n C dL_law_3939 rfl ?_
  refine x_goM (fun ls h => x_runH (As := [.ref b, .int a1, .int a2, .int a3, .int a4, .int a5, .ref (b + 2636)]) [] h C (mw_L_bestDay 407 mlk_407) (k_L_bestDay l D cA s (b + 2637) b ν _ hG hNc (b + 2636) (by omega) (by omega) oc a1 a2 a3 a4 a5 r hF hk) ⟨rfl, rfl, nb rfl, nb rfl⟩ rfl ⟨rfl, hw.1, hw.2.2⟩ (nb rfl) ⟨by show _ ≤ 601024; omega, by show _ ≤ 7293034; omega⟩ dL_law_3940) hS hw.aL (fun H1 locs1 hw1 hz1 hk1 hS1 => ?_)
  replace hw := hw.cls hw1 hk1
  replace hS := hS1
  clear hw1 hk1 hz1 hS1
  refine x_istore [(5, .int (thC (fun k => if k = 1 then 1 else if k = 2 then 2 else 0) r)), (4, .int i), (3, .ref (b + 2636)), (2, .ref (b + 2628)), (1, .ref b), (0, .ref a)] C dL_law_3943 (by decide) rfl ?_
  refine x_aload_n C dL_law_3945 rfl ?_
  refine x_aload_n C dL_law_3946 rfl ?_
  refine x_iload C dL_law_3947 rfl ?_
  refine x_iconst (1 : Int32) C dL_law_3949 rfl ?_
  refine x_iadd C dL_law_3950 ?_
  refine x_sld C hX hal hS r1 dL_law_3951 ?_
  refine x_aload_n C dL_law_3952 rfl ?_
  refine x_iload C dL_law_3953 rfl ?_
  refine x_iconst (2 : Int32) C dL_law_3955 rfl ?_
  refine x_iadd C dL_law_3956 ?_
  refine x_sld C hX hal hS r2 dL_law_3957 ?_
  refine x_aload_n C dL_law_3958 rfl ?_
  refine x_iload C dL_law_3959 rfl ?_
  refine x_iconst (3 : Int32) C dL_law_3961 rfl ?_
  refine x_iadd C dL_law_3962 ?_
  refine x_sld C hX hal hS r3 dL_law_3963 ?_
  refine x_aload_n C dL_law_3964 rfl ?_
  refine x_iload C dL_law_3965 rfl ?_
  refine x_iconst (4 : Int32) C dL_law_3967 rfl ?_
  refine x_iadd C dL_law_3968 ?_
  refine x_sld C hX hal hS r4 dL_law_3969 ?_
  refine x_aload_n C dL_law_3970 rfl ?_
  refine x_iload C dL_law_3971 rfl ?_
  refine x_iconst (5 : Int32) C dL_law_3973 rfl ?_
  refine x_iadd C dL_law_3974 ?_
  refine x_sld C hX hal hS r5 dL_law_3975 ?_
  refine x_goM (fun ls h => x_runV (As := [.int a1, .int a2, .int a3, .int a4, .int a5]) [] h C ml_L_409 (k_X12_bestDay l D cA s (b + 2637) (b + 2628) μ _ hG a1 a2 a3 a4 a5 q hM) ⟨rfl, rfl, nb rfl, nb rfl⟩ rfl (M_obj hw.2.1.2.2.2.2) rfl ⟨rfl, hw.2.1⟩ (nb rfl) ⟨by show _ ≤ 601024; omega, by show _ ≤ 7293034; omega⟩ dL_law_3976) hS hw.aM (fun H2 locs2 hw1 hz1 hk1 hS1 => ?_)
  replace hw := hw.mod hw1 hk1
  replace hS := hS1
  clear hw1 hk1 hz1 hS1
  refine x_istore [(6, .int q.1), (5, .int (thC (fun k => if k = 1 then 1 else if k = 2 then 2 else 0) r)), (4, .int i), (3, .ref (b + 2636)), (2, .ref (b + 2628)), (1, .ref b), (0, .ref a)] C dL_law_3979 (by decide) rfl ?_
  refine x_aload_n C dL_law_3981 rfl ?_
  refine x_goR (fun ls h => x_runV (As := []) [] h C ml_L_209 (c_X12_thrown l D cA s (b + 2628) q.2) ⟨rfl, rfl, nb rfl, nb rfl⟩ rfl (M_obj hw.2.1.2.2.2.2) rfl hw.2.1.2.2.2.2 (nb rfl) ⟨by show _ ≤ 601024; omega, by show _ ≤ 7293034; omega⟩ dL_law_3982) ?_
  refine x_iload C dL_law_3985 rfl ?_
  refine x_icmp_eq 3992 C dL_law_3987 (by decide) (fun _ => ?_) (fun z => absurd ht.symm z)
  refine x_iload C dL_law_3992 rfl ?_
  refine x_if_ne 4009 C dL_law_3994 (by decide) (fun _ => ?_) (fun h0 => ?_)
  · refine x_goto 4068 C dL_law_4009 (by decide) ?_
    refine x_sub [(4, .int i), (3, .ref (b + 2636)), (2, .ref (b + 2628)), (1, .ref b), (0, .ref a)] [2, 3, 4, 5, 6] rfl ?_
    refine x_widen (k := cells + 200) (n := slots + 2000) (by omega) (by omega) ?_
    exact kk _ _ hw hS
  have ho := ho h0
  refine x_aload_n C dL_law_3997 rfl ?_
  refine x_iconst (0 : Int32) C dL_law_3998 rfl ?_
  refine x_lald C hw.2.2 in01 dL_law_3999 ?_
  refine x_iload C dL_law_4000 rfl ?_
  refine x_i2l C dL_law_4002 ?_
  refine x_lcmp_eq 4009 C dL_law_4003 dL_law_4004 (by decide) (fun _ => ?_) (fun z => absurd ho z)
  refine x_goto 4068 C dL_law_4009 (by decide) ?_
  refine x_sub [(4, .int i), (3, .ref (b + 2636)), (2, .ref (b + 2628)), (1, .ref b), (0, .ref a)] [2, 3, 4, 5, 6] rfl ?_
  refine x_widen (k := cells + 200) (n := slots + 2000) (by omega) (by omega) ?_
  exact kk _ _ hw hS
set_option maxRecDepth 20000 in
set_option maxHeartbeats 4000000 in
theorem cs_63 {p : Program} {l : Launch} {e : Env} {s : State} {m : MethodId} {args : Array Value} {below : List Frame} {meth : Method} {c : Code} {Q : State → Prop} {H : Heap} {locs : List Loc} {cells slots : Nat} {D : va_G} {cA : Nat → ClassId} {a b L : Nat} {xs : Nat → Int32} {i : Int32} {ν μ : Mm} {oc : Nat → Int64} (C : xC D cA s RL cL_law 8 (some .boolean) p s m args meth c) (hG : xG l D cA s) (hNc : xNc s) (hX : va_X a L xs s s.heap) (hal : a < s.heap.size) (hw : LW D cA s b ν μ oc H) (hS : va_S (xOut s) s.heap H locs) (hcs : cells + 200 ≤ 601024 ∧ slots + 2000 ≤ 7293034) (a1 : Int32) (r1 : vp_in (i + 1) L ∧ xs (i + 1).toNatClampNeg = a1) (r : Thr Int32) (q : Int32 × Mm) (hF : g_X11_outputByte ν a1 = some r) (hk : ∀ k, r = .error k → k = 1) (hM : g_X12_outputByte μ a1 = some q) (ht : (thC (fun k => if k = 1 then 1 else 0) r) = f_X12_thrown q.2) (ho : (thC (fun k => if k = 1 then 1 else 0) r) = 0 → (thO (fun q => q.toInt64) oc r) 0 = q.1.toInt64) (kk : ∀ (H1 : Heap) (locs1 : List Loc), LW D cA s b (thM (fun _ => ν) ν r) q.2 (thO (fun q => q.toInt64) oc r) H1 → va_S (xOut s) s.heap H1 locs1 → xW p l e room_1 s m args below meth c 8 Q H1 locs1 (cells + 200) (slots + 2000) 4068 [(4, .int i), (3, .ref (b + 2636)), (2, .ref (b + 2628)), (1, .ref b), (0, .ref a)] []) : xW p l e room_1 s m args below meth c 8 Q H locs cells slots 4012 [(4, .int i), (3, .ref (b + 2636)), (2, .ref (b + 2628)), (1, .ref b), (0, .ref a)] [] := by
  refine x_aload_n C dL_law_4012 rfl ?_
  refine x_aload_n C dL_law_4013 rfl ?_
  refine x_iload C dL_law_4014 rfl ?_
  refine x_iconst (1 : Int32) C dL_law_4016 rfl ?_
  refine x_iadd C dL_law_4017 ?_
  refine x_sld C hX hal hS r1 dL_law_4018 ?_
  refine x_aload_n C dL_law_4019 rfl ?_
  refine x_goM (fun ls h => x_runH (As := [.ref b, .int a1, .ref (b + 2636)]) [] h C (mw_L_outputByte 410 mlk_410) (k_L_outputByte l D cA s (b + 2637) b ν _ hG hNc (b + 2636) (by omega) (by omega) oc a1 r hF hk) ⟨rfl, rfl, nb rfl, nb rfl⟩ rfl ⟨rfl, hw.1, hw.2.2⟩ (nb rfl) ⟨by show _ ≤ 601024; omega, by show _ ≤ 7293034; omega⟩ dL_law_4020) hS hw.aL (fun H1 locs1 hw1 hz1 hk1 hS1 => ?_)
  replace hw := hw.cls hw1 hk1
  replace hS := hS1
  clear hw1 hk1 hz1 hS1
  refine x_istore [(5, .int (thC (fun k => if k = 1 then 1 else 0) r)), (4, .int i), (3, .ref (b + 2636)), (2, .ref (b + 2628)), (1, .ref b), (0, .ref a)] C dL_law_4023 (by decide) rfl ?_
  refine x_aload_n C dL_law_4025 rfl ?_
  refine x_aload_n C dL_law_4026 rfl ?_
  refine x_iload C dL_law_4027 rfl ?_
  refine x_iconst (1 : Int32) C dL_law_4029 rfl ?_
  refine x_iadd C dL_law_4030 ?_
  refine x_sld C hX hal hS r1 dL_law_4031 ?_
  refine x_goM (fun ls h => x_runV (As := [.int a1]) [] h C ml_L_412 (k_X12_outputByte l D cA s (b + 2637) (b + 2628) μ _ hG a1 q hM) ⟨rfl, rfl, nb rfl, nb rfl⟩ rfl (M_obj hw.2.1.2.2.2.2) rfl ⟨rfl, hw.2.1⟩ (nb rfl) ⟨by show _ ≤ 601024; omega, by show _ ≤ 7293034; omega⟩ dL_law_4032) hS hw.aM (fun H2 locs2 hw1 hz1 hk1 hS1 => ?_)
  replace hw := hw.mod hw1 hk1
  replace hS := hS1
  clear hw1 hk1 hz1 hS1
  refine x_istore [(6, .int q.1), (5, .int (thC (fun k => if k = 1 then 1 else 0) r)), (4, .int i), (3, .ref (b + 2636)), (2, .ref (b + 2628)), (1, .ref b), (0, .ref a)] C dL_law_4035 (by decide) rfl ?_
  refine x_aload_n C dL_law_4037 rfl ?_
  refine x_goR (fun ls h => x_runV (As := []) [] h C ml_L_209 (c_X12_thrown l D cA s (b + 2628) q.2) ⟨rfl, rfl, nb rfl, nb rfl⟩ rfl (M_obj hw.2.1.2.2.2.2) rfl hw.2.1.2.2.2.2 (nb rfl) ⟨by show _ ≤ 601024; omega, by show _ ≤ 7293034; omega⟩ dL_law_4038) ?_
  refine x_iload C dL_law_4041 rfl ?_
  refine x_icmp_eq 4048 C dL_law_4043 (by decide) (fun _ => ?_) (fun z => absurd ht.symm z)
  refine x_iload C dL_law_4048 rfl ?_
  refine x_if_ne 4065 C dL_law_4050 (by decide) (fun _ => ?_) (fun h0 => ?_)
  · refine x_goto 4068 C dL_law_4065 (by decide) ?_
    refine x_sub [(4, .int i), (3, .ref (b + 2636)), (2, .ref (b + 2628)), (1, .ref b), (0, .ref a)] [2, 3, 4, 5, 6] rfl ?_
    refine x_widen (k := cells + 200) (n := slots + 2000) (by omega) (by omega) ?_
    exact kk _ _ hw hS
  have ho := ho h0
  refine x_aload_n C dL_law_4053 rfl ?_
  refine x_iconst (0 : Int32) C dL_law_4054 rfl ?_
  refine x_lald C hw.2.2 in01 dL_law_4055 ?_
  refine x_iload C dL_law_4056 rfl ?_
  refine x_i2l C dL_law_4058 ?_
  refine x_lcmp_eq 4065 C dL_law_4059 dL_law_4060 (by decide) (fun _ => ?_) (fun z => absurd ho z)
  refine x_goto 4068 C dL_law_4065 (by decide) ?_
  refine x_sub [(4, .int i), (3, .ref (b + 2636)), (2, .ref (b + 2628)), (1, .ref b), (0, .ref a)] [2, 3, 4, 5, 6] rfl ?_
  refine x_widen (k := cells + 200) (n := slots + 2000) (by omega) (by omega) ?_
  exact kk _ _ hw hS
