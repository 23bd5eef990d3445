/-! PURE. bestDay. -/
theorem sumN_b {f : Nat → Int32} {B : Int} (hB : 0 ≤ B) : ∀ n : Nat, (n : Int) * B ≤ 2000000000 → (∀ k, k < n → -B ≤ (f k).toInt ∧ (f k).toInt ≤ B) → -((n : Int) * B) ≤ (sumN f n).toInt ∧ (sumN f n).toInt ≤ (n : Int) * B := by
  intro n
  induction n with
  | zero =>
    intro _ _
    show -(((0 : Nat) : Int) * B) ≤ ((0 : Int32)).toInt ∧ ((0 : Int32)).toInt ≤ ((0 : Nat) : Int) * B
    rw [show ((0 : Nat) : Int) = 0 from rfl, Int.zero_mul]
    exact ⟨by decide, by decide⟩
  | succ n ih =>
    intro hn h
    have e : ((n + 1 : Nat) : Int) * B = (n : Int) * B + B := by
      rw [show ((n + 1 : Nat) : Int) = (n : Int) + 1 from rfl, Int.add_mul, Int.one_mul]
    rw [e] at hn ⊢
    obtain ⟨i1, i2⟩ := ih (by omega) (fun k hk => h k (by omega))
    obtain ⟨h1, h2⟩ := h n (by omega)
    show -((n : Int) * B + B) ≤ (sumN f n + f n).toInt ∧ (sumN f n + f n).toInt ≤ (n : Int) * B + B
    rw [ti_add (by omega) (by omega)]
    omega
theorem rbt_b {μ : Mm} (hW : Wf (μ.1 1)) {s v : Nat} (hs : s < 8) (hv : v < 21) (r : Int32) : -9989001 ≤ (rbt μ s v r).toInt ∧ (rbt μ s v r).toInt ≤ 9989001 := by
  have h := lineOf_b hW (a4 := nI v) rfl hv (t := μ.1 1 (274 + 7 * s)) (w := 0) (hW.2.2.2.2.2.2.2.2.1 s hs) ⟨by decide, by decide⟩ r 1
  unfold f_X12_lineOf at h
  rw [if_neg (by decide), if_neg (by decide)] at h
  exact h
theorem cst_b {μ : Mm} (hW : Wf (μ.1 1)) {s v : Nat} (hs : s < 8) (hv : v < 21) {w : Int32} (hw : rg w 0 999) (l f c : Int32) : -20307969 ≤ (cst μ s v w l f c).toInt ∧ (cst μ s v w l f c).toInt ≤ 20307969 := by
  have h := lineOf_b hW (a4 := nI v) rfl hv (t := μ.1 1 (274 + 7 * s)) (w := w) (hW.2.2.2.2.2.2.2.2.1 s hs) hw 0 2
  unfold f_X12_lineOf at h
  rw [if_pos rfl] at h
  have d := dues_b hW (a4 := nI v) rfl hv (hW.2.2.2.2.2.2.2.2.1 s hs)
  have b := lay_b hW hv (f_X12_daysFrom (μ.1 1 (22 + 12 * v + 10)) ((l - f) + (1 : Int32)) &&& (c ^^^ (-1 : Int32)))
  unfold cst
  have e1 : (f_X12_duesOf μ (μ.1 1 (274 + 7 * s)) (nI v) + f_X12_feeOf μ w).toInt = (f_X12_duesOf μ (μ.1 1 (274 + 7 * s)) (nI v)).toInt + (f_X12_feeOf μ w).toInt := ti_add (by omega) (by omega)
  rw [ti_add (by rw [e1]; omega) (by rw [e1]; omega), e1]
  omega
section BS
variable {μ0 : Mm} {N s v : Nat}
/-- what a further call on a day brings as a rebate -/
def frb (μ0 : Mm) (s v k : Nat) : Int32 := rbt μ0 s v (f_X12_callsIn μ0 (nI s) (nI k / (360 : Int32)) + (1 : Int32))
/-- all else -/
def kst (μ0 : Mm) (N s v : Nat) (a4 a5 : Int32) : Int32 := (sumN (fun k => if livB (μ0.1 1) s k then cst μ0 s v (μ0.1 1 (330 + 7 * k + 3)) (μ0.1 1 (330 + 7 * k + 2)) (μ0.1 1 (330 + 7 * k + 1)) (μ0.1 1 (330 + 7 * k + 5) ||| μ0.1 1 (330 + 7 * k + 6)) else 0) N + cst μ0 s v a5 (a4 - (1 : Int32)) 0 0) + sumN (fun k => if livB (μ0.1 1) s k then (fun r => rbt μ0 s v (nI (1 + r))) (rkY (keyI (μ0.1 1)) (livB (μ0.1 1) s) N k) else 0) N
/-- the memory while days are tried: only the row behind the last call -/
def Jb (μ0 μ : Mm) (N : Nat) : Prop := (∀ off, off ≠ 1 → Eq3 μ0 μ off) ∧ μ.2 = μ0.2 ∧ (∀ i, i < 330 + 7 * N ∨ 330 + 7 * N + 7 ≤ i → μ.1 1 i = μ0.1 1 i)
theorem tw_of {μ : Mm} (hW : Wf (μ0.1 1)) (hN : N = cl (μ0.1 1 1)) (hv : μ0.1 1 4 = nI v) (hv2 : v < 21) (hs : s < 8) (hs2 : ((s : Nat) : Int) < (μ0.1 1 0).toInt) (hR : μ0.2.2 0 3 = 1) (hJ : Jb μ0 μ N) {k : Nat} (hk : k ≤ 3599) {a4 a5 : Int32} (h4 : 1 ≤ a4.toInt ∧ a4.toInt ≤ 30) (h5 : 0 ≤ a5.toInt ∧ a5.toInt ≤ 999) : ∃ μ2, g_X12_totalWith μ (nI s) (nI k) a4 a5 = some (kst μ0 N s v a4 a5 + frb μ0 s v k, μ2) ∧ Jb μ0 μ2 N ∧ Wf (μ2.1 1) ∧ (-1300000000 ≤ (kst μ0 N s v a4 a5 + frb μ0 s v k).toInt ∧ (kst μ0 N s v a4 a5 + frb μ0 s v k).toInt ≤ 1300000000) := by
  obtain ⟨c1, c2, c3⟩ := cl_of hW.1.2.1
  rw [← hN] at c1 c2 c3
  have hN40 : N ≤ 40 := by omega
  obtain ⟨j1, j2, j3⟩ := hJ
  have f1 : μ.1 1 1 = nI N := (j3 1 (by omega)).trans c1
  obtain ⟨r, r1, r2, ⟨r3, r4⟩, r5, q0, q1, q2, q3, q4, q5, q6⟩ := lay_of (μ := μ) (R := 1) (c := N) (a1 := μ.1 1 1) (s := nI s) (f := nI k) (l := (nI k + a4) - (1 : Int32)) (w := a5) (by rw [j2]; exact hR) (Or.inl rfl) f1 hN40
  have f1r : r.1 1 1 = nI N := (r5 1 (by omega)).trans f1
  obtain ⟨μ3, e3⟩ : ∃ m, m = uI r 1 1 (nI (N + 1)) := ⟨_, rfl⟩
  have g3 : ∀ i, i ≠ 1 → μ3.1 1 i = r.1 1 i := fun i hi => by rw [e3, uI_at, if_neg (fun z => hi z.2)]
  have g31 : μ3.1 1 1 = nI (N + 1) := by rw [e3, uI_at, if_pos ⟨rfl, rfl⟩]
  have old : ∀ i, i ≠ 1 → (i < 330 + 7 * N ∨ 330 + 7 * N + 7 ≤ i) → μ3.1 1 i = μ0.1 1 i := fun i h1 h2 => by rw [g3 i h1, r5 i h2, j3 i h2]
  -- behind it the row is out of use again
  have g2 : ∀ i, (uI μ3 1 1 (nI N)).1 1 i = r.1 1 i := fun i => by
    rw [uI_at]
    by_cases e : i = 1
    · rw [if_pos ⟨rfl, e⟩, e]; exact f1r.symm
    · rw [if_neg (fun z => e z.2)]; exact g3 i e
  have kt : (nI k).toInt = (k : Int) := nI_toInt (by omega)
  have z1 : ((1 : Int32)).toInt = 1 := rfl
  have la : ((nI k + a4) - (1 : Int32)).toInt = (k : Int) + a4.toInt - 1 := by
    rw [ti_sub (by rw [ti_add (by omega) (by omega)]; omega) (by rw [ti_add (by omega) (by omega)]; omega), ti_add (by omega) (by omega), kt, z1]
  have st : Stay (nI k) ((nI k + a4) - (1 : Int32)) a5 := ⟨⟨by omega, by omega⟩, ⟨by omega, by omega⟩, h5⟩
  have Wr : Wf (r.1 1) := by
    refine hW.callu (x := N) (by omega) (fun i hi => (r5 i hi.2.2).trans (j3 i hi.2.2)) (fun y hy => Or.inr (by rw [f1r, cl_nI (by omega)] at hy; omega)) (by rw [f1r, ← c1]; exact hW.1.2.1) (by rw [f1r, ← c1]; exact Int.le_refl _) ?_ ?_
    · exact stay_row (a1 := nI s) (m := μ0.1 1 0) (g := r.1 1) ⟨by rw [nI_toInt (by omega)]; omega, by rw [nI_toInt (by omega)]; exact hs2⟩ hW.1.1 st q0 q1 q2 q3 q4 q5 q6
    · rw [q0, nI_toInt (by omega)]
      exact hs2
  have hT : Tf μ0 μ3 := fun i h1 h2 => old i (by omega) (by omega)
  have n0 : μ3.1 1 (330 + 7 * N) = nI s := (g3 _ (by omega)).trans q0
  have n1 : μ3.1 1 (330 + 7 * N + 1) = nI k := (g3 _ (by omega)).trans q1
  have n2 : μ3.1 1 (330 + 7 * N + 2) = (nI k + a4) - (1 : Int32) := (g3 _ (by omega)).trans q2
  have n3 : μ3.1 1 (330 + 7 * N + 3) = a5 := (g3 _ (by omega)).trans q3
  have n4 : μ3.1 1 (330 + 7 * N + 4) = 0 := (g3 _ (by omega)).trans q4
  have n5 : μ3.1 1 (330 + 7 * N + 5) = 0 := (g3 _ (by omega)).trans q5
  have n6 : μ3.1 1 (330 + 7 * N + 6) = 0 := (g3 _ (by omega)).trans q6
  have C0 := Cr.of hW
  rw [← hN] at C0
  have hC : Cr (μ3.1 1) (N + 1) := by
    refine ⟨by omega, g31, fun i hi => ?_⟩
    by_cases e : i = N
    · subst e
      rw [n0, n1, n4]
      exact ⟨⟨by rw [nI_toInt (by omega)]; omega, by rw [nI_toInt (by omega)]; omega⟩, ⟨by omega, by omega⟩, ⟨by decide, by decide⟩⟩
    · rw [old _ (by omega) (by omega), old _ (by omega) (by omega), old _ (by omega) (by omega)]
      exact C0.2.2 i (by omega)
  have hok : OkR (μ3.1 1) := by
    obtain ⟨k0, k1, k2, k3, k4, k5, k6, k7, k8, k9⟩ := okR_of Wr
    refine ⟨by rw [g3 0 (by decide)]; exact k0, ?_, by rw [g3 2 (by decide)]; exact k2, by rw [g3 3 (by decide)]; exact k3, by rw [g3 4 (by decide)]; exact k4, by rw [g3 6 (by decide)]; exact k5, by rw [g3 7 (by decide)]; exact k6, fun c hc => ?_, fun i hi => ?_, fun w hw => ?_⟩
    · rw [g31]; exact vp_in_nI (by omega) (by decide)
    · rw [g3 _ (by omega), g3 _ (by omega), g3 _ (by omega)]; exact k7 c hc
    · rw [g3 _ (by omega), g3 _ (by omega)]; exact k8 i hi
    · rw [g3 _ (by omega)]; exact k9 w hw
  -- the sum
  have lN : livB (μ3.1 1) s N = true := decide_eq_true ⟨n0, n4⟩
  have lk : ∀ i, i < N → livB (μ3.1 1) s i = livB (μ0.1 1) s i := fun i hi => by
    unfold livB
    rw [old _ (by omega) (by omega), old _ (by omega) (by omega)]
  have kk : ∀ i, i < N → keyI (μ3.1 1) i = keyI (μ0.1 1) i := fun i hi => by
    unfold keyI
    rw [old _ (by omega) (by omega)]
  have kN : keyI (μ3.1 1) N = (k : Int) := by
    unfold keyI
    rw [n1, kt]
  have AS := all_sum hT hW hv hv2 hs hC
  have A2 := add_rank (keyI (μ3.1 1)) (fun r => rbt μ0 s v (nI (1 + r))) (P := livB (μ3.1 1) s) (P' := fun i => livB (μ3.1 1) s i && !decide (i = N)) (N := N + 1) (m := N) (by omega) (by rw [decide_eq_true rfl]; cases livB (μ3.1 1) s N <;> rfl) lN (fun i hi hne => by rw [decide_eq_false hne]; cases livB (μ3.1 1) s i <;> rfl)
  have cnt_eq : ∀ (Q : Nat → Bool), cntN (fun i => (livB (μ3.1 1) s i && !decide (i = N)) && Q i) (N + 1) = cntN (fun i => livB (μ0.1 1) s i && Q i) N := fun Q => by
    show cntN _ N + (if ((livB (μ3.1 1) s N && !decide (N = N)) && Q N) then 1 else 0) = _
    rw [decide_eq_true (show N = N from rfl), show ((livB (μ3.1 1) s N && !true) && Q N) = false from by cases livB (μ3.1 1) s N <;> rfl]
    refine cntN_c N (fun i hi => ?_)
    rw [lk i hi, decide_eq_false (show ¬ i = N by omega)]
    cases livB (μ0.1 1) s i <;> rfl
  have s2 : sumN (fun i => if (livB (μ3.1 1) s i && !decide (i = N)) then (fun r => rbt μ0 s v (nI (1 + r))) (rkY (keyI (μ3.1 1)) (fun i => livB (μ3.1 1) s i && !decide (i = N)) (N + 1) i) else 0) (N + 1) = sumN (fun i => if livB (μ0.1 1) s i then (fun r => rbt μ0 s v (nI (1 + r))) (rkY (keyI (μ0.1 1)) (livB (μ0.1 1) s) N i) else 0) N := by
    show sumN _ N + (if (livB (μ3.1 1) s N && !decide (N = N)) = true then _ else (0 : Int32)) = _
    rw [decide_eq_true (show N = N from rfl), show (livB (μ3.1 1) s N && !true) = false from by cases livB (μ3.1 1) s N <;> rfl, if_neg (by decide), Int32.add_zero]
    refine sumN_c N (fun i hi => ?_)
    have rk : rkY (keyI (μ3.1 1)) (fun i => livB (μ3.1 1) s i && !decide (i = N)) (N + 1) i = rkY (keyI (μ0.1 1)) (livB (μ0.1 1) s) N i := by
      unfold rkY
      have h1 := cnt_eq (fun j => decide (keyI (μ3.1 1) j / 360 = keyI (μ3.1 1) i / 360) && bef (keyI (μ3.1 1)) i j)
      have h2 : ∀ (A B C : Bool), (A && B && C) = (A && (B && C)) := fun A B C => by cases A <;> cases B <;> cases C <;> rfl
      rw [cntN_c (Q := fun j => (livB (μ3.1 1) s j && !decide (j = N)) && (decide (keyI (μ3.1 1) j / 360 = keyI (μ3.1 1) i / 360) && bef (keyI (μ3.1 1)) i j)) (N + 1) (fun j _ => h2 _ _ _), h1]
      refine cntN_c N (fun j hj => ?_)
      unfold bef
      rw [kk i hi, kk j hj, h2]
    rw [rk, lk i hi, decide_eq_false (show ¬ i = N by omega)]
    cases livB (μ0.1 1) s i <;> rfl
  have c2' : cntN (fun i => (livB (μ3.1 1) s i && !decide (i = N)) && decide (keyI (μ3.1 1) i / 360 = keyI (μ3.1 1) N / 360)) (N + 1) = cntN (fun i => livB (μ0.1 1) s i && decide (keyI (μ0.1 1) i / 360 = (nI k / (360 : Int32)).toInt)) N := by
    rw [cnt_eq, kN]
    refine cntN_c N (fun i hi => ?_)
    rw [kk i hi, div360 (by omega), kt]
  have ci : f_X12_callsIn μ0 (nI s) (nI k / (360 : Int32)) = nI (cntN (fun i => livB (μ0.1 1) s i && decide (keyI (μ0.1 1) i / 360 = (nI k / (360 : Int32)).toInt)) N) := ci_cnt (s := s) (y := nI k / (360 : Int32)) C0 N 0 (by omega) 42 (by omega)
  have s1 : sumN (fun i => if livB (μ3.1 1) s i then cst μ0 s v (μ3.1 1 (330 + 7 * i + 3)) (μ3.1 1 (330 + 7 * i + 2)) (μ3.1 1 (330 + 7 * i + 1)) (μ3.1 1 (330 + 7 * i + 5) ||| μ3.1 1 (330 + 7 * i + 6)) else 0) (N + 1) = sumN (fun k => if livB (μ0.1 1) s k then cst μ0 s v (μ0.1 1 (330 + 7 * k + 3)) (μ0.1 1 (330 + 7 * k + 2)) (μ0.1 1 (330 + 7 * k + 1)) (μ0.1 1 (330 + 7 * k + 5) ||| μ0.1 1 (330 + 7 * k + 6)) else 0) N + cst μ0 s v a5 (a4 - (1 : Int32)) 0 0 := by
    show sumN _ N + (if livB (μ3.1 1) s N then cst μ0 s v (μ3.1 1 (330 + 7 * N + 3)) (μ3.1 1 (330 + 7 * N + 2)) (μ3.1 1 (330 + 7 * N + 1)) (μ3.1 1 (330 + 7 * N + 5) ||| μ3.1 1 (330 + 7 * N + 6)) else 0) = _
    rw [lN, if_pos rfl, n1, n2, n3, n5, n6]
    congr 1
    · refine sumN_c N (fun i hi => ?_)
      rw [lk i hi, old _ (by omega) (by omega), old _ (by omega) (by omega), old _ (by omega) (by omega), old _ (by omega) (by omega), old _ (by omega) (by omega)]
    · unfold cst
      rw [show ((nI k + a4) - (1 : Int32)) - nI k = (a4 - (1 : Int32)) - 0 from by
        rw [eq32, ti_sub (by omega) (by omega), la, kt, ti_sub (by rw [ti_sub (by omega) (by omega)]; show _ ≤ _ - 0; omega) (by rw [ti_sub (by omega) (by omega)]; show _ - 0 < _; omega), ti_sub (by omega) (by omega), z1]
        show _ = _ - 0
        omega]
      rfl
  have val : f_X12_totalFor μ3 (nI s) = kst μ0 N s v a4 a5 + frb μ0 s v k := by
    refine AS.trans ?_
    refine Eq.trans (congr (congrArg (fun a b => a + b) s1) (A2.trans (congr (congrArg (fun a b => a + b) s2) (congrArg (fun c => rbt μ0 s v (nI (1 + c))) c2')))) ?_
    unfold kst frb
    rw [ci, nI1, Nat.add_comm 1]
    show _ + (_ + _) = _
    rw [← Int32.add_assoc]
  have bnd : -1300000000 ≤ (f_X12_totalFor μ3 (nI s)).toInt ∧ (f_X12_totalFor μ3 (nI s)).toInt ≤ 1300000000 := by
    rw [tf_sum hC.1 g31]
    have B := sumN_b (f := fun i => if μ3.1 1 (330 + 7 * i) = nI s then f_X12_totalOf μ3 (nI i) else 0) (B := 30296970) (by decide) (N + 1) (by omega) (fun i hi => ?_)
    · have e : ((N + 1 : Nat) : Int) * 30296970 ≤ 1300000000 := by omega
      exact ⟨by omega, by omega⟩
    · obtain ⟨t0, t1, t4⟩ := hC.2.2 i hi
      by_cases q : μ3.1 1 (330 + 7 * i) = nI s
      · have sh : (if μ3.1 1 (330 + 7 * i) = nI s then f_X12_totalOf μ3 (nI i) else 0) = f_X12_totalOf μ3 (nI i) := if_pos q
        show _ ≤ (if μ3.1 1 (330 + 7 * i) = nI s then f_X12_totalOf μ3 (nI i) else 0).toInt ∧ (if μ3.1 1 (330 + 7 * i) = nI s then f_X12_totalOf μ3 (nI i) else 0).toInt ≤ _
        rw [sh]
        rcases isZ_of t4 with w | w
        · rw [tot_cg hT hW hv hv2 hs (by omega) q w]
          have w3 : rg (μ3.1 1 (330 + 7 * i + 3)) 0 999 := by
            rw [g3 _ (by omega)]
            exact (Wr.2.2.2.2.2.2.2.2.2.1 i (by omega)).2.2.2.1
          have x1 := cst_b hW hs hv2 w3 (μ3.1 1 (330 + 7 * i + 2)) (μ3.1 1 (330 + 7 * i + 1)) (μ3.1 1 (330 + 7 * i + 5) ||| μ3.1 1 (330 + 7 * i + 6))
          have x2 := rbt_b hW hs hv2 (f_X12_rankOf μ3 (nI i))
          rw [ti_add (by omega) (by omega)]
          omega
        · unfold f_X12_totalOf
          rw [show f_X12_ofCall μ3 (nI i) (4 : Int32) = μ3.1 1 (330 + 7 * i + 4) from ofCall_eq (k := 4) (by omega) (by decide), w, if_pos rfl]
          exact ⟨by decide, by decide⟩
      · show _ ≤ (if μ3.1 1 (330 + 7 * i) = nI s then f_X12_totalOf μ3 (nI i) else 0).toInt ∧ (if μ3.1 1 (330 + 7 * i) = nI s then f_X12_totalOf μ3 (nI i) else 0).toInt ≤ _
        rw [if_neg q]
        exact ⟨by decide, by decide⟩
  refine ⟨uI μ3 1 1 (nI N), ?_, ⟨fun off ho => ?_, ?_, fun i hi => ?_⟩, ?_, ?_⟩
  · unfold g_X12_totalWith
    rw [r1, bnd_s, bnd_s, f1r, nI1, ← e3, asr_pos hok, bnd_s, bnd_s, g31, nI_p1, val]
  · rw [e3]
    exact (((j1 off ho).tr (r2 off ho)).I ho).I ho
  · rw [e3]
    show r.2 = _
    rw [← j2]
    exact Prod.ext (by
      funext off
      by_cases e : off = 1
      · rw [e]; exact r3
      · exact (r2 off e).2.1) r4
  · rw [g2]
    exact (r5 i hi).trans (j3 i hi)
  · have : (uI μ3 1 1 (nI N)).1 1 = r.1 1 := funext g2
    rw [this]
    exact Wr
  · rw [← val]
    exact bnd
theorem k_le {a b : Nat} {x y z : Int32} (h1 : -1300000000 ≤ (z + x).toInt ∧ (z + x).toInt ≤ 1300000000) (h2 : -9989001 ≤ x.toInt ∧ x.toInt ≤ 9989001) (h3 : -9989001 ≤ y.toInt ∧ y.toInt ≤ 9989001) : (z + x ≤ z + y ↔ x ≤ y) := by
  have e : z.toInt = (z + x).toInt - x.toInt := by
    have : z = (z + x) - x := (Int32.add_sub_cancel z x).symm
    conv => lhs; rw [this]
    exact ti_sub (by omega) (by omega)
  rw [le32, le32, ti_add (by omega) (by omega), ti_add (by omega) (by omega)]
  omega
end BS
theorem s62 : Sm_62 RelP := by
  intro n ν μ hn hR a1 a2 a3 a4 a5
  obtain ⟨⟨hL, hW, hP⟩, -⟩ := id hR
  have e0 := (sh_c hL).1
  obtain ⟨pe, pt, pT, pv⟩ := present_of hL hW led7
  obtain ⟨v1, v2, v3⟩ := cl_of hW.1.2.2.2.2.1
  have z99 : ((99 : Int32)).toInt = 99 := rfl
  have z35 : ((3599 : Int32)).toInt = 3599 := rfl
  have hrow : μ.2.2 0 3 = 1 := hR.2.2.2.2.2
  -- the ranges, in the order of both
  have R2 : ∀ z, bnd (g_X11_requireRange ν a2 (0 : Int32) (3599 : Int32)) z = ((if 0 ≤ a2.toInt ∧ a2.toInt ≤ 3599 then z (.ok ()) else z (.error 2)) : Option (Thr Int32)) := fun z => by
    rw [rqR]
    show bnd (some (if 0 ≤ a2.toInt ∧ a2.toInt ≤ 3599 then _ else _)) _ = _
    rw [bnd_s]
    split <;> rfl
  by_cases h : 0 ≤ a1.toInt ∧ a1.toInt < (μ.1 1 0).toInt
  · obtain ⟨i1, i2, i3, i4, i5⟩ := ix_of (hi := 8) h hW.1.1 (by decide)
    have J58 : g_X12_bestDay_J58 μ a1 a2 a3 a4 a5 μ = some (0, uI μ 0 0 2) := by
      unfold g_X12_bestDay_J58 g_X12_bestDay_J59
      rw [bnd_s, bnd_s, isShip_eq hW, decide_eq_true h, pz2]
      rfl
    have er2 : f_X12_in a2.toInt64 (0 : Int64) (3599 : Int64) = decide (0 ≤ a2.toInt ∧ a2.toInt ≤ 3599) := inX_eq
    have er4 : f_X12_in a4.toInt64 (1 : Int64) (30 : Int64) = decide (1 ≤ a4.toInt ∧ a4.toInt ≤ 30) := inX_eq
    by_cases h2 : 0 ≤ a2.toInt ∧ a2.toInt ≤ 3599
    · have m1 : (imin (a2 + (99 : Int32)) (3599 : Int32)).toInt = min (a2.toInt + 99) 3599 := by rw [imin_ti, ti_add (by omega) (by omega), z99, z35]
      have m2 : (imin (3599 : Int32) (a2 + (99 : Int32))).toInt = min 3599 (a2.toInt + 99) := by rw [imin_ti, ti_add (by omega) (by omega), z99, z35]
      have er3 : f_X12_in a3.toInt64 a2.toInt64 ((imin (3599 : Int32) (a2 + (99 : Int32))).toInt64) = decide (a2.toInt ≤ a3.toInt ∧ a3.toInt ≤ min (a2.toInt + 99) 3599) := by
        rw [inX_eq, ti_l, ti_l, m2]
        congr 1
        exact propext ⟨fun w => by omega, fun w => by omega⟩
      by_cases h3 : a2.toInt ≤ a3.toInt ∧ a3.toInt ≤ min (a2.toInt + 99) 3599
      · by_cases h4 : 1 ≤ a4.toInt ∧ a4.toInt ≤ 30
        · by_cases h5 : 0 ≤ a5.toInt ∧ a5.toInt ≤ 999
          · obtain ⟨p1, p2, p3⟩ := cl_of (x := a2) (hi := 3599) h2
            obtain ⟨t1, t2, t3⟩ := cl_of (x := a3) (hi := 3599) ⟨by omega, by omega⟩
            obtain ⟨p, ep⟩ : ∃ p, p = cl a2 := ⟨_, rfl⟩
            obtain ⟨q, eq⟩ : ∃ q, q = cl a3 := ⟨_, rfl⟩
            obtain ⟨s, es⟩ : ∃ s, s = cl a1 := ⟨_, rfl⟩
            obtain ⟨v, ev⟩ : ∃ v, v = cl (μ.1 1 4) := ⟨_, rfl⟩
            rw [← ep] at p1 p2
            rw [← eq] at t1 t2
            rw [← es] at i1 i2 i4 i5
            rw [← ev] at v1 pT pt pe pv
            have hpq : p ≤ q := by omega
            have hq : q ≤ 3599 := by omega
            have fr : ∀ k, k ≤ 3599 → g_X11_furtherRebate ν a1 (nI k) = some (frb (uI μ 0 0 0) s v k) := fun k hk => by
              have hd := dues_of (μ := uI μ 0 0 0) (a4 := nI v) hW pT pt rfl (by omega) (hW.2.2.2.2.2.2.2.2.1 s i2)
              have hp := percent_of (μ := uI μ 0 0 0) (a4 := nI v) hW pT pt rfl (by omega) (f_X12_callsIn (uI μ 0 0 0) a1 (nI k / (360 : Int32)) + (1 : Int32))
              have kd : (nI k / (360 : Int32)).toInt = (k : Int) / 360 := by rw [div360 (by rw [nI_toInt (by omega)]; omega), nI_toInt (by omega)]
              unfold g_X11_furtherRebate
              rw [callsIn_of (μ := uI μ 0 0 0) hL hW (by rw [kd]; omega) (by rw [kd]; omega), bnd_s, pe, bnd_s, asr_pos pt, asr_pos i3, ← es, (hL.2.1 s i1).1]
              unfold g_X10_rebateFor
              rw [asr_pos pt, hd, bnd_s, hp, bnd_s, bnd_s, i4]
              rfl
            have fb : ∀ k, -9989001 ≤ (frb (uI μ 0 0 0) s v k).toInt ∧ (frb (uI μ 0 0 0) s v k).toInt ≤ 9989001 := fun k => rbt_b (μ := uI μ 0 0 0) hW i2 pv _
            have tw : ∀ (m : Mm) (k : Nat), k ≤ 3599 → Jb (uI μ 0 0 0) m (cl (μ.1 1 1)) → _ := fun m k hk hJ => tw_of (μ0 := uI μ 0 0 0) (μ := m) (N := cl (μ.1 1 1)) (s := s) (v := v) (a4 := a4) (a5 := a5) hW rfl v1 pv i2 (by show ((s : Nat) : Int) < (μ.1 1 0).toInt; have := h.2; omega) hrow hJ hk h4 h5
            have LP : ∀ (d k : Nat), k + d = q + 1 → ∀ n m, d + 1 ≤ n → d + 1 ≤ m → ∀ (b : Nat) (mm : Mm), b ≤ 3599 → Jb (uI μ 0 0 0) mm (cl (μ.1 1 1)) → Wf (mm.1 1) → ∃ y mf, g_X11_bestDay_L61 ν a1 a2 a3 a4 a5 n (nI b) (frb (uI μ 0 0 0) s v b) (nI k) = some (.ok y) ∧ g_X12_bestDay_L97 μ a1 a2 a3 a4 a5 m mm (nI b) (kst (uI μ 0 0 0) (cl (μ.1 1 1)) s v a4 a5 + frb (uI μ 0 0 0) s v b) (nI k) = some (y, mf) ∧ Jb (uI μ 0 0 0) mf (cl (μ.1 1 1)) ∧ Wf (mf.1 1) := by
              intro d
              induction d with
              | zero =>
                intro k hk n m hn1 hm1 b mm hb hJ hw
                obtain ⟨n, rfl, -⟩ := succ_n hn1
                obtain ⟨m, rfl, -⟩ := succ_n hm1
                have g : a3 < nI k := by rw [t1, lt32, nI_toInt (by omega), nI_toInt (by omega)]; omega
                refine ⟨nI b, mm, ?_, ?_, hJ, hw⟩
                · unfold g_X11_bestDay_L61
                  rw [if_pos g]
                · unfold g_X12_bestDay_L97
                  rw [if_pos g]
              | succ d ih =>
                intro k hk n m hn1 hm1 b mm hb hJ hw
                obtain ⟨n, rfl, hn2⟩ := succ_n hn1
                obtain ⟨m, rfl, hm2⟩ := succ_n hm1
                have g : ¬ a3 < nI k := by rw [t1, lt32, nI_toInt (by omega), nI_toInt (by omega)]; omega
                obtain ⟨m2, w1, w2, w3, w4⟩ := tw mm k (by omega) hJ
                have cmp : (kst (uI μ 0 0 0) (cl (μ.1 1 1)) s v a4 a5 + frb (uI μ 0 0 0) s v b ≤ kst (uI μ 0 0 0) (cl (μ.1 1 1)) s v a4 a5 + frb (uI μ 0 0 0) s v k) ↔ frb (uI μ 0 0 0) s v b ≤ frb (uI μ 0 0 0) s v k := by
                  obtain ⟨-, -, -, -, wb⟩ := tw mm b hb hJ
                  exact k_le (a := 0) (b := 0) wb (fb b) (fb k)
                by_cases le : frb (uI μ 0 0 0) s v b ≤ frb (uI μ 0 0 0) s v k
                · obtain ⟨y, mf, g1, g2, g3, g4⟩ := ih (k + 1) (by omega) n m hn2 hm2 b m2 hb w2 w3
                  refine ⟨y, mf, ?_, ?_, g3, g4⟩
                  · unfold g_X11_bestDay_L61
                    rw [if_neg g, fr k (by omega), bnd_s, if_pos le, nI1]
                    exact g1
                  · unfold g_X12_bestDay_L97
                    rw [if_neg g, i4, w1, bnd_s]
                    show (if kst (uI μ 0 0 0) (cl (μ.1 1 1)) s v a4 a5 + frb (uI μ 0 0 0) s v b ≤ kst (uI μ 0 0 0) (cl (μ.1 1 1)) s v a4 a5 + frb (uI μ 0 0 0) s v k then g_X12_bestDay_L97 μ (nI s) a2 a3 a4 a5 m m2 (nI b) (imin (kst (uI μ 0 0 0) (cl (μ.1 1 1)) s v a4 a5 + frb (uI μ 0 0 0) s v b) (kst (uI μ 0 0 0) (cl (μ.1 1 1)) s v a4 a5 + frb (uI μ 0 0 0) s v k)) (nI k + (1 : Int32)) else _) = _
                    rw [if_pos (cmp.mpr le), imin_le (le32.mp (cmp.mpr le)), nI1, ← i4]
                    exact g2
                · obtain ⟨y, mf, g1, g2, g3, g4⟩ := ih (k + 1) (by omega) n m hn2 hm2 k m2 (by omega) w2 w3
                  have ge : (kst (uI μ 0 0 0) (cl (μ.1 1 1)) s v a4 a5 + frb (uI μ 0 0 0) s v k).toInt ≤ (kst (uI μ 0 0 0) (cl (μ.1 1 1)) s v a4 a5 + frb (uI μ 0 0 0) s v b).toInt := by
                    rcases Int.le_total (kst (uI μ 0 0 0) (cl (μ.1 1 1)) s v a4 a5 + frb (uI μ 0 0 0) s v b).toInt (kst (uI μ 0 0 0) (cl (μ.1 1 1)) s v a4 a5 + frb (uI μ 0 0 0) s v k).toInt with w | w
                    · exact absurd (cmp.mp (le32.mpr w)) le
                    · exact w
                  refine ⟨y, mf, ?_, ?_, g3, g4⟩
                  · unfold g_X11_bestDay_L61
                    rw [if_neg g, fr k (by omega), bnd_s, if_neg le, nI1]
                    exact g1
                  · unfold g_X12_bestDay_L97
                    rw [if_neg g, i4, w1, bnd_s]
                    show (if kst (uI μ 0 0 0) (cl (μ.1 1 1)) s v a4 a5 + frb (uI μ 0 0 0) s v b ≤ kst (uI μ 0 0 0) (cl (μ.1 1 1)) s v a4 a5 + frb (uI μ 0 0 0) s v k then _ else g_X12_bestDay_L97 μ (nI s) a2 a3 a4 a5 m m2 (nI k) (imin (kst (uI μ 0 0 0) (cl (μ.1 1 1)) s v a4 a5 + frb (uI μ 0 0 0) s v b) (kst (uI μ 0 0 0) (cl (μ.1 1 1)) s v a4 a5 + frb (uI μ 0 0 0) s v k)) (nI k + (1 : Int32))) = _
                    rw [if_neg (fun z => le (cmp.mp z)), imin_ge ge, nI1, ← i4]
                    exact g2
            have J0 : Jb (uI μ 0 0 0) (uI μ 0 0 0) (cl (μ.1 1 1)) := ⟨fun off _ => Eq3.rf _ off, rfl, fun _ _ => rfl⟩
            obtain ⟨ma, w1, w2, w3, w4⟩ := tw (uI μ 0 0 0) p (by omega) J0
            obtain ⟨y, mf, g1, g2, g3, g4⟩ := LP (q - p) (p + 1) (by omega) 10000 10000 (by omega) (by omega) p ma (by omega) w2 w3
            have c3 := (cl_of hW.1.2.1).2.2
            have hrel : RelP n ν mf := by
              obtain ⟨x1, x2, x3⟩ := g3
              have h0 := hR.th0 0
              refine ⟨⟨?_, g4, ?_⟩, Rst.cg h0.rst (fun off _ => Eq3.rf ν off) (fun off y1 y2 y3 => x1 off y1)⟩
              · rw [x2]
                exact LdR.unu (N := cl (μ.1 1 1)) hL hW (Nat.le_refl _) (by omega) (fun k hk => x3 k hk.2)
              · rw [x2]
                exact hP
            refine ⟨.ok y, (y, mf), ?_, fun k h => (by cases h), ?_, ?_, fun _ _ => rfl, hrel.mono (Nat.le_succ n)⟩
            · unfold g_X11_bestDay
              rw [rqS, e0, if_pos h, bnd_s, bnx_ok, R2, if_pos h2, bnx_ok, rqR, m1, if_pos h3, bnd_s, bnx_ok, rqR]
              show bnd (some (if 1 ≤ a4.toInt ∧ a4.toInt ≤ 30 then _ else _)) _ = _
              rw [if_pos h4, bnd_s, bnx_ok, rqR]
              show bnd (some (if 0 ≤ a5.toInt ∧ a5.toInt ≤ 999 then _ else _)) _ = _
              rw [if_pos h5, bnd_s, bnx_ok]
              have f0 := fr p (by omega)
              rw [← p1] at f0
              rw [f0, bnd_s]
              have g1' := g1
              rw [← nI1, ← p1] at g1'
              exact g1'
            · unfold g_X12_bestDay
              rw [bnd_s, er2, decide_eq_true h2, if_pos rfl, bnd_s, er3, decide_eq_true h3, if_pos rfl, bnd_s, er4, decide_eq_true h4, if_pos rfl, bnd_s, isWaste_eq, decide_eq_true h5, if_pos rfl]
              unfold g_X12_bestDay_J59
              rw [bnd_s, bnd_s, isShip_eq hW, decide_eq_true h, show f_X12_passes2 μ true true = (true, uI μ 0 0 0) from rfl, if_pos rfl]
              have w1' := w1
              rw [← i4, ← p1] at w1'
              have g2' := g2
              rw [← nI1, ← p1] at g2'
              show bnd (g_X12_totalWith (uI μ 0 0 0) a1 a2 a4 a5) _ = _
              rw [w1', bnd_s]
              exact g2'
            · show (0 : Int32) = mf.1 0 0
              rw [(g3.1 0 (by decide)).1]
              rfl
          · refine ⟨.error 2, (0, uI μ 0 0 2), ?_, fun k h => (by cases h; exact Or.inr rfl), ?_, rfl, fun _ g => absurd g (by decide), hR.thr 2⟩
            · unfold g_X11_bestDay
              rw [rqS, e0, if_pos h, bnd_s, bnx_ok, R2, if_pos h2, bnx_ok, rqR, m1, if_pos h3, bnd_s, bnx_ok, rqR]
              show bnd (some (if 1 ≤ a4.toInt ∧ a4.toInt ≤ 30 then _ else _)) _ = _
              rw [if_pos h4, bnd_s, bnx_ok, rqR]
              show bnd (some (if 0 ≤ a5.toInt ∧ a5.toInt ≤ 999 then _ else _)) _ = _
              rw [if_neg h5]
              rfl
            · unfold g_X12_bestDay
              rw [bnd_s, er2, decide_eq_true h2, if_pos rfl, bnd_s, er3, decide_eq_true h3, if_pos rfl, bnd_s, er4, decide_eq_true h4, if_pos rfl, bnd_s, isWaste_eq, decide_eq_false h5, if_neg (by decide)]
              exact J58
        · refine ⟨.error 2, (0, uI μ 0 0 2), ?_, fun k h => (by cases h; exact Or.inr rfl), ?_, rfl, fun _ g => absurd g (by decide), hR.thr 2⟩
          · unfold g_X11_bestDay
            rw [rqS, e0, if_pos h, bnd_s, bnx_ok, R2, if_pos h2, bnx_ok, rqR, m1, if_pos h3, bnd_s, bnx_ok, rqR]
            show bnd (some (if 1 ≤ a4.toInt ∧ a4.toInt ≤ 30 then _ else _)) _ = _
            rw [if_neg h4]
            rfl
          · unfold g_X12_bestDay
            rw [bnd_s, er2, decide_eq_true h2, if_pos rfl, bnd_s, er3, decide_eq_true h3, if_pos rfl, bnd_s, er4, decide_eq_false h4, if_neg (by decide)]
            exact J58
      · refine ⟨.error 2, (0, uI μ 0 0 2), ?_, fun k h => (by cases h; exact Or.inr rfl), ?_, rfl, fun _ g => absurd g (by decide), hR.thr 2⟩
        · unfold g_X11_bestDay
          rw [rqS, e0, if_pos h, bnd_s, bnx_ok, R2, if_pos h2, bnx_ok, rqR, m1, if_neg h3]
          rfl
        · unfold g_X12_bestDay
          rw [bnd_s, er2, decide_eq_true h2, if_pos rfl, bnd_s, er3, decide_eq_false h3, if_neg (by decide)]
          exact J58
    · refine ⟨.error 2, (0, uI μ 0 0 2), ?_, fun k h => (by cases h; exact Or.inr rfl), ?_, rfl, fun _ g => absurd g (by decide), hR.thr 2⟩
      · unfold g_X11_bestDay
        rw [rqS, e0, if_pos h, bnd_s, bnx_ok, R2, if_neg h2]
        rfl
      · unfold g_X12_bestDay
        rw [bnd_s, er2, decide_eq_false h2, if_neg (by decide)]
        exact J58
  · have J59 : ∀ b, g_X12_bestDay_J59 μ a1 a2 a3 a4 a5 μ b = some (0, uI μ 0 0 1) := fun b => by
      unfold g_X12_bestDay_J59
      rw [bnd_s, bnd_s, isShip_eq hW, decide_eq_false h, pz2]
      rfl
    have J58 : g_X12_bestDay_J58 μ a1 a2 a3 a4 a5 μ = some (0, uI μ 0 0 1) := J59 false
    refine ⟨.error 1, (0, uI μ 0 0 1), ?_, fun k h => (by cases h; exact Or.inl rfl), ?_, rfl, fun _ g => absurd g (by decide), hR.thr 1⟩
    · unfold g_X11_bestDay
      rw [rqS, e0, if_neg h]
      rfl
    · unfold g_X12_bestDay
      rw [bnd_s, bnd_s, bnd_s, bnd_s, J58, J59]
      split
      · split
        · split
          · split <;> rfl
          · rfl
        · rfl
      · rfl
