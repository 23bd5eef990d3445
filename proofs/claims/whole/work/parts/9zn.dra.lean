/-! PURE. The draft while a text is read. -/
section DRA
variable {ν0 μ0 ν μ : Mm} {len N : Nat}
theorem nff : ¬ false = true := by decide
theorem tar556 : isTar 556 := ⟨334, 0, led334, by decide, rfl⟩
theorem row2 : isRow 2 := Or.inr rfl
/-- the draft of both, N statements in it -/
def Dr (ν μ : Mm) (N : Nat) : Prop := LdR ν 334 (μ.1 2) (fun _ => 0) ∧ Wf (μ.1 2) ∧ μ.1 2 4 = 0 ∧ ∃ fm fw fl : Nat, (fm ≤ 1 ∧ fw ≤ 1 ∧ fl ≤ 1) ∧ (ν.1 661 6 = nI fm ∧ ν.1 661 7 = nI fw ∧ ν.1 661 8 = nI fl) ∧ (μ.1 0 14 = nI fm ∧ μ.1 0 15 = nI fw ∧ μ.1 0 16 = nI fl) ∧ N = fm + fw + fl + cl (μ.1 2 6) + cl (μ.1 2 7) + cl (μ.1 2 0) + cl (μ.1 2 1) ∧ cl (μ.1 2 1) ≤ 20
/-- all else is as it was -/
def Fz (ν0 μ0 ν μ : Mm) : Prop := (∀ off, off < 334 ∨ 661 < off → Eq3 ν0 ν off) ∧ (∀ off, off ≠ 0 → off ≠ 2 → Eq3 μ0 μ off) ∧ μ.2 = μ0.2 ∧ (∀ k, k < 8 ∨ 16 < k → μ.1 0 k = μ0.1 0 k) ∧ μ.2.2 0 3 = 2
def Gd (ν0 μ0 : Mm) (len N : Nat) (ν μ : Mm) : Prop := Fz ν0 μ0 ν μ ∧ Ps ν μ len ∧ Dr ν μ N
def Er (ν0 μ0 ν μ : Mm) : Prop := Fz ν0 μ0 ν μ ∧ Bs ν μ
/-- how a statement ends -/
def Out (ν0 μ0 : Mm) (len N : Nat) (g : Option (Bool × Mm)) (m : Option Mm) : Prop := ∃ b ν2 μ2, g = some (b, ν2) ∧ m = some μ2 ∧ ((b = true ∧ Gd ν0 μ0 len N ν2 μ2) ∨ (b = false ∧ Er ν0 μ0 ν2 μ2))
theorem pb0 (n : Nat) : Pb n (fun _ => 0) := fun s hs => ⟨Int.le_refl 0, by show (0 : Int) ≤ _; omega⟩
theorem Dr.cg {ν' μ' : Mm} (h : Dr ν μ N) (e : ∀ off, 334 ≤ off → off < 661 → Eq3 ν ν' off) (e6 : ∀ k, k = 6 ∨ k = 7 ∨ k = 8 → ν'.1 661 k = ν.1 661 k) (e2 : μ'.1 2 = μ.1 2) (em : ∀ k, k = 14 ∨ k = 15 ∨ k = 16 → μ'.1 0 k = μ.1 0 k) : Dr ν' μ' N := by
  obtain ⟨h1, h2, h3, fm, fw, fl, a1, ⟨b1, b2, b3⟩, ⟨c1, c2, c3⟩, d1, d2⟩ := h
  unfold Dr
  rw [e2]
  refine ⟨(LdW.congr (n := 0) ⟨h1, h2, pb0 0⟩ (fun off g1 g2 => e off g1 (by omega))).1, h2, h3, fm, fw, fl, a1, ⟨?_, ?_, ?_⟩, ⟨?_, ?_, ?_⟩, d1, d2⟩
  · rw [e6 6 (by omega)]; exact b1
  · rw [e6 7 (by omega)]; exact b2
  · rw [e6 8 (by omega)]; exact b3
  · rw [em 14 (by omega)]; exact c1
  · rw [em 15 (by omega)]; exact c2
  · rw [em 16 (by omega)]; exact c3
theorem Dr.mw {ν' μ' : Mm} (h : Dr ν μ N) (g : Mw ν μ ν' μ') : Dr ν' μ' N :=
  h.cg (fun off _ g2 => g.1 off (by omega)) g.2.1.2 (g.2.2.1 2 (by decide)).1 (fun k hk => g.2.2.2.2 k (by omega))
theorem Fz.mw {ν' μ' : Mm} (h : Fz ν0 μ0 ν μ) (g : Mw ν μ ν' μ') : Fz ν0 μ0 ν' μ' := by
  obtain ⟨h1, h2, h3, h4, h5⟩ := h
  obtain ⟨g1, g2, g3, g4, g5⟩ := g
  exact ⟨fun off ho => (h1 off ho).tr (g1 off (by omega)), fun off a b => (h2 off a b).tr (g3 off a), g4.trans h3, fun k hk => (g5 k (by omega)).trans (h4 k hk), by rw [g4]; exact h5⟩
theorem Fz.C (h : Fz ν0 μ0 ν μ) {o k : Nat} {v : Int32} (ho : 334 ≤ o ∧ o ≤ 661) : Fz ν0 μ0 (uI ν o k v) μ := by
  obtain ⟨h1, h2, h3, h4, h5⟩ := h
  exact ⟨fun off g => (h1 off g).I (by omega), h2, h3, h4, h5⟩
theorem Fz.M2 (h : Fz ν0 μ0 ν μ) {k : Nat} {v : Int32} : Fz ν0 μ0 ν (uI μ 2 k v) := by
  obtain ⟨h1, h2, h3, h4, h5⟩ := h
  exact ⟨h1, fun off a b => (h2 off a b).I b, h3, h4, h5⟩
theorem Fz.M0 (h : Fz ν0 μ0 ν μ) {k : Nat} {v : Int32} (hk : 8 ≤ k ∧ k ≤ 16) : Fz ν0 μ0 ν (uI μ 0 k v) := by
  obtain ⟨h1, h2, h3, h4, h5⟩ := h
  refine ⟨h1, fun off a b => (h2 off a b).I a, h3, fun j hj => ?_, h5⟩
  rw [uI_at, if_neg (fun z => by have := z.2; omega)]
  exact h4 j hj
theorem Bs.M2 (h : Bs ν μ) {k : Nat} {v : Int32} : Bs ν (uI μ 2 k v) := h
theorem Bs.M0 (h : Bs ν μ) {k : Nat} {v : Int32} (hk : 14 ≤ k) : Bs ν (uI μ 0 k v) := by
  obtain ⟨h1, h2, h3⟩ := h
  refine ⟨?_, ?_, ?_⟩
  · rw [uI_at, if_neg (fun z => by have := z.2; omega)]; exact h1
  · rw [uI_at, if_neg (fun z => by have := z.2; omega)]; exact h2
  · rw [uI_at, if_neg (fun z => by have := z.2; omega)]; exact h3
theorem Er.M2 (h : Er ν0 μ0 ν μ) {k : Nat} {v : Int32} : Er ν0 μ0 ν (uI μ 2 k v) := ⟨h.1.M2, h.2.M2⟩
theorem Er.M0 (h : Er ν0 μ0 ν μ) {k : Nat} {v : Int32} (hk : 14 ≤ k ∧ k ≤ 16) : Er ν0 μ0 ν (uI μ 0 k v) := ⟨h.1.M0 (by omega), h.2.M0 hk.1⟩
theorem Ps.M2 (h : Ps ν μ len) {k : Nat} {v : Int32} : Ps ν (uI μ 2 k v) len := h.cg rfl rfl (fun _ _ => rfl) rfl (fun _ _ => rfl)
theorem Ps.M0 (h : Ps ν μ len) {k : Nat} {v : Int32} (hk : 14 ≤ k) : Ps ν (uI μ 0 k v) len := h.cg rfl rfl (fun _ _ => rfl) rfl (fun j hj => by rw [uI_at, if_neg (fun z => by have := z.2; omega)])
theorem Ps.C (h : Ps ν μ len) {o k : Nat} {v : Int32} (ho : 334 ≤ o ∧ (o < 661 ∨ (o = 661 ∧ 5 ≤ k ∧ k ≤ 8))) : Ps (uI ν o k v) μ len :=
  h.cg (uI_o (by omega)).1 (uI_o (by omega)).1 (fun j hj => by rw [uI_at, if_neg (fun z => by have := z.1; have := z.2; omega)]) rfl (fun _ _ => rfl)
theorem Gd.mw {ν' μ' : Mm} (h : Gd ν0 μ0 len N ν μ) (g : Mw ν μ ν' μ') (p : Ps ν' μ' len) : Gd ν0 μ0 len N ν' μ' := ⟨h.1.mw g, p, h.2.2.mw g⟩
theorem Gd.er {ν' μ' : Mm} (h : Gd ν0 μ0 len N ν μ) (g : Mw ν μ ν' μ') (p : Bs ν' μ') : Er ν0 μ0 ν' μ' := ⟨h.1.mw g, p⟩
theorem Mw.row {ν' μ' : Mm} (g : Mw ν μ ν' μ') (k : Nat) (v : Int32) : Mw ν (uI μ 2 k v) ν' (uI μ' 2 k v) := by
  obtain ⟨g1, g2, g3, g4, g5⟩ := g
  refine ⟨g1, g2, fun off ho => ?_, g4, fun j hj => ?_⟩
  · by_cases e : off = 2
    · subst e
      refine ⟨?_, by rw [uI_21, uI_21, g4], by rw [uI_21, uI_21, g4]⟩
      funext j
      rw [uI_at, uI_at, (g3 2 ho).1]
    · obtain ⟨a1, a2, a3⟩ := g3 off ho
      obtain ⟨b1, b2, b3⟩ := uI_o (μ := μ) (k := k) (x := v) e
      obtain ⟨c1, c2, c3⟩ := uI_o (μ := μ') (k := k) (x := v) e
      exact ⟨by rw [b1, c1]; exact a1, by rw [b2, c2]; exact a2, by rw [b3, c3]; exact a3⟩
  · rw [uI_at, if_neg (fun z => absurd z.1 (by decide)), uI_at, if_neg (fun z => absurd z.1 (by decide))]
    exact g5 j hj
theorem Dr.flag0 (h : Dr ν μ N) (g : ν.1 661 6 = 0) : Dr (uI ν 661 6 (1 : Int32)) (uI μ 0 14 (1 : Int32)) (N + 1) := by
  obtain ⟨h1, h2, h3, fm, fw, fl, a1, ⟨b1, b2, b3⟩, ⟨c1, c2, c3⟩, d1, d2⟩ := h
  have z : fm = 0 := (nI_eq (b := 0) (by omega) (by decide)).mp (b1.symm.trans g)
  refine ⟨(LdW.congr (n := 0) ⟨h1, h2, pb0 0⟩ (fun off g1 g2 => uI_o (by omega))).1, h2, h3, 1, fw, fl, by omega, ⟨?_, ?_, ?_⟩, ⟨?_, ?_, ?_⟩, ?_, d2⟩
  · rw [uI_at, if_pos ⟨rfl, rfl⟩]
    rfl
  · rw [uI_at, if_neg (fun z => absurd z.2 (by decide))]
    exact b2
  · rw [uI_at, if_neg (fun z => absurd z.2 (by decide))]
    exact b3
  · rw [uI_at, if_pos ⟨rfl, rfl⟩]
    rfl
  · rw [uI_at, if_neg (fun z => absurd z.2 (by decide))]
    exact c2
  · rw [uI_at, if_neg (fun z => absurd z.2 (by decide))]
    exact c3
  · show N + 1 = 1 + fw + fl + cl (μ.1 2 6) + cl (μ.1 2 7) + cl (μ.1 2 0) + cl (μ.1 2 1)
    omega
theorem Dr.eqf0 (h : Dr ν μ N) : μ.1 0 14 = ν.1 661 6 := by
  obtain ⟨h1, h2, h3, fm, fw, fl, a1, ⟨b1, b2, b3⟩, ⟨c1, c2, c3⟩, d1, d2⟩ := h
  exact c1.trans b1.symm
theorem Dr.flag1 (h : Dr ν μ N) (g : ν.1 661 7 = 0) : Dr (uI ν 661 7 (1 : Int32)) (uI μ 0 15 (1 : Int32)) (N + 1) := by
  obtain ⟨h1, h2, h3, fm, fw, fl, a1, ⟨b1, b2, b3⟩, ⟨c1, c2, c3⟩, d1, d2⟩ := h
  have z : fw = 0 := (nI_eq (b := 0) (by omega) (by decide)).mp (b2.symm.trans g)
  refine ⟨(LdW.congr (n := 0) ⟨h1, h2, pb0 0⟩ (fun off g1 g2 => uI_o (by omega))).1, h2, h3, fm, 1, fl, by omega, ⟨?_, ?_, ?_⟩, ⟨?_, ?_, ?_⟩, ?_, d2⟩
  · rw [uI_at, if_neg (fun z => absurd z.2 (by decide))]
    exact b1
  · rw [uI_at, if_pos ⟨rfl, rfl⟩]
    rfl
  · rw [uI_at, if_neg (fun z => absurd z.2 (by decide))]
    exact b3
  · rw [uI_at, if_neg (fun z => absurd z.2 (by decide))]
    exact c1
  · rw [uI_at, if_pos ⟨rfl, rfl⟩]
    rfl
  · rw [uI_at, if_neg (fun z => absurd z.2 (by decide))]
    exact c3
  · show N + 1 = fm + 1 + fl + cl (μ.1 2 6) + cl (μ.1 2 7) + cl (μ.1 2 0) + cl (μ.1 2 1)
    omega
theorem Dr.eqf1 (h : Dr ν μ N) : μ.1 0 15 = ν.1 661 7 := by
  obtain ⟨h1, h2, h3, fm, fw, fl, a1, ⟨b1, b2, b3⟩, ⟨c1, c2, c3⟩, d1, d2⟩ := h
  exact c2.trans b2.symm
theorem Dr.flag2 (h : Dr ν μ N) (g : ν.1 661 8 = 0) : Dr (uI ν 661 8 (1 : Int32)) (uI μ 0 16 (1 : Int32)) (N + 1) := by
  obtain ⟨h1, h2, h3, fm, fw, fl, a1, ⟨b1, b2, b3⟩, ⟨c1, c2, c3⟩, d1, d2⟩ := h
  have z : fl = 0 := (nI_eq (b := 0) (by omega) (by decide)).mp (b3.symm.trans g)
  refine ⟨(LdW.congr (n := 0) ⟨h1, h2, pb0 0⟩ (fun off g1 g2 => uI_o (by omega))).1, h2, h3, fm, fw, 1, by omega, ⟨?_, ?_, ?_⟩, ⟨?_, ?_, ?_⟩, ?_, d2⟩
  · rw [uI_at, if_neg (fun z => absurd z.2 (by decide))]
    exact b1
  · rw [uI_at, if_neg (fun z => absurd z.2 (by decide))]
    exact b2
  · rw [uI_at, if_pos ⟨rfl, rfl⟩]
    rfl
  · rw [uI_at, if_neg (fun z => absurd z.2 (by decide))]
    exact c1
  · rw [uI_at, if_neg (fun z => absurd z.2 (by decide))]
    exact c2
  · rw [uI_at, if_pos ⟨rfl, rfl⟩]
    rfl
  · show N + 1 = fm + fw + 1 + cl (μ.1 2 6) + cl (μ.1 2 7) + cl (μ.1 2 0) + cl (μ.1 2 1)
    omega
theorem Dr.eqf2 (h : Dr ν μ N) : μ.1 0 16 = ν.1 661 8 := by
  obtain ⟨h1, h2, h3, fm, fw, fl, a1, ⟨b1, b2, b3⟩, ⟨c1, c2, c3⟩, d1, d2⟩ := h
  exact c3.trans b3.symm
theorem Dr.pres (h : Dr ν μ N) : g_X5_present ν 334 = some 556 := pres_of (v := 0) led334 (h.1.1.2.2.2.2.1.trans h.2.2.1) (by decide)
theorem Dr.le41 (h : Dr ν μ N) : N ≤ 41 := by
  obtain ⟨h1, h2, h3, fm, fw, fl, a1, b1, c1, d1, d2⟩ := h
  have n0 := (cl_of h2.1.1).2.2
  have n6 := (cl_of h2.1.2.2.2.2.2.2.1).2.2
  have n7 := (cl_of h2.1.2.2.2.2.2.2.2.1).2.2
  omega
theorem Dr.tar6 (h : Dr ν μ N) {v : Int32} (hv : rg v 0 1) : Dr (uI ν 556 6 v) (uI μ 2 8 v) N := by
  obtain ⟨h1, h2, h3, h4⟩ := h
  have n6 := (cl_of h2.1.2.2.2.2.2.2.1).2.2
  have n7 := (cl_of h2.1.2.2.2.2.2.2.2.1).2.2
  have E : ∀ k, k ≠ 8 → (uI μ 2 8 v).1 2 k = μ.1 2 k := fun k hk => by rw [uI_at, if_neg (fun z => hk z.2)]
  have EP : (uI μ 2 8 v).1 2 8 = v := by rw [uI_at, if_pos ⟨rfl, rfl⟩]
  have CP : (uI ν 556 6 v).1 556 6 = v := by rw [uI_at, if_pos ⟨rfl, rfl⟩]
  have CE : ∀ k, k ≠ 6 → (uI ν 556 6 v).1 556 k = ν.1 556 k := fun k hk => by rw [uI_at, if_neg (fun z => hk z.2)]
  have F : ∀ k, k < 1377 ∧ (k < 6 ∨ 6 + 28 ≤ k) → (uI μ 2 8 v).1 2 k = μ.1 2 k := fun k hk => E k (by omega)
  obtain ⟨⟨t4, t5, t6, t7, t8, t9, t10, t11⟩, tb, tr⟩ := h1.2.2.2.2.2 0 (Nat.zero_le _)
  obtain ⟨⟨w0, w1, w2, w3, w4, w5, w6, w7, w8, w9, w10, w11⟩, y1, y2, y3, y4, y5, y6, y7, y8⟩ := id h2
  have y70 := y7 0 (by decide)
  refine ⟨?_, ?_, ?_, ?_⟩
  · refine h1.tarc h2 (fun off g1 g2 g3 g4 g5 g6 g7 g8 => uI_o (by omega)) (fun k g1 g2 => by rw [uI_at, if_neg (fun z => absurd z.1 (by decide))]) F (by rw [h3]; rfl) ⟨⟨?_, ?_, ?_, ?_, ?_, ?_, ?_, ?_⟩, fun b hb => ⟨?_, ?_⟩, fun r hr => ⟨?_, ?_⟩⟩
    · exact (CE 4 (by decide)).trans (t4.trans (E 6 (by decide)).symm)
    · exact (CE 5 (by decide)).trans (t5.trans (E 7 (by decide)).symm)
    · exact CP.trans EP.symm
    · exact (CE 7 (by decide)).trans (t7.trans (E 9 (by decide)).symm)
    · exact (CE 8 (by decide)).trans (t8.trans (E 10 (by decide)).symm)
    · exact (CE 9 (by decide)).trans (t9.trans (E 11 (by decide)).symm)
    · exact (CE 10 (by decide)).trans (t10.trans (E 32 (by decide)).symm)
    · exact (CE 11 (by decide)).trans (t11.trans (E 33 (by decide)).symm)
    · rw [E 6 (by decide)] at hb
      rw [E (12 + b) (by omega)]
      exact (tb b hb).1
    · rw [E 6 (by decide)] at hb
      rw [E _ (by omega)]
      exact (tb b hb).2
    · rw [E 7 (by decide)] at hr
      rw [E (18 + r) (by omega)]
      exact (tr r hr).1
    · rw [E 7 (by decide)] at hr
      rw [E _ (by omega)]
      exact (tr r hr).2
  · refine h2.tarc F ⟨?_, ?_, ?_, ?_, ?_, ?_⟩ (fun b hb => ?_) (fun hb => ?_) (fun b hb => ?_) (fun r hr => ?_) (fun r hr => ?_) (fun r hr => ?_) ⟨fun b hb => ?_, fun r hr => ?_, ?_, ?_⟩
    · rw [E 6 (by decide)]; exact w6
    · rw [E 7 (by decide)]; exact w7
    · rw [EP]; exact hv
    · rw [E 9 (by decide)]; exact w9
    · rw [E 10 (by decide)]; exact w10
    · rw [E 11 (by decide)]; exact w11
    · rw [E _ (by omega)]; exact y1 b hb
    · rw [E 6 (by decide)] at hb
      rw [E 12 (by decide)]; exact y2 hb
    · rw [E 6 (by decide)] at hb
      rw [E _ (by omega), E _ (by omega)]; exact y3 b hb
    · rw [E _ (by omega)]; exact y4 r hr
    · rw [E 7 (by decide)] at hr
      rw [E _ (by omega), E _ (by omega)]; exact y5 r hr
    · rw [E 7 (by decide)] at hr
      rw [E _ (by omega)]; exact y6 r hr
    · rw [E _ (by omega)]; exact y70.1 b hb
    · rw [E _ (by omega)]; exact y70.2.1 r hr
    · show rg ((uI μ 2 8 v).1 2 32) _ _
      rw [E 32 (by decide)]; exact y70.2.2.1
    · show rg ((uI μ 2 8 v).1 2 33) _ _
      rw [E 33 (by decide)]; exact y70.2.2.2
  · rw [E 4 (by decide)]; exact h3
  · obtain ⟨fm, fw, fl, a1, ⟨b1, b2, b3⟩, ⟨c1, c2, c3⟩, d1, d2⟩ := h4
    refine ⟨fm, fw, fl, a1, ⟨b1, b2, b3⟩, ⟨c1, c2, c3⟩, ?_, ?_⟩
    · rw [E 6 (by decide), E 7 (by decide), E 0 (by decide), E 1 (by decide)]; exact d1
    · rw [E 1 (by decide)]; exact d2
theorem Dr.tar7 (h : Dr ν μ N) {v : Int32} (hv : rg v 0 9999) : Dr (uI ν 556 7 v) (uI μ 2 9 v) N := by
  obtain ⟨h1, h2, h3, h4⟩ := h
  have n6 := (cl_of h2.1.2.2.2.2.2.2.1).2.2
  have n7 := (cl_of h2.1.2.2.2.2.2.2.2.1).2.2
  have E : ∀ k, k ≠ 9 → (uI μ 2 9 v).1 2 k = μ.1 2 k := fun k hk => by rw [uI_at, if_neg (fun z => hk z.2)]
  have EP : (uI μ 2 9 v).1 2 9 = v := by rw [uI_at, if_pos ⟨rfl, rfl⟩]
  have CP : (uI ν 556 7 v).1 556 7 = v := by rw [uI_at, if_pos ⟨rfl, rfl⟩]
  have CE : ∀ k, k ≠ 7 → (uI ν 556 7 v).1 556 k = ν.1 556 k := fun k hk => by rw [uI_at, if_neg (fun z => hk z.2)]
  have F : ∀ k, k < 1377 ∧ (k < 6 ∨ 6 + 28 ≤ k) → (uI μ 2 9 v).1 2 k = μ.1 2 k := fun k hk => E k (by omega)
  obtain ⟨⟨t4, t5, t6, t7, t8, t9, t10, t11⟩, tb, tr⟩ := h1.2.2.2.2.2 0 (Nat.zero_le _)
  obtain ⟨⟨w0, w1, w2, w3, w4, w5, w6, w7, w8, w9, w10, w11⟩, y1, y2, y3, y4, y5, y6, y7, y8⟩ := id h2
  have y70 := y7 0 (by decide)
  refine ⟨?_, ?_, ?_, ?_⟩
  · refine h1.tarc h2 (fun off g1 g2 g3 g4 g5 g6 g7 g8 => uI_o (by omega)) (fun k g1 g2 => by rw [uI_at, if_neg (fun z => absurd z.1 (by decide))]) F (by rw [h3]; rfl) ⟨⟨?_, ?_, ?_, ?_, ?_, ?_, ?_, ?_⟩, fun b hb => ⟨?_, ?_⟩, fun r hr => ⟨?_, ?_⟩⟩
    · exact (CE 4 (by decide)).trans (t4.trans (E 6 (by decide)).symm)
    · exact (CE 5 (by decide)).trans (t5.trans (E 7 (by decide)).symm)
    · exact (CE 6 (by decide)).trans (t6.trans (E 8 (by decide)).symm)
    · exact CP.trans EP.symm
    · exact (CE 8 (by decide)).trans (t8.trans (E 10 (by decide)).symm)
    · exact (CE 9 (by decide)).trans (t9.trans (E 11 (by decide)).symm)
    · exact (CE 10 (by decide)).trans (t10.trans (E 32 (by decide)).symm)
    · exact (CE 11 (by decide)).trans (t11.trans (E 33 (by decide)).symm)
    · rw [E 6 (by decide)] at hb
      rw [E (12 + b) (by omega)]
      exact (tb b hb).1
    · rw [E 6 (by decide)] at hb
      rw [E _ (by omega)]
      exact (tb b hb).2
    · rw [E 7 (by decide)] at hr
      rw [E (18 + r) (by omega)]
      exact (tr r hr).1
    · rw [E 7 (by decide)] at hr
      rw [E _ (by omega)]
      exact (tr r hr).2
  · refine h2.tarc F ⟨?_, ?_, ?_, ?_, ?_, ?_⟩ (fun b hb => ?_) (fun hb => ?_) (fun b hb => ?_) (fun r hr => ?_) (fun r hr => ?_) (fun r hr => ?_) ⟨fun b hb => ?_, fun r hr => ?_, ?_, ?_⟩
    · rw [E 6 (by decide)]; exact w6
    · rw [E 7 (by decide)]; exact w7
    · rw [E 8 (by decide)]; exact w8
    · rw [EP]; exact hv
    · rw [E 10 (by decide)]; exact w10
    · rw [E 11 (by decide)]; exact w11
    · rw [E _ (by omega)]; exact y1 b hb
    · rw [E 6 (by decide)] at hb
      rw [E 12 (by decide)]; exact y2 hb
    · rw [E 6 (by decide)] at hb
      rw [E _ (by omega), E _ (by omega)]; exact y3 b hb
    · rw [E _ (by omega)]; exact y4 r hr
    · rw [E 7 (by decide)] at hr
      rw [E _ (by omega), E _ (by omega)]; exact y5 r hr
    · rw [E 7 (by decide)] at hr
      rw [E _ (by omega)]; exact y6 r hr
    · rw [E _ (by omega)]; exact y70.1 b hb
    · rw [E _ (by omega)]; exact y70.2.1 r hr
    · show rg ((uI μ 2 9 v).1 2 32) _ _
      rw [E 32 (by decide)]; exact y70.2.2.1
    · show rg ((uI μ 2 9 v).1 2 33) _ _
      rw [E 33 (by decide)]; exact y70.2.2.2
  · rw [E 4 (by decide)]; exact h3
  · obtain ⟨fm, fw, fl, a1, ⟨b1, b2, b3⟩, ⟨c1, c2, c3⟩, d1, d2⟩ := h4
    refine ⟨fm, fw, fl, a1, ⟨b1, b2, b3⟩, ⟨c1, c2, c3⟩, ?_, ?_⟩
    · rw [E 6 (by decide), E 7 (by decide), E 0 (by decide), E 1 (by decide)]; exact d1
    · rw [E 1 (by decide)]; exact d2
theorem Dr.tar8 (h : Dr ν μ N) {v : Int32} (hv : rg v 0 999) : Dr (uI ν 556 8 v) (uI μ 2 10 v) N := by
  obtain ⟨h1, h2, h3, h4⟩ := h
  have n6 := (cl_of h2.1.2.2.2.2.2.2.1).2.2
  have n7 := (cl_of h2.1.2.2.2.2.2.2.2.1).2.2
  have E : ∀ k, k ≠ 10 → (uI μ 2 10 v).1 2 k = μ.1 2 k := fun k hk => by rw [uI_at, if_neg (fun z => hk z.2)]
  have EP : (uI μ 2 10 v).1 2 10 = v := by rw [uI_at, if_pos ⟨rfl, rfl⟩]
  have CP : (uI ν 556 8 v).1 556 8 = v := by rw [uI_at, if_pos ⟨rfl, rfl⟩]
  have CE : ∀ k, k ≠ 8 → (uI ν 556 8 v).1 556 k = ν.1 556 k := fun k hk => by rw [uI_at, if_neg (fun z => hk z.2)]
  have F : ∀ k, k < 1377 ∧ (k < 6 ∨ 6 + 28 ≤ k) → (uI μ 2 10 v).1 2 k = μ.1 2 k := fun k hk => E k (by omega)
  obtain ⟨⟨t4, t5, t6, t7, t8, t9, t10, t11⟩, tb, tr⟩ := h1.2.2.2.2.2 0 (Nat.zero_le _)
  obtain ⟨⟨w0, w1, w2, w3, w4, w5, w6, w7, w8, w9, w10, w11⟩, y1, y2, y3, y4, y5, y6, y7, y8⟩ := id h2
  have y70 := y7 0 (by decide)
  refine ⟨?_, ?_, ?_, ?_⟩
  · refine h1.tarc h2 (fun off g1 g2 g3 g4 g5 g6 g7 g8 => uI_o (by omega)) (fun k g1 g2 => by rw [uI_at, if_neg (fun z => absurd z.1 (by decide))]) F (by rw [h3]; rfl) ⟨⟨?_, ?_, ?_, ?_, ?_, ?_, ?_, ?_⟩, fun b hb => ⟨?_, ?_⟩, fun r hr => ⟨?_, ?_⟩⟩
    · exact (CE 4 (by decide)).trans (t4.trans (E 6 (by decide)).symm)
    · exact (CE 5 (by decide)).trans (t5.trans (E 7 (by decide)).symm)
    · exact (CE 6 (by decide)).trans (t6.trans (E 8 (by decide)).symm)
    · exact (CE 7 (by decide)).trans (t7.trans (E 9 (by decide)).symm)
    · exact CP.trans EP.symm
    · exact (CE 9 (by decide)).trans (t9.trans (E 11 (by decide)).symm)
    · exact (CE 10 (by decide)).trans (t10.trans (E 32 (by decide)).symm)
    · exact (CE 11 (by decide)).trans (t11.trans (E 33 (by decide)).symm)
    · rw [E 6 (by decide)] at hb
      rw [E (12 + b) (by omega)]
      exact (tb b hb).1
    · rw [E 6 (by decide)] at hb
      rw [E _ (by omega)]
      exact (tb b hb).2
    · rw [E 7 (by decide)] at hr
      rw [E (18 + r) (by omega)]
      exact (tr r hr).1
    · rw [E 7 (by decide)] at hr
      rw [E _ (by omega)]
      exact (tr r hr).2
  · refine h2.tarc F ⟨?_, ?_, ?_, ?_, ?_, ?_⟩ (fun b hb => ?_) (fun hb => ?_) (fun b hb => ?_) (fun r hr => ?_) (fun r hr => ?_) (fun r hr => ?_) ⟨fun b hb => ?_, fun r hr => ?_, ?_, ?_⟩
    · rw [E 6 (by decide)]; exact w6
    · rw [E 7 (by decide)]; exact w7
    · rw [E 8 (by decide)]; exact w8
    · rw [E 9 (by decide)]; exact w9
    · rw [EP]; exact hv
    · rw [E 11 (by decide)]; exact w11
    · rw [E _ (by omega)]; exact y1 b hb
    · rw [E 6 (by decide)] at hb
      rw [E 12 (by decide)]; exact y2 hb
    · rw [E 6 (by decide)] at hb
      rw [E _ (by omega), E _ (by omega)]; exact y3 b hb
    · rw [E _ (by omega)]; exact y4 r hr
    · rw [E 7 (by decide)] at hr
      rw [E _ (by omega), E _ (by omega)]; exact y5 r hr
    · rw [E 7 (by decide)] at hr
      rw [E _ (by omega)]; exact y6 r hr
    · rw [E _ (by omega)]; exact y70.1 b hb
    · rw [E _ (by omega)]; exact y70.2.1 r hr
    · show rg ((uI μ 2 10 v).1 2 32) _ _
      rw [E 32 (by decide)]; exact y70.2.2.1
    · show rg ((uI μ 2 10 v).1 2 33) _ _
      rw [E 33 (by decide)]; exact y70.2.2.2
  · rw [E 4 (by decide)]; exact h3
  · obtain ⟨fm, fw, fl, a1, ⟨b1, b2, b3⟩, ⟨c1, c2, c3⟩, d1, d2⟩ := h4
    refine ⟨fm, fw, fl, a1, ⟨b1, b2, b3⟩, ⟨c1, c2, c3⟩, ?_, ?_⟩
    · rw [E 6 (by decide), E 7 (by decide), E 0 (by decide), E 1 (by decide)]; exact d1
    · rw [E 1 (by decide)]; exact d2
theorem Dr.tar9 (h : Dr ν μ N) {v : Int32} (hv : rg v 0 999) : Dr (uI ν 556 9 v) (uI μ 2 11 v) N := by
  obtain ⟨h1, h2, h3, h4⟩ := h
  have n6 := (cl_of h2.1.2.2.2.2.2.2.1).2.2
  have n7 := (cl_of h2.1.2.2.2.2.2.2.2.1).2.2
  have E : ∀ k, k ≠ 11 → (uI μ 2 11 v).1 2 k = μ.1 2 k := fun k hk => by rw [uI_at, if_neg (fun z => hk z.2)]
  have EP : (uI μ 2 11 v).1 2 11 = v := by rw [uI_at, if_pos ⟨rfl, rfl⟩]
  have CP : (uI ν 556 9 v).1 556 9 = v := by rw [uI_at, if_pos ⟨rfl, rfl⟩]
  have CE : ∀ k, k ≠ 9 → (uI ν 556 9 v).1 556 k = ν.1 556 k := fun k hk => by rw [uI_at, if_neg (fun z => hk z.2)]
  have F : ∀ k, k < 1377 ∧ (k < 6 ∨ 6 + 28 ≤ k) → (uI μ 2 11 v).1 2 k = μ.1 2 k := fun k hk => E k (by omega)
  obtain ⟨⟨t4, t5, t6, t7, t8, t9, t10, t11⟩, tb, tr⟩ := h1.2.2.2.2.2 0 (Nat.zero_le _)
  obtain ⟨⟨w0, w1, w2, w3, w4, w5, w6, w7, w8, w9, w10, w11⟩, y1, y2, y3, y4, y5, y6, y7, y8⟩ := id h2
  have y70 := y7 0 (by decide)
  refine ⟨?_, ?_, ?_, ?_⟩
  · refine h1.tarc h2 (fun off g1 g2 g3 g4 g5 g6 g7 g8 => uI_o (by omega)) (fun k g1 g2 => by rw [uI_at, if_neg (fun z => absurd z.1 (by decide))]) F (by rw [h3]; rfl) ⟨⟨?_, ?_, ?_, ?_, ?_, ?_, ?_, ?_⟩, fun b hb => ⟨?_, ?_⟩, fun r hr => ⟨?_, ?_⟩⟩
    · exact (CE 4 (by decide)).trans (t4.trans (E 6 (by decide)).symm)
    · exact (CE 5 (by decide)).trans (t5.trans (E 7 (by decide)).symm)
    · exact (CE 6 (by decide)).trans (t6.trans (E 8 (by decide)).symm)
    · exact (CE 7 (by decide)).trans (t7.trans (E 9 (by decide)).symm)
    · exact (CE 8 (by decide)).trans (t8.trans (E 10 (by decide)).symm)
    · exact CP.trans EP.symm
    · exact (CE 10 (by decide)).trans (t10.trans (E 32 (by decide)).symm)
    · exact (CE 11 (by decide)).trans (t11.trans (E 33 (by decide)).symm)
    · rw [E 6 (by decide)] at hb
      rw [E (12 + b) (by omega)]
      exact (tb b hb).1
    · rw [E 6 (by decide)] at hb
      rw [E _ (by omega)]
      exact (tb b hb).2
    · rw [E 7 (by decide)] at hr
      rw [E (18 + r) (by omega)]
      exact (tr r hr).1
    · rw [E 7 (by decide)] at hr
      rw [E _ (by omega)]
      exact (tr r hr).2
  · refine h2.tarc F ⟨?_, ?_, ?_, ?_, ?_, ?_⟩ (fun b hb => ?_) (fun hb => ?_) (fun b hb => ?_) (fun r hr => ?_) (fun r hr => ?_) (fun r hr => ?_) ⟨fun b hb => ?_, fun r hr => ?_, ?_, ?_⟩
    · rw [E 6 (by decide)]; exact w6
    · rw [E 7 (by decide)]; exact w7
    · rw [E 8 (by decide)]; exact w8
    · rw [E 9 (by decide)]; exact w9
    · rw [E 10 (by decide)]; exact w10
    · rw [EP]; exact hv
    · rw [E _ (by omega)]; exact y1 b hb
    · rw [E 6 (by decide)] at hb
      rw [E 12 (by decide)]; exact y2 hb
    · rw [E 6 (by decide)] at hb
      rw [E _ (by omega), E _ (by omega)]; exact y3 b hb
    · rw [E _ (by omega)]; exact y4 r hr
    · rw [E 7 (by decide)] at hr
      rw [E _ (by omega), E _ (by omega)]; exact y5 r hr
    · rw [E 7 (by decide)] at hr
      rw [E _ (by omega)]; exact y6 r hr
    · rw [E _ (by omega)]; exact y70.1 b hb
    · rw [E _ (by omega)]; exact y70.2.1 r hr
    · show rg ((uI μ 2 11 v).1 2 32) _ _
      rw [E 32 (by decide)]; exact y70.2.2.1
    · show rg ((uI μ 2 11 v).1 2 33) _ _
      rw [E 33 (by decide)]; exact y70.2.2.2
  · rw [E 4 (by decide)]; exact h3
  · obtain ⟨fm, fw, fl, a1, ⟨b1, b2, b3⟩, ⟨c1, c2, c3⟩, d1, d2⟩ := h4
    refine ⟨fm, fw, fl, a1, ⟨b1, b2, b3⟩, ⟨c1, c2, c3⟩, ?_, ?_⟩
    · rw [E 6 (by decide), E 7 (by decide), E 0 (by decide), E 1 (by decide)]; exact d1
    · rw [E 1 (by decide)]; exact d2
theorem Dr.tar10 (h : Dr ν μ N) {v : Int32} (hv : rg v 0 30) : Dr (uI ν 556 10 v) (uI μ 2 32 v) N := by
  obtain ⟨h1, h2, h3, h4⟩ := h
  have n6 := (cl_of h2.1.2.2.2.2.2.2.1).2.2
  have n7 := (cl_of h2.1.2.2.2.2.2.2.2.1).2.2
  have E : ∀ k, k ≠ 32 → (uI μ 2 32 v).1 2 k = μ.1 2 k := fun k hk => by rw [uI_at, if_neg (fun z => hk z.2)]
  have EP : (uI μ 2 32 v).1 2 32 = v := by rw [uI_at, if_pos ⟨rfl, rfl⟩]
  have CP : (uI ν 556 10 v).1 556 10 = v := by rw [uI_at, if_pos ⟨rfl, rfl⟩]
  have CE : ∀ k, k ≠ 10 → (uI ν 556 10 v).1 556 k = ν.1 556 k := fun k hk => by rw [uI_at, if_neg (fun z => hk z.2)]
  have F : ∀ k, k < 1377 ∧ (k < 6 ∨ 6 + 28 ≤ k) → (uI μ 2 32 v).1 2 k = μ.1 2 k := fun k hk => E k (by omega)
  obtain ⟨⟨t4, t5, t6, t7, t8, t9, t10, t11⟩, tb, tr⟩ := h1.2.2.2.2.2 0 (Nat.zero_le _)
  obtain ⟨⟨w0, w1, w2, w3, w4, w5, w6, w7, w8, w9, w10, w11⟩, y1, y2, y3, y4, y5, y6, y7, y8⟩ := id h2
  have y70 := y7 0 (by decide)
  refine ⟨?_, ?_, ?_, ?_⟩
  · refine h1.tarc h2 (fun off g1 g2 g3 g4 g5 g6 g7 g8 => uI_o (by omega)) (fun k g1 g2 => by rw [uI_at, if_neg (fun z => absurd z.1 (by decide))]) F (by rw [h3]; rfl) ⟨⟨?_, ?_, ?_, ?_, ?_, ?_, ?_, ?_⟩, fun b hb => ⟨?_, ?_⟩, fun r hr => ⟨?_, ?_⟩⟩
    · exact (CE 4 (by decide)).trans (t4.trans (E 6 (by decide)).symm)
    · exact (CE 5 (by decide)).trans (t5.trans (E 7 (by decide)).symm)
    · exact (CE 6 (by decide)).trans (t6.trans (E 8 (by decide)).symm)
    · exact (CE 7 (by decide)).trans (t7.trans (E 9 (by decide)).symm)
    · exact (CE 8 (by decide)).trans (t8.trans (E 10 (by decide)).symm)
    · exact (CE 9 (by decide)).trans (t9.trans (E 11 (by decide)).symm)
    · exact CP.trans EP.symm
    · exact (CE 11 (by decide)).trans (t11.trans (E 33 (by decide)).symm)
    · rw [E 6 (by decide)] at hb
      rw [E (12 + b) (by omega)]
      exact (tb b hb).1
    · rw [E 6 (by decide)] at hb
      rw [E _ (by omega)]
      exact (tb b hb).2
    · rw [E 7 (by decide)] at hr
      rw [E (18 + r) (by omega)]
      exact (tr r hr).1
    · rw [E 7 (by decide)] at hr
      rw [E _ (by omega)]
      exact (tr r hr).2
  · refine h2.tarc F ⟨?_, ?_, ?_, ?_, ?_, ?_⟩ (fun b hb => ?_) (fun hb => ?_) (fun b hb => ?_) (fun r hr => ?_) (fun r hr => ?_) (fun r hr => ?_) ⟨fun b hb => ?_, fun r hr => ?_, ?_, ?_⟩
    · rw [E 6 (by decide)]; exact w6
    · rw [E 7 (by decide)]; exact w7
    · rw [E 8 (by decide)]; exact w8
    · rw [E 9 (by decide)]; exact w9
    · rw [E 10 (by decide)]; exact w10
    · rw [E 11 (by decide)]; exact w11
    · rw [E _ (by omega)]; exact y1 b hb
    · rw [E 6 (by decide)] at hb
      rw [E 12 (by decide)]; exact y2 hb
    · rw [E 6 (by decide)] at hb
      rw [E _ (by omega), E _ (by omega)]; exact y3 b hb
    · rw [E _ (by omega)]; exact y4 r hr
    · rw [E 7 (by decide)] at hr
      rw [E _ (by omega), E _ (by omega)]; exact y5 r hr
    · rw [E 7 (by decide)] at hr
      rw [E _ (by omega)]; exact y6 r hr
    · rw [E _ (by omega)]; exact y70.1 b hb
    · rw [E _ (by omega)]; exact y70.2.1 r hr
    · show rg ((uI μ 2 32 v).1 2 32) _ _
      rw [EP]; exact hv
    · show rg ((uI μ 2 32 v).1 2 33) _ _
      rw [E 33 (by decide)]; exact y70.2.2.2
  · rw [E 4 (by decide)]; exact h3
  · obtain ⟨fm, fw, fl, a1, ⟨b1, b2, b3⟩, ⟨c1, c2, c3⟩, d1, d2⟩ := h4
    refine ⟨fm, fw, fl, a1, ⟨b1, b2, b3⟩, ⟨c1, c2, c3⟩, ?_, ?_⟩
    · rw [E 6 (by decide), E 7 (by decide), E 0 (by decide), E 1 (by decide)]; exact d1
    · rw [E 1 (by decide)]; exact d2
theorem Dr.tar11 (h : Dr ν μ N) {v : Int32} (hv : rg v 0 9999) : Dr (uI ν 556 11 v) (uI μ 2 33 v) N := by
  obtain ⟨h1, h2, h3, h4⟩ := h
  have n6 := (cl_of h2.1.2.2.2.2.2.2.1).2.2
  have n7 := (cl_of h2.1.2.2.2.2.2.2.2.1).2.2
  have E : ∀ k, k ≠ 33 → (uI μ 2 33 v).1 2 k = μ.1 2 k := fun k hk => by rw [uI_at, if_neg (fun z => hk z.2)]
  have EP : (uI μ 2 33 v).1 2 33 = v := by rw [uI_at, if_pos ⟨rfl, rfl⟩]
  have CP : (uI ν 556 11 v).1 556 11 = v := by rw [uI_at, if_pos ⟨rfl, rfl⟩]
  have CE : ∀ k, k ≠ 11 → (uI ν 556 11 v).1 556 k = ν.1 556 k := fun k hk => by rw [uI_at, if_neg (fun z => hk z.2)]
  have F : ∀ k, k < 1377 ∧ (k < 6 ∨ 6 + 28 ≤ k) → (uI μ 2 33 v).1 2 k = μ.1 2 k := fun k hk => E k (by omega)
  obtain ⟨⟨t4, t5, t6, t7, t8, t9, t10, t11⟩, tb, tr⟩ := h1.2.2.2.2.2 0 (Nat.zero_le _)
  obtain ⟨⟨w0, w1, w2, w3, w4, w5, w6, w7, w8, w9, w10, w11⟩, y1, y2, y3, y4, y5, y6, y7, y8⟩ := id h2
  have y70 := y7 0 (by decide)
  refine ⟨?_, ?_, ?_, ?_⟩
  · refine h1.tarc h2 (fun off g1 g2 g3 g4 g5 g6 g7 g8 => uI_o (by omega)) (fun k g1 g2 => by rw [uI_at, if_neg (fun z => absurd z.1 (by decide))]) F (by rw [h3]; rfl) ⟨⟨?_, ?_, ?_, ?_, ?_, ?_, ?_, ?_⟩, fun b hb => ⟨?_, ?_⟩, fun r hr => ⟨?_, ?_⟩⟩
    · exact (CE 4 (by decide)).trans (t4.trans (E 6 (by decide)).symm)
    · exact (CE 5 (by decide)).trans (t5.trans (E 7 (by decide)).symm)
    · exact (CE 6 (by decide)).trans (t6.trans (E 8 (by decide)).symm)
    · exact (CE 7 (by decide)).trans (t7.trans (E 9 (by decide)).symm)
    · exact (CE 8 (by decide)).trans (t8.trans (E 10 (by decide)).symm)
    · exact (CE 9 (by decide)).trans (t9.trans (E 11 (by decide)).symm)
    · exact (CE 10 (by decide)).trans (t10.trans (E 32 (by decide)).symm)
    · exact CP.trans EP.symm
    · rw [E 6 (by decide)] at hb
      rw [E (12 + b) (by omega)]
      exact (tb b hb).1
    · rw [E 6 (by decide)] at hb
      rw [E _ (by omega)]
      exact (tb b hb).2
    · rw [E 7 (by decide)] at hr
      rw [E (18 + r) (by omega)]
      exact (tr r hr).1
    · rw [E 7 (by decide)] at hr
      rw [E _ (by omega)]
      exact (tr r hr).2
  · refine h2.tarc F ⟨?_, ?_, ?_, ?_, ?_, ?_⟩ (fun b hb => ?_) (fun hb => ?_) (fun b hb => ?_) (fun r hr => ?_) (fun r hr => ?_) (fun r hr => ?_) ⟨fun b hb => ?_, fun r hr => ?_, ?_, ?_⟩
    · rw [E 6 (by decide)]; exact w6
    · rw [E 7 (by decide)]; exact w7
    · rw [E 8 (by decide)]; exact w8
    · rw [E 9 (by decide)]; exact w9
    · rw [E 10 (by decide)]; exact w10
    · rw [E 11 (by decide)]; exact w11
    · rw [E _ (by omega)]; exact y1 b hb
    · rw [E 6 (by decide)] at hb
      rw [E 12 (by decide)]; exact y2 hb
    · rw [E 6 (by decide)] at hb
      rw [E _ (by omega), E _ (by omega)]; exact y3 b hb
    · rw [E _ (by omega)]; exact y4 r hr
    · rw [E 7 (by decide)] at hr
      rw [E _ (by omega), E _ (by omega)]; exact y5 r hr
    · rw [E 7 (by decide)] at hr
      rw [E _ (by omega)]; exact y6 r hr
    · rw [E _ (by omega)]; exact y70.1 b hb
    · rw [E _ (by omega)]; exact y70.2.1 r hr
    · show rg ((uI μ 2 33 v).1 2 32) _ _
      rw [E 32 (by decide)]; exact y70.2.2.1
    · show rg ((uI μ 2 33 v).1 2 33) _ _
      rw [EP]; exact hv
  · rw [E 4 (by decide)]; exact h3
  · obtain ⟨fm, fw, fl, a1, ⟨b1, b2, b3⟩, ⟨c1, c2, c3⟩, d1, d2⟩ := h4
    refine ⟨fm, fw, fl, a1, ⟨b1, b2, b3⟩, ⟨c1, c2, c3⟩, ?_, ?_⟩
    · rw [E 6 (by decide), E 7 (by decide), E 0 (by decide), E 1 (by decide)]; exact d1
    · rw [E 1 (by decide)]; exact d2
/-- a word and a number behind it -/
theorem na_of (h : Ps ν μ len) (w : Nat) {lo hi : Int32} (hh : hi.toInt ≤ 9999) : (∃ ν1 ν2 v μ2, g_X7_word ν w = some (true, ν1) ∧ g_X7_number ν1 lo hi = some (true, ν2) ∧ g_X12_numberAfter μ w lo hi = some (v, μ2) ∧ Mw ν μ ν2 μ2 ∧ Ps ν2 μ2 len ∧ ν2.1 661 5 = v ∧ rg v lo.toInt hi.toInt ∧ 0 ≤ v.toInt) ∨ ∃ ν2 v μ2, (g_X7_word ν w = some (false, ν2) ∨ ∃ ν1, g_X7_word ν w = some (true, ν1) ∧ g_X7_number ν1 lo hi = some (false, ν2)) ∧ g_X12_numberAfter μ w lo hi = some (v, μ2) ∧ Mw ν μ ν2 μ2 ∧ Bs ν2 μ2 := by
  obtain ⟨b, ν1, μ1, f1, f2, f3, f4⟩ := word_of h w
  unfold g_X12_numberAfter
  rw [f2, bnd_s]
  rcases f4 with ⟨rfl, f4⟩ | ⟨rfl, f4⟩
  · obtain ⟨c, ν2, v, μ2, g1, g2, ⟨g3, g4⟩, g5⟩ := number_of f4 (lo := lo) hh
    rw [g2, bnd_s]
    rcases g4 with ⟨rfl, g4⟩ | ⟨rfl, g4⟩
    · exact Or.inl ⟨ν1, ν2, v, μ2, f1, g1, rfl, f3.tr g3, g4, (g5 rfl).1, (g5 rfl).2⟩
    · exact Or.inr ⟨ν2, v, μ2, Or.inr ⟨ν1, f1, g1⟩, rfl, f3.tr g3, g4⟩
  · rw [bd_number f4.2.2, bnd_s]
    exact Or.inr ⟨ν1, lo, μ1, Or.inl f1, rfl, f3, f4⟩
theorem mode_st (h : Gd ν0 μ0 len N ν μ) (a : Bool) : Out ν0 μ0 len (N + 1) (g_X7_modeStatement ν a) (g_X12_parseMode μ (bI a)) := by
  obtain ⟨hF, hP, hD⟩ := h
  have hv : rg (bI a) 0 1 := by cases a <;> exact ⟨by decide, by decide⟩
  unfold g_X7_modeStatement g_X12_parseMode
  rw [hD.eqf0]
  by_cases g : ν.1 661 6 = 0
  · have hD1 := hD.flag0 g
    have hP1 : Ps (uI (uI ν 661 6 (1 : Int32)) 556 6 (bI a)) (uI μ 0 14 (1 : Int32)) len := ((hP.C (by omega)).C (by omega)).M0 (by omega)
    obtain ⟨ν2, μ2, f1, f2, f3, f4, -⟩ := rd_of hP1
    have hF1 : Fz ν0 μ0 ν2 μ2 := (((hF.C (by omega)).C (by omega)).M0 (by omega)).mw f3
    rw [if_pos g, if_pos g, bnd_s, hD1.pres, bnd_s, asr_pos tar556, bnd_s, f1, bnd_s]
    unfold g_X12_parseMode_J12
    rw [bnd_s, f2, bnd_s, hF1.2.2.2.2, asr_pos row2, bnd_s]
    exact ⟨true, ν2, _, rfl, rfl, Or.inl ⟨rfl, hF1.M2, f4.M2, (hD1.tar6 hv).mw (f3.row 8 (bI a))⟩⟩
  · obtain ⟨ν2, μ2, f1, f2, f3, f4⟩ := fail_of hP (3 : Int32) (by decide)
    have hE : Er ν0 μ0 ν2 μ2 := ⟨hF.mw f3, f4⟩
    rw [if_neg g, if_neg g, f1, f2, bnd_s, bnd_s]
    unfold g_X12_parseMode_J12
    rw [bnd_s, bd_goOn (hE.M0 (k := 14) (v := 1) (by omega)).2.2.2, bnd_s, (hE.M0 (k := 14) (v := 1) (by omega)).1.2.2.2.2, asr_pos row2, bnd_s]
    exact ⟨false, ν2, _, rfl, rfl, Or.inr ⟨rfl, (hE.M0 (by omega)).M2⟩⟩
theorem waste_st (h : Gd ν0 μ0 len N ν μ) : Out ν0 μ0 len (N + 1) (g_X7_wasteStatement ν 556) (g_X12_parseWaste μ) := by
  obtain ⟨hF, hP, hD⟩ := h
  unfold g_X7_wasteStatement g_X12_parseWaste
  rw [asr_pos tar556, hD.eqf1]
  by_cases g : ν.1 661 7 = 0
  · have hD1 := hD.flag1 g
    have hP1 : Ps (uI ν 661 7 (1 : Int32)) (uI μ 0 15 (1 : Int32)) len := (hP.C (by omega)).M0 (by omega)
    obtain ⟨ν1, μ1, f1, f2, f3, f4, -⟩ := rd_of hP1
    have h0 : Gd ν0 μ0 len (N + 1) ν1 μ1 := ⟨((hF.C (by omega)).M0 (by omega)).mw f3, f4, hD1.mw f3⟩
    rw [if_pos g, if_pos g, bnd_s, f1, bnd_s]
    unfold g_X12_parseWaste_J12
    rw [bnd_s, f2, bnd_s, h0.1.2.2.2.2, asr_pos row2]
    rcases na_of h0.2.1 431199119718 (lo := (0 : Int32)) (hi := (9999 : Int32)) (by decide) with ⟨νa, νb, v, μb, c1, c2, c3, c4, c5, c6, c7, -⟩ | ⟨νb, v, μb, c1, c2, c3, c4⟩
    rotate_left
    · have hE : Er ν0 μ0 νb μb := h0.er c3 c4
      have hB : ¬ μb.1 0 12 = 0 := c4.2.2
      rw [c2, bnd_s, bnd_s]
      rw [show ((uI μb 2 9 v)).2.2 0 3 = 2 from hE.1.2.2.2.2, asr_pos row2, bd_na (μ := (uI μb 2 9 v)) hB, bnd_s, bnd_s]
      rw [show ((uI (uI μb 2 9 v) 2 10 (0 : Int32))).2.2 0 3 = 2 from hE.1.2.2.2.2, asr_pos row2, bd_na (μ := (uI (uI μb 2 9 v) 2 10 (0 : Int32))) hB, bnd_s, bnd_s]
      rcases c1 with c1 | ⟨νa, c1, d1⟩
      · rw [c1, bnd_s, if_neg (show ¬ (false, νb).1 = true from nff)]
        exact ⟨false, νb, _, rfl, rfl, Or.inr ⟨rfl, ((hE.M2).M2).M2⟩⟩
      · rw [c1, bnd_s, if_pos (show (true, νa).1 = true from rfl), d1, bnd_s, if_neg (show ¬ (false, νb).1 = true from nff)]
        exact ⟨false, νb, _, rfl, rfl, Or.inr ⟨rfl, ((hE.M2).M2).M2⟩⟩
    rw [c1, bnd_s, if_pos (show (true, νa).1 = true from rfl), c2, bnd_s, if_pos (show (true, νb).1 = true from rfl), bnd_s, c3, bnd_s, bnd_s]
    dsimp only
    rw [c6]
    have h1 : Gd ν0 μ0 len (N + 1) (uI νb 556 7 v) (uI μb 2 9 v) := ⟨((h0.1.mw c4).C (by omega)).M2, (c5.C (by omega)).M2, (h0.2.2.mw c4).tar7 c7⟩
    clear c1 c2 c3 c4 c5 c6 c7
    rw [h1.1.2.2.2.2, asr_pos row2]
    generalize uI νb 556 7 v = νc at h1 ⊢
    generalize uI μb 2 9 v = μc at h1 ⊢
    clear h0
    rcases na_of h1.2.1 1701147238 (lo := (0 : Int32)) (hi := (999 : Int32)) (by decide) with ⟨νa, νb, v, μb, c1, c2, c3, c4, c5, c6, c7, -⟩ | ⟨νb, v, μb, c1, c2, c3, c4⟩
    rotate_left
    · have hE : Er ν0 μ0 νb μb := h1.er c3 c4
      have hB : ¬ μb.1 0 12 = 0 := c4.2.2
      rw [c2, bnd_s, bnd_s]
      rw [show ((uI μb 2 10 v)).2.2 0 3 = 2 from hE.1.2.2.2.2, asr_pos row2, bd_na (μ := (uI μb 2 10 v)) hB, bnd_s, bnd_s]
      rcases c1 with c1 | ⟨νa, c1, d1⟩
      · rw [c1, bnd_s, if_neg (show ¬ (false, νb).1 = true from nff)]
        exact ⟨false, νb, _, rfl, rfl, Or.inr ⟨rfl, (hE.M2).M2⟩⟩
      · rw [c1, bnd_s, if_pos (show (true, νa).1 = true from rfl), d1, bnd_s, if_neg (show ¬ (false, νb).1 = true from nff)]
        exact ⟨false, νb, _, rfl, rfl, Or.inr ⟨rfl, (hE.M2).M2⟩⟩
    rw [c1, bnd_s, if_pos (show (true, νa).1 = true from rfl), c2, bnd_s, if_pos (show (true, νb).1 = true from rfl), bnd_s, c3, bnd_s, bnd_s]
    dsimp only
    rw [c6]
    have h2 : Gd ν0 μ0 len (N + 1) (uI νb 556 8 v) (uI μb 2 10 v) := ⟨((h1.1.mw c4).C (by omega)).M2, (c5.C (by omega)).M2, (h1.2.2.mw c4).tar8 c7⟩
    clear c1 c2 c3 c4 c5 c6 c7
    rw [h2.1.2.2.2.2, asr_pos row2]
    generalize uI νb 556 8 v = νc at h2 ⊢
    generalize uI μb 2 10 v = μc at h2 ⊢
    clear h1
    rcases na_of h2.2.1 435459551856 (lo := (0 : Int32)) (hi := (999 : Int32)) (by decide) with ⟨νa, νb, v, μb, c1, c2, c3, c4, c5, c6, c7, -⟩ | ⟨νb, v, μb, c1, c2, c3, c4⟩
    rotate_left
    · have hE : Er ν0 μ0 νb μb := h2.er c3 c4
      have hB : ¬ μb.1 0 12 = 0 := c4.2.2
      rw [c2, bnd_s, bnd_s]
      rcases c1 with c1 | ⟨νa, c1, d1⟩
      · rw [c1, bnd_s, if_neg (show ¬ (false, νb).1 = true from nff)]
        exact ⟨false, νb, _, rfl, rfl, Or.inr ⟨rfl, hE.M2⟩⟩
      · rw [c1, bnd_s, if_pos (show (true, νa).1 = true from rfl), d1, bnd_s, if_neg (show ¬ (false, νb).1 = true from nff)]
        exact ⟨false, νb, _, rfl, rfl, Or.inr ⟨rfl, hE.M2⟩⟩
    rw [c1, bnd_s, if_pos (show (true, νa).1 = true from rfl), c2, bnd_s, if_pos (show (true, νb).1 = true from rfl), bnd_s, c3, bnd_s, bnd_s]
    dsimp only
    rw [c6]
    have h3 : Gd ν0 μ0 len (N + 1) (uI νb 556 9 v) (uI μb 2 11 v) := ⟨((h2.1.mw c4).C (by omega)).M2, (c5.C (by omega)).M2, (h2.2.2.mw c4).tar9 c7⟩
    clear c1 c2 c3 c4 c5 c6 c7
    exact ⟨true, _, _, rfl, rfl, Or.inl ⟨rfl, h3⟩⟩
  · obtain ⟨ν2, μ2, f1, f2, f3, f4⟩ := fail_of hP (3 : Int32) (by decide)
    have hE : Er ν0 μ0 ν2 μ2 := ⟨hF.mw f3, f4⟩
    have hE1 : Er ν0 μ0 ν2 (uI μ2 0 15 (1 : Int32)) := hE.M0 (by omega)
    have hB : ¬ (uI μ2 0 15 (1 : Int32)).1 0 12 = 0 := hE1.2.2.2
    rw [if_neg g, if_neg g, f1, f2, bnd_s, bnd_s]
    unfold g_X12_parseWaste_J12
    rw [bnd_s, bd_goOn hB, bnd_s]
    generalize uI μ2 0 15 (1 : Int32) = μb at hE1 hB ⊢
    rw [show (μb).2.2 0 3 = 2 from hE1.1.2.2.2.2, asr_pos row2, bd_na (μ := μb) hB, bnd_s, bnd_s]
    rw [show ((uI μb 2 9 (0 : Int32))).2.2 0 3 = 2 from hE1.1.2.2.2.2, asr_pos row2, bd_na (μ := (uI μb 2 9 (0 : Int32))) hB, bnd_s, bnd_s]
    rw [show ((uI (uI μb 2 9 (0 : Int32)) 2 10 (0 : Int32))).2.2 0 3 = 2 from hE1.1.2.2.2.2, asr_pos row2, bd_na (μ := (uI (uI μb 2 9 (0 : Int32)) 2 10 (0 : Int32))) hB, bnd_s, bnd_s]
    exact ⟨false, ν2, _, rfl, rfl, Or.inr ⟨rfl, (((hE1).M2).M2).M2⟩⟩
theorem lay_st (h : Gd ν0 μ0 len N ν μ) : Out ν0 μ0 len (N + 1) (g_X7_layStatement ν 556) (g_X12_parseLay μ) := by
  obtain ⟨hF, hP, hD⟩ := h
  unfold g_X7_layStatement g_X12_parseLay
  rw [asr_pos tar556, hD.eqf2]
  by_cases g : ν.1 661 8 = 0
  · have hD1 := hD.flag2 g
    have hP1 : Ps (uI ν 661 8 (1 : Int32)) (uI μ 0 16 (1 : Int32)) len := (hP.C (by omega)).M0 (by omega)
    obtain ⟨ν1, μ1, f1, f2, f3, f4, -⟩ := rd_of hP1
    have h0 : Gd ν0 μ0 len (N + 1) ν1 μ1 := ⟨((hF.C (by omega)).M0 (by omega)).mw f3, f4, hD1.mw f3⟩
    rw [if_pos g, if_pos g, bnd_s, f1, bnd_s]
    unfold g_X12_parseLay_J12
    rw [bnd_s, f2, bnd_s, h0.1.2.2.2.2, asr_pos row2]
    rcases na_of h0.2.1 1701147238 (lo := (0 : Int32)) (hi := (30 : Int32)) (by decide) with ⟨νa, νb, v, μb, c1, c2, c3, c4, c5, c6, c7, -⟩ | ⟨νb, v, μb, c1, c2, c3, c4⟩
    rotate_left
    · have hE : Er ν0 μ0 νb μb := h0.er c3 c4
      have hB : ¬ μb.1 0 12 = 0 := c4.2.2
      rw [c2, bnd_s, bnd_s]
      rw [show ((uI μb 2 32 v)).2.2 0 3 = 2 from hE.1.2.2.2.2, asr_pos row2, bd_na (μ := (uI μb 2 32 v)) hB, bnd_s, bnd_s]
      rcases c1 with c1 | ⟨νa, c1, d1⟩
      · rw [c1, bnd_s, if_neg (show ¬ (false, νb).1 = true from nff)]
        exact ⟨false, νb, _, rfl, rfl, Or.inr ⟨rfl, (hE.M2).M2⟩⟩
      · rw [c1, bnd_s, if_pos (show (true, νa).1 = true from rfl), d1, bnd_s, if_neg (show ¬ (false, νb).1 = true from nff)]
        exact ⟨false, νb, _, rfl, rfl, Or.inr ⟨rfl, (hE.M2).M2⟩⟩
    rw [c1, bnd_s, if_pos (show (true, νa).1 = true from rfl), c2, bnd_s, if_pos (show (true, νb).1 = true from rfl), bnd_s, c3, bnd_s, bnd_s]
    dsimp only
    rw [c6]
    have h1 : Gd ν0 μ0 len (N + 1) (uI νb 556 10 v) (uI μb 2 32 v) := ⟨((h0.1.mw c4).C (by omega)).M2, (c5.C (by omega)).M2, (h0.2.2.mw c4).tar10 c7⟩
    clear c1 c2 c3 c4 c5 c6 c7
    rw [h1.1.2.2.2.2, asr_pos row2]
    generalize uI νb 556 10 v = νc at h1 ⊢
    generalize uI μb 2 32 v = μc at h1 ⊢
    clear h0
    rcases na_of h1.2.1 1702125938 (lo := (0 : Int32)) (hi := (9999 : Int32)) (by decide) with ⟨νa, νb, v, μb, c1, c2, c3, c4, c5, c6, c7, -⟩ | ⟨νb, v, μb, c1, c2, c3, c4⟩
    rotate_left
    · have hE : Er ν0 μ0 νb μb := h1.er c3 c4
      have hB : ¬ μb.1 0 12 = 0 := c4.2.2
      rw [c2, bnd_s, bnd_s]
      rcases c1 with c1 | ⟨νa, c1, d1⟩
      · rw [c1, bnd_s, if_neg (show ¬ (false, νb).1 = true from nff)]
        exact ⟨false, νb, _, rfl, rfl, Or.inr ⟨rfl, hE.M2⟩⟩
      · rw [c1, bnd_s, if_pos (show (true, νa).1 = true from rfl), d1, bnd_s, if_neg (show ¬ (false, νb).1 = true from nff)]
        exact ⟨false, νb, _, rfl, rfl, Or.inr ⟨rfl, hE.M2⟩⟩
    rw [c1, bnd_s, if_pos (show (true, νa).1 = true from rfl), c2, bnd_s, if_pos (show (true, νb).1 = true from rfl), bnd_s, c3, bnd_s, bnd_s]
    dsimp only
    rw [c6]
    have h2 : Gd ν0 μ0 len (N + 1) (uI νb 556 11 v) (uI μb 2 33 v) := ⟨((h1.1.mw c4).C (by omega)).M2, (c5.C (by omega)).M2, (h1.2.2.mw c4).tar11 c7⟩
    clear c1 c2 c3 c4 c5 c6 c7
    exact ⟨true, _, _, rfl, rfl, Or.inl ⟨rfl, h2⟩⟩
  · obtain ⟨ν2, μ2, f1, f2, f3, f4⟩ := fail_of hP (3 : Int32) (by decide)
    have hE : Er ν0 μ0 ν2 μ2 := ⟨hF.mw f3, f4⟩
    have hE1 : Er ν0 μ0 ν2 (uI μ2 0 16 (1 : Int32)) := hE.M0 (by omega)
    have hB : ¬ (uI μ2 0 16 (1 : Int32)).1 0 12 = 0 := hE1.2.2.2
    rw [if_neg g, if_neg g, f1, f2, bnd_s, bnd_s]
    unfold g_X12_parseLay_J12
    rw [bnd_s, bd_goOn hB, bnd_s]
    generalize uI μ2 0 16 (1 : Int32) = μb at hE1 hB ⊢
    rw [show (μb).2.2 0 3 = 2 from hE1.1.2.2.2.2, asr_pos row2, bd_na (μ := μb) hB, bnd_s, bnd_s]
    rw [show ((uI μb 2 32 (0 : Int32))).2.2 0 3 = 2 from hE1.1.2.2.2.2, asr_pos row2, bd_na (μ := (uI μb 2 32 (0 : Int32))) hB, bnd_s, bnd_s]
    exact ⟨false, ν2, _, rfl, rfl, Or.inr ⟨rfl, ((hE1).M2).M2⟩⟩
end DRA
