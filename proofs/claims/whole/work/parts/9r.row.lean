/-! PURE. One row of a ledger changes. -/
theorem LdR.shipc {ν ν' : Mm} {L : Nat} {f f' : Nat → Int32} {p p' : Nat → Int64} (h : LdR ν L f p) (hW : Wf f) {x : Nat} (hx : x < 8) (hν : ∀ off, L ≤ off → off < L + 327 → off ≠ L → off ≠ L + (6 + 2 * x) → off ≠ L + (6 + 2 * x) + 1 → Eq3 ν ν' off) (hL : ∀ k, 5 ≤ k → k < 11 → k ≠ 5 → ν'.1 L k = ν.1 L k) (h6 : ν'.1 L 5 = f' 0) (F : ∀ k, k < 1377 ∧ k ≠ 0 ∧ (k < 274 + 7 * x ∨ 274 + 7 * x + 7 ≤ k) → f' k = f k) (hcn : ∀ y, y < cl (f' 0) → y = x ∨ y < cl (f 0)) (hrow : ν'.1 (L + (6 + 2 * x)) 2 = f' (274 + 7 * x) ∧ ν'.2.1 (L + (6 + 2 * x)) 3 = p' x ∧ Nm (ν'.1 (L + (6 + 2 * x)) 1) (ν'.1 (L + (6 + 2 * x) + 1)) (fun k => f' (274 + 7 * x + 1 + k))) (hp : ∀ y, y < 8 → y ≠ x → p' y = p y) : LdR ν' L f' p' := by
  have n0 := (cl_of hW.1.1).2.2
  have n1 := (cl_of hW.1.2.1).2.2
  have n2 := (cl_of hW.1.2.2.1).2.2
  have n3 := (cl_of hW.1.2.2.2.1).2.2
  have n4 := (cl_of hW.1.2.2.2.2.1).2.2
  have n6 := (cl_of hW.1.2.2.2.2.2.2.1).2.2
  have n7 := (cl_of hW.1.2.2.2.2.2.2.2.1).2.2
  obtain ⟨g0, g1, g2, g3, g4, g5⟩ := h
  refine ⟨⟨h6, (hL 6 (by decide) (by decide) (by decide)).trans ((g0.2.1).trans (F 1 (by omega)).symm), (hL 7 (by decide) (by decide) (by decide)).trans ((g0.2.2.1).trans (F 2 (by omega)).symm), (hL 8 (by decide) (by decide) (by decide)).trans ((g0.2.2.2.1).trans (F 3 (by omega)).symm), (hL 9 (by decide) (by decide) (by decide)).trans ((g0.2.2.2.2.1).trans (F 4 (by omega)).symm), (hL 10 (by decide) (by decide) (by decide)).trans ((g0.2.2.2.2.2).trans (F 5 (by omega)).symm)⟩, fun s hs => ?_, fun c hc k hk => ?_, fun i hi => ?_, fun m hm k hk => ?_, fun v hv => ?_⟩
  · by_cases e : s = x
    · subst e
      exact hrow
    · have hs := (hcn s hs).resolve_left e
      obtain ⟨x1, x2, x3⟩ := g1 s hs
      obtain ⟨e1, e2, e3⟩ := hν (L + (6 + 2 * s)) (by omega) (by omega) (by omega) (by omega) (by omega)
      refine ⟨?_, ?_, ?_⟩
      · rw [e1, F _ (by omega)]; exact x1
      · rw [e2, hp s (by omega) e]; exact x2
      · rw [e1, (hν (L + (6 + 2 * s) + 1) (by omega) (by omega) (by omega) (by omega) (by omega)).1]
        exact x3.cg (fun k hk => F _ (by omega))
  · rw [F 1 (by omega)] at hc
    rw [(hν (L + (22 + c)) (by omega) (by omega) (by omega) (by omega) (by omega)).1, F _ (by omega)]
    exact g2 c hc k hk
  · rw [F 2 (by omega)] at hi
    refine ⟨fun k hk => ?_, fun l hl => ?_⟩
    · rw [(hν (L + (62 + 2 * i)) (by omega) (by omega) (by omega) (by omega) (by omega)).1, F _ (by omega)]
      exact (g3 i hi).1 k hk
    · rw [(hν (L + (62 + 2 * i) + 1) (by omega) (by omega) (by omega) (by omega) (by omega)).1, F _ (by omega)]
      exact (g3 i hi).2 l hl
  · rw [F 3 (by omega)] at hm
    rw [(hν (L + (182 + m)) (by omega) (by omega) (by omega) (by omega) (by omega)).1, F _ (by omega)]
    exact g4 m hm k hk
  · rw [F 4 (by omega)] at hv
    obtain ⟨t, tb, tr⟩ := g5 v hv
    refine ⟨?_, fun b hb => ?_, fun r hr => ?_⟩
    · rw [(hν (L + (222 + 5 * v)) (by omega) (by omega) (by omega) (by omega) (by omega)).1, F 6 (by omega), F 7 (by omega), F 8 (by omega), F 9 (by omega), F 10 (by omega), F 11 (by omega), F _ (by omega), F _ (by omega)]
      exact t
    · rw [F 6 (by omega)] at hb
      rw [(hν (L + (222 + 5 * v) + 1) (by omega) (by omega) (by omega) (by omega) (by omega)).1, (hν (L + (222 + 5 * v) + 2) (by omega) (by omega) (by omega) (by omega) (by omega)).1, F _ (by omega), F _ (by omega)]
      exact tb b hb
    · rw [F 7 (by omega)] at hr
      rw [(hν (L + (222 + 5 * v) + 3) (by omega) (by omega) (by omega) (by omega) (by omega)).1, (hν (L + (222 + 5 * v) + 4) (by omega) (by omega) (by omega) (by omega) (by omega)).1, F _ (by omega), F _ (by omega)]
      exact tr r hr
theorem LdR.callc {ν ν' : Mm} {L : Nat} {f f' : Nat → Int32} {p : Nat → Int64} (h : LdR ν L f p) (hW : Wf f) {x : Nat} (hx : x < 40) (hν : ∀ off, L ≤ off → off < L + 327 → off ≠ L → off ≠ L + (22 + x) → Eq3 ν ν' off) (hL : ∀ k, 5 ≤ k → k < 11 → k ≠ 6 → ν'.1 L k = ν.1 L k) (h6 : ν'.1 L 6 = f' 1) (F : ∀ k, k < 1377 ∧ k ≠ 1 ∧ (k < 330 + 7 * x ∨ 330 + 7 * x + 7 ≤ k) → f' k = f k) (hcn : ∀ y, y < cl (f' 1) → y = x ∨ y < cl (f 1)) (hrow : ∀ k, k < 7 → ν'.1 (L + (22 + x)) k = f' (330 + 7 * x + k)) : LdR ν' L f' p := by
  have n0 := (cl_of hW.1.1).2.2
  have n1 := (cl_of hW.1.2.1).2.2
  have n2 := (cl_of hW.1.2.2.1).2.2
  have n3 := (cl_of hW.1.2.2.2.1).2.2
  have n4 := (cl_of hW.1.2.2.2.2.1).2.2
  have n6 := (cl_of hW.1.2.2.2.2.2.2.1).2.2
  have n7 := (cl_of hW.1.2.2.2.2.2.2.2.1).2.2
  obtain ⟨g0, g1, g2, g3, g4, g5⟩ := h
  refine ⟨⟨(hL 5 (by decide) (by decide) (by decide)).trans ((g0.1).trans (F 0 (by omega)).symm), h6, (hL 7 (by decide) (by decide) (by decide)).trans ((g0.2.2.1).trans (F 2 (by omega)).symm), (hL 8 (by decide) (by decide) (by decide)).trans ((g0.2.2.2.1).trans (F 3 (by omega)).symm), (hL 9 (by decide) (by decide) (by decide)).trans ((g0.2.2.2.2.1).trans (F 4 (by omega)).symm), (hL 10 (by decide) (by decide) (by decide)).trans ((g0.2.2.2.2.2).trans (F 5 (by omega)).symm)⟩, fun s hs => ?_, fun c hc k hk => ?_, fun i hi => ?_, fun m hm k hk => ?_, fun v hv => ?_⟩
  · rw [F 0 (by omega)] at hs
    obtain ⟨x1, x2, x3⟩ := g1 s hs
    obtain ⟨e1, e2, e3⟩ := hν (L + (6 + 2 * s)) (by omega) (by omega) (by omega) (by omega)
    refine ⟨?_, ?_, ?_⟩
    · rw [e1, F _ (by omega)]; exact x1
    · rw [e2]; exact x2
    · rw [e1, (hν (L + (6 + 2 * s) + 1) (by omega) (by omega) (by omega) (by omega)).1]
      exact x3.cg (fun k hk => F _ (by omega))
  · by_cases e : c = x
    · subst e
      exact hrow k hk
    · have hc := (hcn c hc).resolve_left e
      rw [(hν (L + (22 + c)) (by omega) (by omega) (by omega) (by omega)).1, F _ (by omega)]
      exact g2 c hc k hk
  · rw [F 2 (by omega)] at hi
    refine ⟨fun k hk => ?_, fun l hl => ?_⟩
    · rw [(hν (L + (62 + 2 * i)) (by omega) (by omega) (by omega) (by omega)).1, F _ (by omega)]
      exact (g3 i hi).1 k hk
    · rw [(hν (L + (62 + 2 * i) + 1) (by omega) (by omega) (by omega) (by omega)).1, F _ (by omega)]
      exact (g3 i hi).2 l hl
  · rw [F 3 (by omega)] at hm
    rw [(hν (L + (182 + m)) (by omega) (by omega) (by omega) (by omega)).1, F _ (by omega)]
    exact g4 m hm k hk
  · rw [F 4 (by omega)] at hv
    obtain ⟨t, tb, tr⟩ := g5 v hv
    refine ⟨?_, fun b hb => ?_, fun r hr => ?_⟩
    · rw [(hν (L + (222 + 5 * v)) (by omega) (by omega) (by omega) (by omega)).1, F 6 (by omega), F 7 (by omega), F 8 (by omega), F 9 (by omega), F 10 (by omega), F 11 (by omega), F _ (by omega), F _ (by omega)]
      exact t
    · rw [F 6 (by omega)] at hb
      rw [(hν (L + (222 + 5 * v) + 1) (by omega) (by omega) (by omega) (by omega)).1, (hν (L + (222 + 5 * v) + 2) (by omega) (by omega) (by omega) (by omega)).1, F _ (by omega), F _ (by omega)]
      exact tb b hb
    · rw [F 7 (by omega)] at hr
      rw [(hν (L + (222 + 5 * v) + 3) (by omega) (by omega) (by omega) (by omega)).1, (hν (L + (222 + 5 * v) + 4) (by omega) (by omega) (by omega) (by omega)).1, F _ (by omega), F _ (by omega)]
      exact tr r hr
theorem LdR.invc {ν ν' : Mm} {L : Nat} {f f' : Nat → Int32} {p : Nat → Int64} (h : LdR ν L f p) (hW : Wf f) {x : Nat} (hx : x < 60) (hν : ∀ off, L ≤ off → off < L + 327 → off ≠ L → off ≠ L + (62 + 2 * x) → off ≠ L + (62 + 2 * x) + 1 → Eq3 ν ν' off) (hL : ∀ k, 5 ≤ k → k < 11 → k ≠ 7 → ν'.1 L k = ν.1 L k) (h6 : ν'.1 L 7 = f' 2) (F : ∀ k, k < 1377 ∧ k ≠ 2 ∧ (k < 617 + 10 * x ∨ 617 + 10 * x + 10 ≤ k) → f' k = f k) (hcn : ∀ y, y < cl (f' 2) → y = x ∨ y < cl (f 2)) (hrow : x < cl (f' 2) → (∀ k, k < 6 → ν'.1 (L + (62 + 2 * x)) (k + 1) = f' (617 + 10 * x + k)) ∧ ∀ l, l < 4 → ν'.1 (L + (62 + 2 * x) + 1) l = f' (617 + 10 * x + (6 + l))) : LdR ν' L f' p := by
  have n0 := (cl_of hW.1.1).2.2
  have n1 := (cl_of hW.1.2.1).2.2
  have n2 := (cl_of hW.1.2.2.1).2.2
  have n3 := (cl_of hW.1.2.2.2.1).2.2
  have n4 := (cl_of hW.1.2.2.2.2.1).2.2
  have n6 := (cl_of hW.1.2.2.2.2.2.2.1).2.2
  have n7 := (cl_of hW.1.2.2.2.2.2.2.2.1).2.2
  obtain ⟨g0, g1, g2, g3, g4, g5⟩ := h
  refine ⟨⟨(hL 5 (by decide) (by decide) (by decide)).trans ((g0.1).trans (F 0 (by omega)).symm), (hL 6 (by decide) (by decide) (by decide)).trans ((g0.2.1).trans (F 1 (by omega)).symm), h6, (hL 8 (by decide) (by decide) (by decide)).trans ((g0.2.2.2.1).trans (F 3 (by omega)).symm), (hL 9 (by decide) (by decide) (by decide)).trans ((g0.2.2.2.2.1).trans (F 4 (by omega)).symm), (hL 10 (by decide) (by decide) (by decide)).trans ((g0.2.2.2.2.2).trans (F 5 (by omega)).symm)⟩, fun s hs => ?_, fun c hc k hk => ?_, fun i hi => ?_, fun m hm k hk => ?_, fun v hv => ?_⟩
  · rw [F 0 (by omega)] at hs
    obtain ⟨x1, x2, x3⟩ := g1 s hs
    obtain ⟨e1, e2, e3⟩ := hν (L + (6 + 2 * s)) (by omega) (by omega) (by omega) (by omega) (by omega)
    refine ⟨?_, ?_, ?_⟩
    · rw [e1, F _ (by omega)]; exact x1
    · rw [e2]; exact x2
    · rw [e1, (hν (L + (6 + 2 * s) + 1) (by omega) (by omega) (by omega) (by omega) (by omega)).1]
      exact x3.cg (fun k hk => F _ (by omega))
  · rw [F 1 (by omega)] at hc
    rw [(hν (L + (22 + c)) (by omega) (by omega) (by omega) (by omega) (by omega)).1, F _ (by omega)]
    exact g2 c hc k hk
  · by_cases e : i = x
    · subst e
      exact hrow hi
    · have hi := (hcn i hi).resolve_left e
      refine ⟨fun k hk => ?_, fun l hl => ?_⟩
      · rw [(hν (L + (62 + 2 * i)) (by omega) (by omega) (by omega) (by omega) (by omega)).1, F _ (by omega)]
        exact (g3 i hi).1 k hk
      · rw [(hν (L + (62 + 2 * i) + 1) (by omega) (by omega) (by omega) (by omega) (by omega)).1, F _ (by omega)]
        exact (g3 i hi).2 l hl
  · rw [F 3 (by omega)] at hm
    rw [(hν (L + (182 + m)) (by omega) (by omega) (by omega) (by omega) (by omega)).1, F _ (by omega)]
    exact g4 m hm k hk
  · rw [F 4 (by omega)] at hv
    obtain ⟨t, tb, tr⟩ := g5 v hv
    refine ⟨?_, fun b hb => ?_, fun r hr => ?_⟩
    · rw [(hν (L + (222 + 5 * v)) (by omega) (by omega) (by omega) (by omega) (by omega)).1, F 6 (by omega), F 7 (by omega), F 8 (by omega), F 9 (by omega), F 10 (by omega), F 11 (by omega), F _ (by omega), F _ (by omega)]
      exact t
    · rw [F 6 (by omega)] at hb
      rw [(hν (L + (222 + 5 * v) + 1) (by omega) (by omega) (by omega) (by omega) (by omega)).1, (hν (L + (222 + 5 * v) + 2) (by omega) (by omega) (by omega) (by omega) (by omega)).1, F _ (by omega), F _ (by omega)]
      exact tb b hb
    · rw [F 7 (by omega)] at hr
      rw [(hν (L + (222 + 5 * v) + 3) (by omega) (by omega) (by omega) (by omega) (by omega)).1, (hν (L + (222 + 5 * v) + 4) (by omega) (by omega) (by omega) (by omega) (by omega)).1, F _ (by omega), F _ (by omega)]
      exact tr r hr
theorem LdR.notec {ν ν' : Mm} {L : Nat} {f f' : Nat → Int32} {p : Nat → Int64} (h : LdR ν L f p) (hW : Wf f) {x : Nat} (hx : x < 40) (hν : ∀ off, L ≤ off → off < L + 327 → off ≠ L → off ≠ L + (182 + x) → Eq3 ν ν' off) (hL : ∀ k, 5 ≤ k → k < 11 → k ≠ 8 → ν'.1 L k = ν.1 L k) (h6 : ν'.1 L 8 = f' 3) (F : ∀ k, k < 1377 ∧ k ≠ 3 ∧ (k < 1217 + 4 * x ∨ 1217 + 4 * x + 4 ≤ k) → f' k = f k) (hcn : ∀ y, y < cl (f' 3) → y = x ∨ y < cl (f 3)) (hrow : ∀ k, k < 4 → ν'.1 (L + (182 + x)) k = f' (1217 + 4 * x + k)) : LdR ν' L f' p := by
  have n0 := (cl_of hW.1.1).2.2
  have n1 := (cl_of hW.1.2.1).2.2
  have n2 := (cl_of hW.1.2.2.1).2.2
  have n3 := (cl_of hW.1.2.2.2.1).2.2
  have n4 := (cl_of hW.1.2.2.2.2.1).2.2
  have n6 := (cl_of hW.1.2.2.2.2.2.2.1).2.2
  have n7 := (cl_of hW.1.2.2.2.2.2.2.2.1).2.2
  obtain ⟨g0, g1, g2, g3, g4, g5⟩ := h
  refine ⟨⟨(hL 5 (by decide) (by decide) (by decide)).trans ((g0.1).trans (F 0 (by omega)).symm), (hL 6 (by decide) (by decide) (by decide)).trans ((g0.2.1).trans (F 1 (by omega)).symm), (hL 7 (by decide) (by decide) (by decide)).trans ((g0.2.2.1).trans (F 2 (by omega)).symm), h6, (hL 9 (by decide) (by decide) (by decide)).trans ((g0.2.2.2.2.1).trans (F 4 (by omega)).symm), (hL 10 (by decide) (by decide) (by decide)).trans ((g0.2.2.2.2.2).trans (F 5 (by omega)).symm)⟩, fun s hs => ?_, fun c hc k hk => ?_, fun i hi => ?_, fun m hm k hk => ?_, fun v hv => ?_⟩
  · rw [F 0 (by omega)] at hs
    obtain ⟨x1, x2, x3⟩ := g1 s hs
    obtain ⟨e1, e2, e3⟩ := hν (L + (6 + 2 * s)) (by omega) (by omega) (by omega) (by omega)
    refine ⟨?_, ?_, ?_⟩
    · rw [e1, F _ (by omega)]; exact x1
    · rw [e2]; exact x2
    · rw [e1, (hν (L + (6 + 2 * s) + 1) (by omega) (by omega) (by omega) (by omega)).1]
      exact x3.cg (fun k hk => F _ (by omega))
  · rw [F 1 (by omega)] at hc
    rw [(hν (L + (22 + c)) (by omega) (by omega) (by omega) (by omega)).1, F _ (by omega)]
    exact g2 c hc k hk
  · rw [F 2 (by omega)] at hi
    refine ⟨fun k hk => ?_, fun l hl => ?_⟩
    · rw [(hν (L + (62 + 2 * i)) (by omega) (by omega) (by omega) (by omega)).1, F _ (by omega)]
      exact (g3 i hi).1 k hk
    · rw [(hν (L + (62 + 2 * i) + 1) (by omega) (by omega) (by omega) (by omega)).1, F _ (by omega)]
      exact (g3 i hi).2 l hl
  · by_cases e : m = x
    · subst e
      exact hrow k hk
    · have hm := (hcn m hm).resolve_left e
      rw [(hν (L + (182 + m)) (by omega) (by omega) (by omega) (by omega)).1, F _ (by omega)]
      exact g4 m hm k hk
  · rw [F 4 (by omega)] at hv
    obtain ⟨t, tb, tr⟩ := g5 v hv
    refine ⟨?_, fun b hb => ?_, fun r hr => ?_⟩
    · rw [(hν (L + (222 + 5 * v)) (by omega) (by omega) (by omega) (by omega)).1, F 6 (by omega), F 7 (by omega), F 8 (by omega), F 9 (by omega), F 10 (by omega), F 11 (by omega), F _ (by omega), F _ (by omega)]
      exact t
    · rw [F 6 (by omega)] at hb
      rw [(hν (L + (222 + 5 * v) + 1) (by omega) (by omega) (by omega) (by omega)).1, (hν (L + (222 + 5 * v) + 2) (by omega) (by omega) (by omega) (by omega)).1, F _ (by omega), F _ (by omega)]
      exact tb b hb
    · rw [F 7 (by omega)] at hr
      rw [(hν (L + (222 + 5 * v) + 3) (by omega) (by omega) (by omega) (by omega)).1, (hν (L + (222 + 5 * v) + 4) (by omega) (by omega) (by omega) (by omega)).1, F _ (by omega), F _ (by omega)]
      exact tr r hr
theorem LdR.verc {ν ν' : Mm} {L : Nat} {f f' : Nat → Int32} {p : Nat → Int64} (h : LdR ν L f p) (hW : Wf f) {x : Nat} (hx : x < 21) (hν : ∀ off, L ≤ off → off < L + 327 → off ≠ L → off ≠ L + (222 + 5 * x) → off ≠ L + (222 + 5 * x) + 1 → off ≠ L + (222 + 5 * x) + 2 → off ≠ L + (222 + 5 * x) + 3 → off ≠ L + (222 + 5 * x) + 4 → Eq3 ν ν' off) (hL : ∀ k, 5 ≤ k → k < 11 → k ≠ 9 → ν'.1 L k = ν.1 L k) (h6 : ν'.1 L 9 = f' 4) (F : ∀ k, k < 1377 ∧ k ≠ 4 ∧ (k < 22 + 12 * x ∨ 22 + 12 * x + 12 ≤ k) → f' k = f k) (hcn : ∀ y, y ≤ cl (f' 4) → y = x ∨ y ≤ cl (f 4)) (hrow : TaR ν' (L + (222 + 5 * x)) f' x) : LdR ν' L f' p := by
  have n0 := (cl_of hW.1.1).2.2
  have n1 := (cl_of hW.1.2.1).2.2
  have n2 := (cl_of hW.1.2.2.1).2.2
  have n3 := (cl_of hW.1.2.2.2.1).2.2
  have n4 := (cl_of hW.1.2.2.2.2.1).2.2
  have n6 := (cl_of hW.1.2.2.2.2.2.2.1).2.2
  have n7 := (cl_of hW.1.2.2.2.2.2.2.2.1).2.2
  obtain ⟨g0, g1, g2, g3, g4, g5⟩ := h
  refine ⟨⟨(hL 5 (by decide) (by decide) (by decide)).trans ((g0.1).trans (F 0 (by omega)).symm), (hL 6 (by decide) (by decide) (by decide)).trans ((g0.2.1).trans (F 1 (by omega)).symm), (hL 7 (by decide) (by decide) (by decide)).trans ((g0.2.2.1).trans (F 2 (by omega)).symm), (hL 8 (by decide) (by decide) (by decide)).trans ((g0.2.2.2.1).trans (F 3 (by omega)).symm), h6, (hL 10 (by decide) (by decide) (by decide)).trans ((g0.2.2.2.2.2).trans (F 5 (by omega)).symm)⟩, fun s hs => ?_, fun c hc k hk => ?_, fun i hi => ?_, fun m hm k hk => ?_, fun v hv => ?_⟩
  · rw [F 0 (by omega)] at hs
    obtain ⟨x1, x2, x3⟩ := g1 s hs
    obtain ⟨e1, e2, e3⟩ := hν (L + (6 + 2 * s)) (by omega) (by omega) (by omega) (by omega) (by omega) (by omega) (by omega) (by omega)
    refine ⟨?_, ?_, ?_⟩
    · rw [e1, F _ (by omega)]; exact x1
    · rw [e2]; exact x2
    · rw [e1, (hν (L + (6 + 2 * s) + 1) (by omega) (by omega) (by omega) (by omega) (by omega) (by omega) (by omega) (by omega)).1]
      exact x3.cg (fun k hk => F _ (by omega))
  · rw [F 1 (by omega)] at hc
    rw [(hν (L + (22 + c)) (by omega) (by omega) (by omega) (by omega) (by omega) (by omega) (by omega) (by omega)).1, F _ (by omega)]
    exact g2 c hc k hk
  · rw [F 2 (by omega)] at hi
    refine ⟨fun k hk => ?_, fun l hl => ?_⟩
    · rw [(hν (L + (62 + 2 * i)) (by omega) (by omega) (by omega) (by omega) (by omega) (by omega) (by omega) (by omega)).1, F _ (by omega)]
      exact (g3 i hi).1 k hk
    · rw [(hν (L + (62 + 2 * i) + 1) (by omega) (by omega) (by omega) (by omega) (by omega) (by omega) (by omega) (by omega)).1, F _ (by omega)]
      exact (g3 i hi).2 l hl
  · rw [F 3 (by omega)] at hm
    rw [(hν (L + (182 + m)) (by omega) (by omega) (by omega) (by omega) (by omega) (by omega) (by omega) (by omega)).1, F _ (by omega)]
    exact g4 m hm k hk
  · by_cases e : v = x
    · subst e
      exact hrow
    · have hv := (hcn v hv).resolve_left e
      obtain ⟨t, tb, tr⟩ := g5 v hv
      refine ⟨?_, fun b hb => ?_, fun r hr => ?_⟩
      · rw [(hν (L + (222 + 5 * v)) (by omega) (by omega) (by omega) (by omega) (by omega) (by omega) (by omega) (by omega)).1, F 6 (by omega), F 7 (by omega), F 8 (by omega), F 9 (by omega), F 10 (by omega), F 11 (by omega), F _ (by omega), F _ (by omega)]
        exact t
      · rw [F 6 (by omega)] at hb
        rw [(hν (L + (222 + 5 * v) + 1) (by omega) (by omega) (by omega) (by omega) (by omega) (by omega) (by omega) (by omega)).1, (hν (L + (222 + 5 * v) + 2) (by omega) (by omega) (by omega) (by omega) (by omega) (by omega) (by omega) (by omega)).1, F _ (by omega), F _ (by omega)]
        exact tb b hb
      · rw [F 7 (by omega)] at hr
        rw [(hν (L + (222 + 5 * v) + 3) (by omega) (by omega) (by omega) (by omega) (by omega) (by omega) (by omega) (by omega)).1, (hν (L + (222 + 5 * v) + 4) (by omega) (by omega) (by omega) (by omega) (by omega) (by omega) (by omega) (by omega)).1, F _ (by omega), F _ (by omega)]
        exact tr r hr
theorem LdR.dayc {ν ν' : Mm} {L : Nat} {f f' : Nat → Int32} {p : Nat → Int64} (h : LdR ν L f p) (hW : Wf f) (hν : ∀ off, L ≤ off → off < L + 327 → off ≠ L → Eq3 ν ν' off) (hL : ∀ k, 5 ≤ k → k < 11 → k ≠ 10 → ν'.1 L k = ν.1 L k) (h6 : ν'.1 L 10 = f' 5) (F : ∀ k, k < 1377 ∧ k ≠ 5 → f' k = f k)  : LdR ν' L f' p := by
  have n0 := (cl_of hW.1.1).2.2
  have n1 := (cl_of hW.1.2.1).2.2
  have n2 := (cl_of hW.1.2.2.1).2.2
  have n3 := (cl_of hW.1.2.2.2.1).2.2
  have n4 := (cl_of hW.1.2.2.2.2.1).2.2
  have n6 := (cl_of hW.1.2.2.2.2.2.2.1).2.2
  have n7 := (cl_of hW.1.2.2.2.2.2.2.2.1).2.2
  obtain ⟨g0, g1, g2, g3, g4, g5⟩ := h
  refine ⟨⟨(hL 5 (by decide) (by decide) (by decide)).trans ((g0.1).trans (F 0 (by omega)).symm), (hL 6 (by decide) (by decide) (by decide)).trans ((g0.2.1).trans (F 1 (by omega)).symm), (hL 7 (by decide) (by decide) (by decide)).trans ((g0.2.2.1).trans (F 2 (by omega)).symm), (hL 8 (by decide) (by decide) (by decide)).trans ((g0.2.2.2.1).trans (F 3 (by omega)).symm), (hL 9 (by decide) (by decide) (by decide)).trans ((g0.2.2.2.2.1).trans (F 4 (by omega)).symm), h6⟩, fun s hs => ?_, fun c hc k hk => ?_, fun i hi => ?_, fun m hm k hk => ?_, fun v hv => ?_⟩
  · rw [F 0 (by omega)] at hs
    obtain ⟨x1, x2, x3⟩ := g1 s hs
    obtain ⟨e1, e2, e3⟩ := hν (L + (6 + 2 * s)) (by omega) (by omega) (by omega)
    refine ⟨?_, ?_, ?_⟩
    · rw [e1, F _ (by omega)]; exact x1
    · rw [e2]; exact x2
    · rw [e1, (hν (L + (6 + 2 * s) + 1) (by omega) (by omega) (by omega)).1]
      exact x3.cg (fun k hk => F _ (by omega))
  · rw [F 1 (by omega)] at hc
    rw [(hν (L + (22 + c)) (by omega) (by omega) (by omega)).1, F _ (by omega)]
    exact g2 c hc k hk
  · rw [F 2 (by omega)] at hi
    refine ⟨fun k hk => ?_, fun l hl => ?_⟩
    · rw [(hν (L + (62 + 2 * i)) (by omega) (by omega) (by omega)).1, F _ (by omega)]
      exact (g3 i hi).1 k hk
    · rw [(hν (L + (62 + 2 * i) + 1) (by omega) (by omega) (by omega)).1, F _ (by omega)]
      exact (g3 i hi).2 l hl
  · rw [F 3 (by omega)] at hm
    rw [(hν (L + (182 + m)) (by omega) (by omega) (by omega)).1, F _ (by omega)]
    exact g4 m hm k hk
  · rw [F 4 (by omega)] at hv
    obtain ⟨t, tb, tr⟩ := g5 v hv
    refine ⟨?_, fun b hb => ?_, fun r hr => ?_⟩
    · rw [(hν (L + (222 + 5 * v)) (by omega) (by omega) (by omega)).1, F 6 (by omega), F 7 (by omega), F 8 (by omega), F 9 (by omega), F 10 (by omega), F 11 (by omega), F _ (by omega), F _ (by omega)]
      exact t
    · rw [F 6 (by omega)] at hb
      rw [(hν (L + (222 + 5 * v) + 1) (by omega) (by omega) (by omega)).1, (hν (L + (222 + 5 * v) + 2) (by omega) (by omega) (by omega)).1, F _ (by omega), F _ (by omega)]
      exact tb b hb
    · rw [F 7 (by omega)] at hr
      rw [(hν (L + (222 + 5 * v) + 3) (by omega) (by omega) (by omega)).1, (hν (L + (222 + 5 * v) + 4) (by omega) (by omega) (by omega)).1, F _ (by omega), F _ (by omega)]
      exact tr r hr
theorem LdR.tarc {ν ν' : Mm} {L : Nat} {f f' : Nat → Int32} {p : Nat → Int64} (h : LdR ν L f p) (hW : Wf f) (hν : ∀ off, L ≤ off → off < L + 327 → off ≠ L → off ≠ L + 222 → off ≠ L + 223 → off ≠ L + 224 → off ≠ L + 225 → off ≠ L + 226 → Eq3 ν ν' off) (hL : ∀ k, 5 ≤ k → k < 11 → ν'.1 L k = ν.1 L k) (F : ∀ k, k < 1377 ∧ (k < 6 ∨ 6 + 28 ≤ k) → f' k = f k) (h4 : cl (f 4) = 0) (hrow : TaR ν' (L + (222 + 5 * 0)) f' 0) : LdR ν' L f' p := by
  have n0 := (cl_of hW.1.1).2.2
  have n1 := (cl_of hW.1.2.1).2.2
  have n2 := (cl_of hW.1.2.2.1).2.2
  have n3 := (cl_of hW.1.2.2.2.1).2.2
  have n4 := (cl_of hW.1.2.2.2.2.1).2.2
  have n6 := (cl_of hW.1.2.2.2.2.2.2.1).2.2
  have n7 := (cl_of hW.1.2.2.2.2.2.2.2.1).2.2
  obtain ⟨g0, g1, g2, g3, g4, g5⟩ := h
  refine ⟨⟨(hL 5 (by decide) (by decide)).trans ((g0.1).trans (F 0 (by omega)).symm), (hL 6 (by decide) (by decide)).trans ((g0.2.1).trans (F 1 (by omega)).symm), (hL 7 (by decide) (by decide)).trans ((g0.2.2.1).trans (F 2 (by omega)).symm), (hL 8 (by decide) (by decide)).trans ((g0.2.2.2.1).trans (F 3 (by omega)).symm), (hL 9 (by decide) (by decide)).trans ((g0.2.2.2.2.1).trans (F 4 (by omega)).symm), (hL 10 (by decide) (by decide)).trans ((g0.2.2.2.2.2).trans (F 5 (by omega)).symm)⟩, fun s hs => ?_, fun c hc k hk => ?_, fun i hi => ?_, fun m hm k hk => ?_, fun v hv => ?_⟩
  · rw [F 0 (by omega)] at hs
    obtain ⟨x1, x2, x3⟩ := g1 s hs
    obtain ⟨e1, e2, e3⟩ := hν (L + (6 + 2 * s)) (by omega) (by omega) (by omega) (by omega) (by omega) (by omega) (by omega) (by omega)
    refine ⟨?_, ?_, ?_⟩
    · rw [e1, F _ (by omega)]; exact x1
    · rw [e2]; exact x2
    · rw [e1, (hν (L + (6 + 2 * s) + 1) (by omega) (by omega) (by omega) (by omega) (by omega) (by omega) (by omega) (by omega)).1]
      exact x3.cg (fun k hk => F _ (by omega))
  · rw [F 1 (by omega)] at hc
    rw [(hν (L + (22 + c)) (by omega) (by omega) (by omega) (by omega) (by omega) (by omega) (by omega) (by omega)).1, F _ (by omega)]
    exact g2 c hc k hk
  · rw [F 2 (by omega)] at hi
    refine ⟨fun k hk => ?_, fun l hl => ?_⟩
    · rw [(hν (L + (62 + 2 * i)) (by omega) (by omega) (by omega) (by omega) (by omega) (by omega) (by omega) (by omega)).1, F _ (by omega)]
      exact (g3 i hi).1 k hk
    · rw [(hν (L + (62 + 2 * i) + 1) (by omega) (by omega) (by omega) (by omega) (by omega) (by omega) (by omega) (by omega)).1, F _ (by omega)]
      exact (g3 i hi).2 l hl
  · rw [F 3 (by omega)] at hm
    rw [(hν (L + (182 + m)) (by omega) (by omega) (by omega) (by omega) (by omega) (by omega) (by omega) (by omega)).1, F _ (by omega)]
    exact g4 m hm k hk
  · rw [F 4 (by omega)] at hv
    have e : v = 0 := by omega
    subst e
    exact hrow
theorem Wf.shipc {f f' : Nat → Int32} (hW : Wf f) {x : Nat} (hx : x < 8) (F : ∀ k, k < 1377 ∧ k ≠ 0 ∧ (k < 274 + 7 * x ∨ 274 + 7 * x + 7 ≤ k) → f' k = f k) (hct : rg (f' 0) 0 8) (hge : (f 0).toInt ≤ (f' 0).toInt) (hrow : rg (f' (274 + 7 * x)) 0 9999) : Wf f' := by
  have n0 := (cl_of hW.1.1).2.2
  have n1 := (cl_of hW.1.2.1).2.2
  have n2 := (cl_of hW.1.2.2.1).2.2
  have n3 := (cl_of hW.1.2.2.2.1).2.2
  have n4 := (cl_of hW.1.2.2.2.2.1).2.2
  have n6 := (cl_of hW.1.2.2.2.2.2.2.1).2.2
  have n7 := (cl_of hW.1.2.2.2.2.2.2.2.1).2.2
  obtain ⟨w0, w1, w2, w3, w4, w5, w6, w7, w8, w9, w10, w11, w12⟩ := hW
  refine ⟨?_, fun b hb => ?_, fun hb => ?_, fun b hb => ?_, fun r hr => ?_, fun r hr => ?_, fun r hr => ?_, fun v hv => ?_, fun s hs => ?_, fun c hc => ?_, fun c hc => ?_, fun i hi => ?_, fun i hi => ?_⟩
  · rw [F 1 (by omega), F 2 (by omega), F 3 (by omega), F 4 (by omega), F 5 (by omega), F 6 (by omega), F 7 (by omega), F 8 (by omega), F 9 (by omega), F 10 (by omega), F 11 (by omega)]
    exact ⟨hct, w0.2.1, w0.2.2.1, w0.2.2.2.1, w0.2.2.2.2.1, w0.2.2.2.2.2.1, w0.2.2.2.2.2.2.1, w0.2.2.2.2.2.2.2.1, w0.2.2.2.2.2.2.2.2.1, w0.2.2.2.2.2.2.2.2.2.1, w0.2.2.2.2.2.2.2.2.2.2.1, w0.2.2.2.2.2.2.2.2.2.2.2⟩
  · rw [F _ (by omega)]; exact w1 b hb
  · rw [F 6 (by omega)] at hb
    rw [F _ (by omega)]; exact w2 hb
  · rw [F 6 (by omega)] at hb
    rw [F _ (by omega), F _ (by omega)]; exact w3 b hb
  · rw [F _ (by omega)]; exact w4 r hr
  · rw [F 7 (by omega)] at hr
    rw [F _ (by omega), F _ (by omega)]; exact w5 r hr
  · rw [F 7 (by omega)] at hr
    rw [F _ (by omega)]; exact w6 r hr
  · refine ⟨fun b hb => ?_, fun r hr => ?_, ?_, ?_⟩
    · rw [F _ (by omega)]; exact (w7 v hv).1 b hb
    · rw [F _ (by omega)]; exact (w7 v hv).2.1 r hr
    · rw [F _ (by omega)]; exact (w7 v hv).2.2.1
    · rw [F _ (by omega)]; exact (w7 v hv).2.2.2
  · by_cases e : s = x
    · subst e
      exact hrow
    · rw [F _ (by omega)]; exact w8 s hs
  · rw [F _ (by omega), F _ (by omega), F _ (by omega), F _ (by omega), F _ (by omega), F _ (by omega), F _ (by omega)]
    exact w9 c hc
  · rw [F 1 (by omega)] at hc
    rw [F _ (by omega)]
    exact Int.lt_of_lt_of_le (w10 c hc) hge
  · obtain ⟨y0, y1, y2, y3, y4, y5, y6, y7⟩ := w11 i hi
    rw [F _ (by omega), F _ (by omega), F _ (by omega), F _ (by omega), F _ (by omega), F _ (by omega)]
    exact ⟨y0, y1, y2, y3, y4, y5, fun l hl => by rw [F _ (by omega)]; exact y6 l hl, y7⟩
  · rw [F 2 (by omega)] at hi
    rw [F (617 + 10 * i) (by omega), F (617 + 10 * i + 2) (by omega), F 1 (by omega), F 4 (by omega)]
    exact w12 i hi
theorem Wf.callc {f f' : Nat → Int32} (hW : Wf f) {x : Nat} (hx : x < 40) (F : ∀ k, k < 1377 ∧ k ≠ 1 ∧ (k < 330 + 7 * x ∨ 330 + 7 * x + 7 ≤ k) → f' k = f k) (hcn : ∀ y, y < cl (f' 1) → y = x ∨ y < cl (f 1)) (hct : rg (f' 1) 0 40) (hge : (f 1).toInt ≤ (f' 1).toInt) (hrow : rg (f' (330 + 7 * x)) 0 7 ∧ rg (f' (330 + 7 * x + 1)) 0 3599 ∧ (0 ≤ (f' (330 + 7 * x + 2)).toInt ∧ (f' (330 + 7 * x + 1)).toInt ≤ (f' (330 + 7 * x + 2)).toInt + 0 ∧ (f' (330 + 7 * x + 2)).toInt ≤ (f' (330 + 7 * x + 1)).toInt + 29) ∧ rg (f' (330 + 7 * x + 3)) 0 999 ∧ rg (f' (330 + 7 * x + 4)) 0 1 ∧ rg (f' (330 + 7 * x + 5)) 0 1073741823 ∧ rg (f' (330 + 7 * x + 6)) 0 1073741823 ∧ f' (330 + 7 * x + 5) &&& f' (330 + 7 * x + 6) = 0) (hsh : (f' (330 + 7 * x)).toInt < (f 0).toInt) : Wf f' := by
  have n0 := (cl_of hW.1.1).2.2
  have n1 := (cl_of hW.1.2.1).2.2
  have n2 := (cl_of hW.1.2.2.1).2.2
  have n3 := (cl_of hW.1.2.2.2.1).2.2
  have n4 := (cl_of hW.1.2.2.2.2.1).2.2
  have n6 := (cl_of hW.1.2.2.2.2.2.2.1).2.2
  have n7 := (cl_of hW.1.2.2.2.2.2.2.2.1).2.2
  obtain ⟨w0, w1, w2, w3, w4, w5, w6, w7, w8, w9, w10, w11, w12⟩ := hW
  refine ⟨?_, fun b hb => ?_, fun hb => ?_, fun b hb => ?_, fun r hr => ?_, fun r hr => ?_, fun r hr => ?_, fun v hv => ?_, fun s hs => ?_, fun c hc => ?_, fun c hc => ?_, fun i hi => ?_, fun i hi => ?_⟩
  · rw [F 0 (by omega), F 2 (by omega), F 3 (by omega), F 4 (by omega), F 5 (by omega), F 6 (by omega), F 7 (by omega), F 8 (by omega), F 9 (by omega), F 10 (by omega), F 11 (by omega)]
    exact ⟨w0.1, hct, w0.2.2.1, w0.2.2.2.1, w0.2.2.2.2.1, w0.2.2.2.2.2.1, w0.2.2.2.2.2.2.1, w0.2.2.2.2.2.2.2.1, w0.2.2.2.2.2.2.2.2.1, w0.2.2.2.2.2.2.2.2.2.1, w0.2.2.2.2.2.2.2.2.2.2.1, w0.2.2.2.2.2.2.2.2.2.2.2⟩
  · rw [F _ (by omega)]; exact w1 b hb
  · rw [F 6 (by omega)] at hb
    rw [F _ (by omega)]; exact w2 hb
  · rw [F 6 (by omega)] at hb
    rw [F _ (by omega), F _ (by omega)]; exact w3 b hb
  · rw [F _ (by omega)]; exact w4 r hr
  · rw [F 7 (by omega)] at hr
    rw [F _ (by omega), F _ (by omega)]; exact w5 r hr
  · rw [F 7 (by omega)] at hr
    rw [F _ (by omega)]; exact w6 r hr
  · refine ⟨fun b hb => ?_, fun r hr => ?_, ?_, ?_⟩
    · rw [F _ (by omega)]; exact (w7 v hv).1 b hb
    · rw [F _ (by omega)]; exact (w7 v hv).2.1 r hr
    · rw [F _ (by omega)]; exact (w7 v hv).2.2.1
    · rw [F _ (by omega)]; exact (w7 v hv).2.2.2
  · rw [F _ (by omega)]; exact w8 s hs
  · by_cases e : c = x
    · subst e
      exact hrow
    · rw [F _ (by omega), F _ (by omega), F _ (by omega), F _ (by omega), F _ (by omega), F _ (by omega), F _ (by omega)]
      exact w9 c hc
  · rw [F 0 (by omega)]
    by_cases e : c = x
    · subst e
      exact hsh
    · have hc2 : c < cl (f 1) := (hcn c hc).resolve_left e
      rw [F _ (by omega)]
      exact w10 c hc2
  · obtain ⟨y0, y1, y2, y3, y4, y5, y6, y7⟩ := w11 i hi
    rw [F _ (by omega), F _ (by omega), F _ (by omega), F _ (by omega), F _ (by omega), F _ (by omega)]
    exact ⟨y0, y1, y2, y3, y4, y5, fun l hl => by rw [F _ (by omega)]; exact y6 l hl, y7⟩
  · rw [F 2 (by omega)] at hi
    rw [F (617 + 10 * i) (by omega), F (617 + 10 * i + 2) (by omega), F 4 (by omega)]
    exact ⟨Int.lt_of_lt_of_le (w12 i hi).1 hge, (w12 i hi).2⟩
theorem Wf.invc {f f' : Nat → Int32} (hW : Wf f) {x : Nat} (hx : x < 60) (F : ∀ k, k < 1377 ∧ k ≠ 2 ∧ (k < 617 + 10 * x ∨ 617 + 10 * x + 10 ≤ k) → f' k = f k) (hcn : ∀ y, y < cl (f' 2) → y = x ∨ y < cl (f 2)) (hct : rg (f' 2) 0 60) (hrow : rg (f' (617 + 10 * x)) 0 40 ∧ rg (f' (617 + 10 * x + 1)) 0 99999 ∧ rg (f' (617 + 10 * x + 2)) 0 20 ∧ rg (f' (617 + 10 * x + 3)) 0 15 ∧ rg (f' (617 + 10 * x + 4)) 0 15 ∧ rg (f' (617 + 10 * x + 5)) 0 1073741823 ∧ (∀ l, l < 4 → rg (f' (617 + 10 * x + (6 + l))) (-16777216) 16777216) ∧ (¬ f' (617 + 10 * x + 5) = 0 → f_X12_has (f' (617 + 10 * x + 3)) (3 : Int32) = true)) (hsh : x < cl (f' 2) → (f' (617 + 10 * x)).toInt < (f 1).toInt ∧ (f' (617 + 10 * x + 2)).toInt ≤ (f 4).toInt) : Wf f' := by
  have n0 := (cl_of hW.1.1).2.2
  have n1 := (cl_of hW.1.2.1).2.2
  have n2 := (cl_of hW.1.2.2.1).2.2
  have n3 := (cl_of hW.1.2.2.2.1).2.2
  have n4 := (cl_of hW.1.2.2.2.2.1).2.2
  have n6 := (cl_of hW.1.2.2.2.2.2.2.1).2.2
  have n7 := (cl_of hW.1.2.2.2.2.2.2.2.1).2.2
  obtain ⟨w0, w1, w2, w3, w4, w5, w6, w7, w8, w9, w10, w11, w12⟩ := hW
  refine ⟨?_, fun b hb => ?_, fun hb => ?_, fun b hb => ?_, fun r hr => ?_, fun r hr => ?_, fun r hr => ?_, fun v hv => ?_, fun s hs => ?_, fun c hc => ?_, fun c hc => ?_, fun i hi => ?_, fun i hi => ?_⟩
  · rw [F 0 (by omega), F 1 (by omega), F 3 (by omega), F 4 (by omega), F 5 (by omega), F 6 (by omega), F 7 (by omega), F 8 (by omega), F 9 (by omega), F 10 (by omega), F 11 (by omega)]
    exact ⟨w0.1, w0.2.1, hct, w0.2.2.2.1, w0.2.2.2.2.1, w0.2.2.2.2.2.1, w0.2.2.2.2.2.2.1, w0.2.2.2.2.2.2.2.1, w0.2.2.2.2.2.2.2.2.1, w0.2.2.2.2.2.2.2.2.2.1, w0.2.2.2.2.2.2.2.2.2.2.1, w0.2.2.2.2.2.2.2.2.2.2.2⟩
  · rw [F _ (by omega)]; exact w1 b hb
  · rw [F 6 (by omega)] at hb
    rw [F _ (by omega)]; exact w2 hb
  · rw [F 6 (by omega)] at hb
    rw [F _ (by omega), F _ (by omega)]; exact w3 b hb
  · rw [F _ (by omega)]; exact w4 r hr
  · rw [F 7 (by omega)] at hr
    rw [F _ (by omega), F _ (by omega)]; exact w5 r hr
  · rw [F 7 (by omega)] at hr
    rw [F _ (by omega)]; exact w6 r hr
  · refine ⟨fun b hb => ?_, fun r hr => ?_, ?_, ?_⟩
    · rw [F _ (by omega)]; exact (w7 v hv).1 b hb
    · rw [F _ (by omega)]; exact (w7 v hv).2.1 r hr
    · rw [F _ (by omega)]; exact (w7 v hv).2.2.1
    · rw [F _ (by omega)]; exact (w7 v hv).2.2.2
  · rw [F _ (by omega)]; exact w8 s hs
  · rw [F _ (by omega), F _ (by omega), F _ (by omega), F _ (by omega), F _ (by omega), F _ (by omega), F _ (by omega)]
    exact w9 c hc
  · rw [F 1 (by omega)] at hc
    rw [F _ (by omega), F 0 (by omega)]
    exact w10 c hc
  · by_cases e : i = x
    · subst e
      exact hrow
    · obtain ⟨y0, y1, y2, y3, y4, y5, y6, y7⟩ := w11 i hi
      rw [F _ (by omega), F _ (by omega), F _ (by omega), F _ (by omega), F _ (by omega), F _ (by omega)]
      exact ⟨y0, y1, y2, y3, y4, y5, fun l hl => by rw [F _ (by omega)]; exact y6 l hl, y7⟩
  · rw [F 1 (by omega), F 4 (by omega)]
    by_cases e : i = x
    · subst e
      exact hsh hi
    · have hi2 : i < cl (f 2) := (hcn i hi).resolve_left e
      rw [F _ (by omega), F _ (by omega)]
      exact w12 i hi2
theorem Wf.notec {f f' : Nat → Int32} (hW : Wf f) {x : Nat} (hx : x < 40) (F : ∀ k, k < 1377 ∧ k ≠ 3 ∧ (k < 1217 + 4 * x ∨ 1217 + 4 * x + 4 ≤ k) → f' k = f k) (hct : rg (f' 3) 0 40) : Wf f' := by
  have n0 := (cl_of hW.1.1).2.2
  have n1 := (cl_of hW.1.2.1).2.2
  have n2 := (cl_of hW.1.2.2.1).2.2
  have n3 := (cl_of hW.1.2.2.2.1).2.2
  have n4 := (cl_of hW.1.2.2.2.2.1).2.2
  have n6 := (cl_of hW.1.2.2.2.2.2.2.1).2.2
  have n7 := (cl_of hW.1.2.2.2.2.2.2.2.1).2.2
  obtain ⟨w0, w1, w2, w3, w4, w5, w6, w7, w8, w9, w10, w11, w12⟩ := hW
  refine ⟨?_, fun b hb => ?_, fun hb => ?_, fun b hb => ?_, fun r hr => ?_, fun r hr => ?_, fun r hr => ?_, fun v hv => ?_, fun s hs => ?_, fun c hc => ?_, fun c hc => ?_, fun i hi => ?_, fun i hi => ?_⟩
  · rw [F 0 (by omega), F 1 (by omega), F 2 (by omega), F 4 (by omega), F 5 (by omega), F 6 (by omega), F 7 (by omega), F 8 (by omega), F 9 (by omega), F 10 (by omega), F 11 (by omega)]
    exact ⟨w0.1, w0.2.1, w0.2.2.1, hct, w0.2.2.2.2.1, w0.2.2.2.2.2.1, w0.2.2.2.2.2.2.1, w0.2.2.2.2.2.2.2.1, w0.2.2.2.2.2.2.2.2.1, w0.2.2.2.2.2.2.2.2.2.1, w0.2.2.2.2.2.2.2.2.2.2.1, w0.2.2.2.2.2.2.2.2.2.2.2⟩
  · rw [F _ (by omega)]; exact w1 b hb
  · rw [F 6 (by omega)] at hb
    rw [F _ (by omega)]; exact w2 hb
  · rw [F 6 (by omega)] at hb
    rw [F _ (by omega), F _ (by omega)]; exact w3 b hb
  · rw [F _ (by omega)]; exact w4 r hr
  · rw [F 7 (by omega)] at hr
    rw [F _ (by omega), F _ (by omega)]; exact w5 r hr
  · rw [F 7 (by omega)] at hr
    rw [F _ (by omega)]; exact w6 r hr
  · refine ⟨fun b hb => ?_, fun r hr => ?_, ?_, ?_⟩
    · rw [F _ (by omega)]; exact (w7 v hv).1 b hb
    · rw [F _ (by omega)]; exact (w7 v hv).2.1 r hr
    · rw [F _ (by omega)]; exact (w7 v hv).2.2.1
    · rw [F _ (by omega)]; exact (w7 v hv).2.2.2
  · rw [F _ (by omega)]; exact w8 s hs
  · rw [F _ (by omega), F _ (by omega), F _ (by omega), F _ (by omega), F _ (by omega), F _ (by omega), F _ (by omega)]
    exact w9 c hc
  · rw [F 1 (by omega)] at hc
    rw [F _ (by omega), F 0 (by omega)]
    exact w10 c hc
  · obtain ⟨y0, y1, y2, y3, y4, y5, y6, y7⟩ := w11 i hi
    rw [F _ (by omega), F _ (by omega), F _ (by omega), F _ (by omega), F _ (by omega), F _ (by omega)]
    exact ⟨y0, y1, y2, y3, y4, y5, fun l hl => by rw [F _ (by omega)]; exact y6 l hl, y7⟩
  · rw [F 2 (by omega)] at hi
    rw [F (617 + 10 * i) (by omega), F (617 + 10 * i + 2) (by omega), F 1 (by omega), F 4 (by omega)]
    exact w12 i hi
theorem Wf.verc {f f' : Nat → Int32} (hW : Wf f) {x : Nat} (hx : x < 21) (F : ∀ k, k < 1377 ∧ k ≠ 4 ∧ (k < 22 + 12 * x ∨ 22 + 12 * x + 12 ≤ k) → f' k = f k) (hct : rg (f' 4) 0 20) (hge : (f 4).toInt ≤ (f' 4).toInt) (hrow : (∀ b, b < 6 → rg (f' (22 + 12 * x + b)) 0 999) ∧ (∀ r, r < 4 → rg (f' (22 + 12 * x + (6 + r))) 0 100) ∧ rg (f' (22 + 12 * x + 10)) 0 30 ∧ rg (f' (22 + 12 * x + 11)) 0 9999) : Wf f' := by
  have n0 := (cl_of hW.1.1).2.2
  have n1 := (cl_of hW.1.2.1).2.2
  have n2 := (cl_of hW.1.2.2.1).2.2
  have n3 := (cl_of hW.1.2.2.2.1).2.2
  have n4 := (cl_of hW.1.2.2.2.2.1).2.2
  have n6 := (cl_of hW.1.2.2.2.2.2.2.1).2.2
  have n7 := (cl_of hW.1.2.2.2.2.2.2.2.1).2.2
  obtain ⟨w0, w1, w2, w3, w4, w5, w6, w7, w8, w9, w10, w11, w12⟩ := hW
  refine ⟨?_, fun b hb => ?_, fun hb => ?_, fun b hb => ?_, fun r hr => ?_, fun r hr => ?_, fun r hr => ?_, fun v hv => ?_, fun s hs => ?_, fun c hc => ?_, fun c hc => ?_, fun i hi => ?_, fun i hi => ?_⟩
  · rw [F 0 (by omega), F 1 (by omega), F 2 (by omega), F 3 (by omega), F 5 (by omega), F 6 (by omega), F 7 (by omega), F 8 (by omega), F 9 (by omega), F 10 (by omega), F 11 (by omega)]
    exact ⟨w0.1, w0.2.1, w0.2.2.1, w0.2.2.2.1, hct, w0.2.2.2.2.2.1, w0.2.2.2.2.2.2.1, w0.2.2.2.2.2.2.2.1, w0.2.2.2.2.2.2.2.2.1, w0.2.2.2.2.2.2.2.2.2.1, w0.2.2.2.2.2.2.2.2.2.2.1, w0.2.2.2.2.2.2.2.2.2.2.2⟩
  · rw [F _ (by omega)]; exact w1 b hb
  · rw [F 6 (by omega)] at hb
    rw [F _ (by omega)]; exact w2 hb
  · rw [F 6 (by omega)] at hb
    rw [F _ (by omega), F _ (by omega)]; exact w3 b hb
  · rw [F _ (by omega)]; exact w4 r hr
  · rw [F 7 (by omega)] at hr
    rw [F _ (by omega), F _ (by omega)]; exact w5 r hr
  · rw [F 7 (by omega)] at hr
    rw [F _ (by omega)]; exact w6 r hr
  · by_cases e : v = x
    · subst e
      exact hrow
    · refine ⟨fun b hb => ?_, fun r hr => ?_, ?_, ?_⟩
      · rw [F _ (by omega)]; exact (w7 v hv).1 b hb
      · rw [F _ (by omega)]; exact (w7 v hv).2.1 r hr
      · rw [F _ (by omega)]; exact (w7 v hv).2.2.1
      · rw [F _ (by omega)]; exact (w7 v hv).2.2.2
  · rw [F _ (by omega)]; exact w8 s hs
  · rw [F _ (by omega), F _ (by omega), F _ (by omega), F _ (by omega), F _ (by omega), F _ (by omega), F _ (by omega)]
    exact w9 c hc
  · rw [F 1 (by omega)] at hc
    rw [F _ (by omega), F 0 (by omega)]
    exact w10 c hc
  · obtain ⟨y0, y1, y2, y3, y4, y5, y6, y7⟩ := w11 i hi
    rw [F _ (by omega), F _ (by omega), F _ (by omega), F _ (by omega), F _ (by omega), F _ (by omega)]
    exact ⟨y0, y1, y2, y3, y4, y5, fun l hl => by rw [F _ (by omega)]; exact y6 l hl, y7⟩
  · rw [F 2 (by omega)] at hi
    rw [F (617 + 10 * i) (by omega), F (617 + 10 * i + 2) (by omega), F 1 (by omega)]
    exact ⟨(w12 i hi).1, Int.le_trans (w12 i hi).2 hge⟩
theorem Wf.dayc {f f' : Nat → Int32} (hW : Wf f) (F : ∀ k, k < 1377 ∧ k ≠ 5 → f' k = f k) (hct : rg (f' 5) 0 99999) : Wf f' := by
  have n0 := (cl_of hW.1.1).2.2
  have n1 := (cl_of hW.1.2.1).2.2
  have n2 := (cl_of hW.1.2.2.1).2.2
  have n3 := (cl_of hW.1.2.2.2.1).2.2
  have n4 := (cl_of hW.1.2.2.2.2.1).2.2
  have n6 := (cl_of hW.1.2.2.2.2.2.2.1).2.2
  have n7 := (cl_of hW.1.2.2.2.2.2.2.2.1).2.2
  obtain ⟨w0, w1, w2, w3, w4, w5, w6, w7, w8, w9, w10, w11, w12⟩ := hW
  refine ⟨?_, fun b hb => ?_, fun hb => ?_, fun b hb => ?_, fun r hr => ?_, fun r hr => ?_, fun r hr => ?_, fun v hv => ?_, fun s hs => ?_, fun c hc => ?_, fun c hc => ?_, fun i hi => ?_, fun i hi => ?_⟩
  · rw [F 0 (by omega), F 1 (by omega), F 2 (by omega), F 3 (by omega), F 4 (by omega), F 6 (by omega), F 7 (by omega), F 8 (by omega), F 9 (by omega), F 10 (by omega), F 11 (by omega)]
    exact ⟨w0.1, w0.2.1, w0.2.2.1, w0.2.2.2.1, w0.2.2.2.2.1, hct, w0.2.2.2.2.2.2.1, w0.2.2.2.2.2.2.2.1, w0.2.2.2.2.2.2.2.2.1, w0.2.2.2.2.2.2.2.2.2.1, w0.2.2.2.2.2.2.2.2.2.2.1, w0.2.2.2.2.2.2.2.2.2.2.2⟩
  · rw [F _ (by omega)]; exact w1 b hb
  · rw [F 6 (by omega)] at hb
    rw [F _ (by omega)]; exact w2 hb
  · rw [F 6 (by omega)] at hb
    rw [F _ (by omega), F _ (by omega)]; exact w3 b hb
  · rw [F _ (by omega)]; exact w4 r hr
  · rw [F 7 (by omega)] at hr
    rw [F _ (by omega), F _ (by omega)]; exact w5 r hr
  · rw [F 7 (by omega)] at hr
    rw [F _ (by omega)]; exact w6 r hr
  · refine ⟨fun b hb => ?_, fun r hr => ?_, ?_, ?_⟩
    · rw [F _ (by omega)]; exact (w7 v hv).1 b hb
    · rw [F _ (by omega)]; exact (w7 v hv).2.1 r hr
    · rw [F _ (by omega)]; exact (w7 v hv).2.2.1
    · rw [F _ (by omega)]; exact (w7 v hv).2.2.2
  · rw [F _ (by omega)]; exact w8 s hs
  · rw [F _ (by omega), F _ (by omega), F _ (by omega), F _ (by omega), F _ (by omega), F _ (by omega), F _ (by omega)]
    exact w9 c hc
  · rw [F 1 (by omega)] at hc
    rw [F _ (by omega), F 0 (by omega)]
    exact w10 c hc
  · obtain ⟨y0, y1, y2, y3, y4, y5, y6, y7⟩ := w11 i hi
    rw [F _ (by omega), F _ (by omega), F _ (by omega), F _ (by omega), F _ (by omega), F _ (by omega)]
    exact ⟨y0, y1, y2, y3, y4, y5, fun l hl => by rw [F _ (by omega)]; exact y6 l hl, y7⟩
  · rw [F 2 (by omega)] at hi
    rw [F (617 + 10 * i) (by omega), F (617 + 10 * i + 2) (by omega), F 1 (by omega), F 4 (by omega)]
    exact w12 i hi
theorem Wf.tarc {f f' : Nat → Int32} (hW : Wf f) (F : ∀ k, k < 1377 ∧ (k < 6 ∨ 6 + 28 ≤ k) → f' k = f k) (hct : rg (f' 6) 0 6 ∧ rg (f' 7) 0 4 ∧ rg (f' 8) 0 1 ∧ rg (f' 9) 0 9999 ∧ rg (f' 10) 0 999 ∧ rg (f' 11) 0 999) (hb1 : ∀ b, b < 6 → rg (f' (12 + b)) 0 9999) (hb2 : 0 < cl (f' 6) → f' 12 = 0) (hb3 : ∀ b, b + 1 < cl (f' 6) → (f' (12 + b)).toInt < (f' (12 + (b + 1))).toInt) (hr1 : ∀ r, r < 4 → rg (f' (18 + r)) 0 99) (hr2 : ∀ r, r + 1 < cl (f' 7) → (f' (18 + r)).toInt < (f' (18 + (r + 1))).toInt) (hr3 : ∀ r, r < cl (f' 7) → 2 ≤ (f' (18 + r)).toInt) (hrow : (∀ b, b < 6 → rg (f' (22 + b)) 0 999) ∧ (∀ r, r < 4 → rg (f' (22 + (6 + r))) 0 100) ∧ rg (f' (22 + 10)) 0 30 ∧ rg (f' (22 + 11)) 0 9999) : Wf f' := by
  have n0 := (cl_of hW.1.1).2.2
  have n1 := (cl_of hW.1.2.1).2.2
  have n2 := (cl_of hW.1.2.2.1).2.2
  have n3 := (cl_of hW.1.2.2.2.1).2.2
  have n4 := (cl_of hW.1.2.2.2.2.1).2.2
  have n6 := (cl_of hW.1.2.2.2.2.2.2.1).2.2
  have n7 := (cl_of hW.1.2.2.2.2.2.2.2.1).2.2
  obtain ⟨w0, w1, w2, w3, w4, w5, w6, w7, w8, w9, w10, w11, w12⟩ := hW
  refine ⟨?_, fun b hb => ?_, fun hb => ?_, fun b hb => ?_, fun r hr => ?_, fun r hr => ?_, fun r hr => ?_, fun v hv => ?_, fun s hs => ?_, fun c hc => ?_, fun c hc => ?_, fun i hi => ?_, fun i hi => ?_⟩
  · rw [F 0 (by omega), F 1 (by omega), F 2 (by omega), F 3 (by omega), F 4 (by omega), F 5 (by omega)]
    exact ⟨w0.1, w0.2.1, w0.2.2.1, w0.2.2.2.1, w0.2.2.2.2.1, w0.2.2.2.2.2.1, hct⟩
  · exact hb1 b hb
  · exact hb2 hb
  · exact hb3 b hb
  · exact hr1 r hr
  · exact hr2 r hr
  · exact hr3 r hr
  · by_cases e : v = 0
    · subst e
      exact hrow
    · refine ⟨fun b hb => ?_, fun r hr => ?_, ?_, ?_⟩
      · rw [F _ (by omega)]; exact (w7 v hv).1 b hb
      · rw [F _ (by omega)]; exact (w7 v hv).2.1 r hr
      · rw [F _ (by omega)]; exact (w7 v hv).2.2.1
      · rw [F _ (by omega)]; exact (w7 v hv).2.2.2
  · rw [F _ (by omega)]; exact w8 s hs
  · rw [F _ (by omega), F _ (by omega), F _ (by omega), F _ (by omega), F _ (by omega), F _ (by omega), F _ (by omega)]
    exact w9 c hc
  · rw [F 1 (by omega)] at hc
    rw [F _ (by omega), F 0 (by omega)]
    exact w10 c hc
  · obtain ⟨y0, y1, y2, y3, y4, y5, y6, y7⟩ := w11 i hi
    rw [F _ (by omega), F _ (by omega), F _ (by omega), F _ (by omega), F _ (by omega), F _ (by omega)]
    exact ⟨y0, y1, y2, y3, y4, y5, fun l hl => by rw [F _ (by omega)]; exact y6 l hl, y7⟩
  · rw [F 2 (by omega)] at hi
    rw [F (617 + 10 * i) (by omega), F (617 + 10 * i + 2) (by omega), F 1 (by omega), F 4 (by omega)]
    exact w12 i hi
