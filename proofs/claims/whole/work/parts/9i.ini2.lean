/-! PURE. The start keeps the relation, 2. -/
theorem rel0 : RelP 0 nu0 mu0 := by
  have c0 : ∀ {k : Nat}, k ≠ 32 → cl (mu0.1 1 k) = 0 := fun h => by rw [f0_z h]; rfl
  refine ⟨⟨⟨⟨rfl, rfl, rfl, rfl, rfl, rfl⟩, fun s hs => ?_, fun c hc => ?_, fun i hi => ?_, fun n hn => ?_, fun v hv => ?_⟩, wf0, fun s hs => ⟨show (0 : Int) ≤ ((0 : Int64)).toInt by decide, show ((0 : Int64)).toInt ≤ 1000000000 * ((0 : Nat) : Int) by decide⟩⟩, ⟨0, 0, by decide, by decide, rfl, rfl, rfl, fun j hj => absurd hj (by omega)⟩, ⟨0, by decide, rfl, rfl, fun k hk => absurd hk (by omega)⟩, ⟨0, by decide, rfl, rfl, fun k hk => absurd hk (by omega)⟩, ⟨rfl, rfl⟩, rfl⟩
  · rw [c0 (k := 0) (by decide)] at hs; omega
  · rw [c0 (k := 1) (by decide)] at hc; omega
  · rw [c0 (k := 2) (by decide)] at hi; omega
  · rw [c0 (k := 3) (by decide)] at hn; omega
  · rw [c0 (k := 4) (by decide)] at hv
    have : v = 0 := by omega
    subst this
    refine ⟨⟨rfl, rfl, rfl, rfl, rfl, rfl, rfl, rfl⟩, fun b hb => ?_, fun r hr => ?_⟩
    · rw [c0 (k := 6) (by decide)] at hb; omega
    · rw [c0 (k := 7) (by decide)] at hr; omega
