/-! PURE. The start keeps the relation. -/
theorem f0_at (k : Nat) : mu0.1 1 k = if k = 32 then 30 else 0 := rfl
theorem f0_z {k : Nat} (h : k ≠ 32) : mu0.1 1 k = 0 := by rw [f0_at, if_neg h]
theorem rg0 {hi : Int} (h : 0 ≤ hi) : rg (0 : Int32) 0 hi := ⟨Int.le_refl 0, h⟩
theorem wf0 : Wf (mu0.1 1) := by
  have z : ∀ {k : Nat} {hi : Int}, k ≠ 32 → 0 ≤ hi → rg (mu0.1 1 k) 0 hi := fun h1 h2 => by rw [f0_z h1]; exact rg0 h2
  have c0 : ∀ {k : Nat}, k ≠ 32 → cl (mu0.1 1 k) = 0 := fun h => by rw [f0_z h]; rfl
  refine ⟨⟨z (by decide) (by decide), z (by decide) (by decide), z (by decide) (by decide), z (by decide) (by decide), z (by decide) (by decide), z (by decide) (by decide), z (by decide) (by decide), z (by decide) (by decide), z (by decide) (by decide), z (by decide) (by decide), z (by decide) (by decide), z (by decide) (by decide)⟩, fun b hb => z (by omega) (by decide), fun _ => f0_z (by decide), fun b hb => ?_, fun r hr => z (by omega) (by decide), fun r hr => ?_, fun r hr => ?_, fun v hv => ⟨fun b hb => z (by omega) (by decide), fun r hr => z (by omega) (by decide), ?_, z (by omega) (by decide)⟩, fun s hs => z (by omega) (by decide), fun c hc => ⟨z (by omega) (by decide), z (by omega) (by decide), ?_, z (by omega) (by decide), z (by omega) (by decide), z (by omega) (by decide), z (by omega) (by decide), ?_⟩, fun c hc => ?_, fun i hi => ⟨z (by omega) (by decide), z (by omega) (by decide), z (by omega) (by decide), z (by omega) (by decide), z (by omega) (by decide), z (by omega) (by decide), fun l hl => ?_, fun h => ?_⟩, fun i hi => ?_⟩
  · rw [c0 (k := 6) (by decide)] at hb; omega
  · rw [c0 (k := 7) (by decide)] at hr; omega
  · rw [c0 (k := 7) (by decide)] at hr; omega
  · rw [f0_at]
    split
    · exact ⟨by decide, by decide⟩
    · exact ⟨by decide, by decide⟩
  · rw [f0_z (k := 330 + 7 * c + 2) (by omega), f0_z (k := 330 + 7 * c + 1) (by omega)]
    exact ⟨by decide, by decide, by decide⟩
  · rw [f0_z (k := 330 + 7 * c + 5) (by omega), f0_z (k := 330 + 7 * c + 6) (by omega)]
    rfl
  · rw [c0 (k := 1) (by decide)] at hc; omega
  · rw [f0_z (by omega)]; exact ⟨by decide, by decide⟩
  · exact absurd (f0_z (by omega)) h
  · rw [c0 (k := 2) (by decide)] at hi; omega
