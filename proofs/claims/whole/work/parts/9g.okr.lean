/-! PURE. The model's rows are in range. -/
theorem okR_of {f : Nat → Int32} (hW : Wf f) : OkR f := by
  have z1 : ((1 : Int32)).toInt = 1 := rfl
  obtain ⟨⟨a0, a1, a2, a3, a4, a5, a6, a7, -⟩, -, -, -, -, -, -, hv, -, hc, -, hi, -⟩ := hW
  refine ⟨vp_of a0.1 (by have := a0.2; omega) (by decide), vp_of a1.1 (by have := a1.2; omega) (by decide), vp_of a2.1 (by have := a2.2; omega) (by decide), vp_of a3.1 (by have := a3.2; omega) (by decide), vp_of a4.1 (by have := a4.2; omega) (by decide), vp_of a6.1 (by have := a6.2; omega) (by decide), vp_of a7.1 (by have := a7.2; omega) (by decide), fun c hcc => ?_, fun i hii => ?_, fun v hvv => ?_⟩
  · obtain ⟨w0, w1, w2, -⟩ := hc c hcc
    have w1a := w1.1
    have w1b := w1.2
    have e1 : (f (330 + 7 * c + 2) - f (330 + 7 * c + 1)).toInt = (f (330 + 7 * c + 2)).toInt - (f (330 + 7 * c + 1)).toInt := ti_sub (by omega) (by omega)
    have e2 : (f (330 + 7 * c + 2) - f (330 + 7 * c + 1) + 1).toInt = (f (330 + 7 * c + 2)).toInt - (f (330 + 7 * c + 1)).toInt + 1 := by
      rw [ti_add (by rw [e1, z1]; omega) (by rw [e1, z1]; omega), e1, z1]
    exact ⟨vp_of w0.1 (by have := w0.2; omega) (by decide), vp_of (by rw [e2]; omega) (by rw [e2]; omega) (by decide)⟩
  · obtain ⟨w0, -, w2, -⟩ := hi i hii
    exact ⟨vp_of w0.1 (by have := w0.2; omega) (by decide), vp_of w2.1 (by have := w2.2; omega) (by decide)⟩
  · have w := (hv v hvv).2.2.1
    exact vp_of w.1 (by have := w.2; omega) (by decide)
theorem ok_rel : ∀ n ν μ, RelP n ν μ → OkR (μ.1 1) := fun n ν μ h => okR_of h.1.2.1
