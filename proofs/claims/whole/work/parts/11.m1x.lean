
theorem f_ofCall_ship {μ : Mm} (hok : OkR (μ.1 1)) {c : Int32} (hc : vp_in c 41) : vp_in (f_X12_ofCall μ c 0) 8 := by
  obtain ⟨-, h2⟩ := vpn hc (by decide)
  have := hok.2.2.2.2.2.2.2.1 (cl c) h2
  exact this
theorem f_ofInvoice_call {μ : Mm} (hok : OkR (μ.1 1)) {c : Int32} (hc : vp_in c 60) : vp_in (f_X12_ofInvoice μ c 0) 41 := by
  obtain ⟨-, h2⟩ := vpn hc (by decide)
  have := (hok.2.2.2.2.2.2.2.2 (cl c) h2).1
  exact this
theorem f_ofInvoice_version {μ : Mm} (hok : OkR (μ.1 1)) {c : Int32} (hc : vp_in c 60) : vp_in (f_X12_ofInvoice μ c 2) 21 := by
  obtain ⟨-, h2⟩ := vpn hc (by decide)
  have := (hok.2.2.2.2.2.2.2.2 (cl c) h2).2
  exact this
theorem f_version_in {μ : Mm} (hok : OkR (μ.1 1)) : vp_in (f_X12_version μ) 21 := OkR_4 hok
