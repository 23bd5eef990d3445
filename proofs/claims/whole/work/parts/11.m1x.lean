
theorem f_ofCall_ship {μ : Mm} (hok : OkR (μ.1 1)) {c : Int32} (hc : vp_in c 41) : vp_in (f_X12_ofCall μ c (0 : Int32)) 8 := by
  obtain ⟨-, h2⟩ := vpn hc (by decide)
  exact (hok.2.2.2.2.2.2.2.1 (cl c) h2).1
theorem f_ofInvoice_call {μ : Mm} (hok : OkR (μ.1 1)) {c : Int32} (hc : vp_in c 60) : vp_in (f_X12_ofInvoice μ c (0 : Int32)) 41 := by
  obtain ⟨-, h2⟩ := vpn hc (by decide)
  exact (hok.2.2.2.2.2.2.2.2.1 (cl c) h2).1
theorem f_ofInvoice_version {μ : Mm} (hok : OkR (μ.1 1)) {c : Int32} (hc : vp_in c 60) : vp_in (f_X12_ofInvoice μ c (2 : Int32)) 21 := by
  obtain ⟨-, h2⟩ := vpn hc (by decide)
  exact (hok.2.2.2.2.2.2.2.2.1 (cl c) h2).2
theorem f_ofVersion_free {μ : Mm} (hok : OkR (μ.1 1)) {c : Int32} (hc : vp_in c 21) : vp_in (f_X12_ofVersion μ c (10 : Int32)) 31 := by
  obtain ⟨-, h2⟩ := vpn hc (by decide)
  exact hok.2.2.2.2.2.2.2.2.2 (cl c) h2
theorem f_version_in {μ : Mm} (hok : OkR (μ.1 1)) : vp_in (f_X12_version μ) 21 := OkR_4 hok
