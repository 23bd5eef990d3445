
theorem f_daysOf_in {μ : Mm} (hok : OkR (μ.1 1)) {c : Int32} (hc : vp_in c 41) : vp_in (f_X12_daysOf μ c) 31 := by
  obtain ⟨-, h2⟩ := vpn hc (by decide)
  exact (hok.2.2.2.2.2.2.2.1 (cl c) h2).2
theorem f_shipOf_in {μ : Mm} (hok : OkR (μ.1 1)) {c : Int32} (hc : vp_in c 60) : vp_in (f_X12_ofCall μ (f_X12_ofInvoice μ c (0 : Int32)) (0 : Int32)) 8 := f_ofCall_ship hok (f_ofInvoice_call hok hc)
