/-! Constants that the code loads. -/
theorem kc_Ru_164 : Cond.constant R_Ru 164 (nI 100000) ∈ g_tbl := g_in 690 (by decide +kernel) (by decide +kernel)
