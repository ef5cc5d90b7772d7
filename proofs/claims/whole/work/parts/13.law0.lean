set_option maxRecDepth 100000 in
theorem ok_law_0 : j_ckT M_law I_law_0 P_law_0 = true := by decide +kernel
