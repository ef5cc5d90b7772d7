set_option maxRecDepth 100000 in
theorem ok_law_4 : j_ckT M_law I_law_4 P_law_4 = true := by decide +kernel
