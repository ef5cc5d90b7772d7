set_option maxRecDepth 100000 in
theorem ok_law_1 : j_ckT M_law I_law_1 P_law_1 = true := by decide +kernel
