set_option maxRecDepth 100000 in
theorem ok_law_3 : j_ckT M_law I_law_3 P_law_3 = true := by decide +kernel
