set_option maxRecDepth 100000 in
theorem ok_law_2 : j_ckT M_law I_law_2 P_law_2 = true := by decide +kernel
