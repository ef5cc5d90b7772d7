set_option maxRecDepth 100000 in
theorem ok_law_6 : j_ckT M_law I_law_6 P_law_6 = true := by decide +kernel
