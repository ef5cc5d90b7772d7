set_option maxRecDepth 100000 in
theorem ok_law_5 : j_ckT M_law I_law_5 P_law_5 = true := by decide +kernel
