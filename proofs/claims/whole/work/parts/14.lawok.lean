theorem ok_law : j_okT M_law := by
  intro q hq
  have hq : q ∈ I_law := hq
  unfold I_law at hq
  rcases List.mem_append.mp hq with hq | hq
  · exact j_ckT_ok okC_all _ _ ok_law_0 q hq
  rcases List.mem_append.mp hq with hq | hq
  · exact j_ckT_ok okC_all _ _ ok_law_1 q hq
  rcases List.mem_append.mp hq with hq | hq
  · exact j_ckT_ok okC_all _ _ ok_law_2 q hq
  rcases List.mem_append.mp hq with hq | hq
  · exact j_ckT_ok okC_all _ _ ok_law_3 q hq
  rcases List.mem_append.mp hq with hq | hq
  · exact j_ckT_ok okC_all _ _ ok_law_4 q hq
  rcases List.mem_append.mp hq with hq | hq
  · exact j_ckT_ok okC_all _ _ ok_law_5 q hq
  exact j_ckT_ok okC_all _ _ ok_law_6 q hq
