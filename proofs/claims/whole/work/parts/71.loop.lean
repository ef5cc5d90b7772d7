/-! THE LAW'S LOOP -/
set_option maxHeartbeats 4000000 in
set_option maxRecDepth 100000 in
theorem law_loop {b L : Nat} {xs : Nat → Int32} {post : Option Value → jW → Prop} (hL : L ≤ 2561) (h5 : 5 ≤ L) (hp : ∀ w, post (some (.int (nI 1))) w) : ∀ (d k : Nat) (S X : Nat → Nat → Nat) (B : Nat → Nat → Int64) (A : Nat → Nat → Int32) (F : Nat → Int32) (ad ad' : Nat → Nat → Nat), k + d = (L - 1) / 5 → lAt S X B A F ad ad' k → j_SX b L xs M_law post 28 [some (.ref b), some (.ref (ad 0 0)), some (.ref (ad' 0 0)), some (.int (nI (1 + 5 * k)))] [] (jU (cW S X B A ad) (rW S F ad')) (80 * d) (480 * d) := by
  intro d
  induction d with
  | zero =>
    intro k S X B A F ad ad' e h
    refine j_runsX [] ok_law 20 ?_
    simp (disch := first | omega | simp (disch := omega) only [sA_ne, sA_self]) only [st_law_h, j_kX, k_len, pk_sub, j_k, List.mem_cons, List.not_mem_nil, or_false, or_self, if_false, if_true, ↓reduceIte, List.getElem?_cons_zero, List.getElem?_cons_succ, List.set_cons_zero, List.set_cons_succ, List.length_cons, List.length_nil, g_ld_s, g_v_s, g_ob_s, g_ia_s, g_la_s, g_qa_s, g_al_s, t_i_s, t_a_r, t_a_n, t_a_q, t_l_s, true_and, and_true, and_self, true_or, or_true, Decidable.not_not, not_true_eq_false, not_false_eq_true, false_implies, true_implies, implies_true, j_ok1_s, j_isL, j_cat_i, j_cat_l, j_cat_r, j_cat_n, j_rf_cat, j_rf_some, j_rf_none, k_w8_0, k_w8_i, k_w8_r, k_w8_l, k_sum0, k_ints, k_nari, k_narz0, k_narz1, k_okv0, k_okv1, k_okv2, k_okv2n, k_okv3, Option.toList_some, Option.toList_none, List.cons_append, List.nil_append, List.append_nil, List.map_cons, List.map_nil, List.sum_cons, List.sum_nil, Nat.add_zero, Nat.zero_add, Nat.reduceAdd, Nat.reduceMul, Nat.reduceSub, Nat.reduceDiv, Nat.reduceMod, Nat.reduceLT, Nat.reduceLeDiff, Nat.reduceEqDiff, Nat.reduceBEq, Nat.reduceBNe, Nat.one_ne_zero, Nat.zero_ne_one, Nat.succ_ne_self, Nat.le_refl, Nat.sub_self, Nat.sub_zero, Nat.zero_le, reduceCtorEq, eq_self, Bool.false_eq_true, pk_mul, nI_add, k_in, nI_clamp, nI_eq, nI_ltI, nI_leI, k_upd, k_eq0, k_lt0, k_0le, k_0lt, k_le0, k_mod]
    exact ⟨fun _ => hp _, fun c => absurd (by omega) c⟩
  | succ d ih =>
    intro k S X B A F ad ad' e h
    have nx : lNx b L xs post k (1 + 5 * k) d (ad 0 0) (ad' 0 0) := by
      intro S1 X1 B1 A1 F1 a1 a1' m1 c1 b1 i1 r1 e1 e2 d1
      refine j_runsX [28] ok_law 5 ?_
      simp (disch := first | omega | simp (disch := omega) only [sA_ne, sA_self]) only [st_law_h, j_kX, j_k, List.mem_cons, List.not_mem_nil, or_false, or_self, if_false, if_true, ↓reduceIte, List.getElem?_cons_zero, List.getElem?_cons_succ, List.set_cons_zero, List.set_cons_succ, List.length_cons, List.length_nil, g_ld_s, g_v_s, g_ob_s, g_ia_s, g_la_s, g_qa_s, g_al_s, t_i_s, t_a_r, t_a_n, t_a_q, t_l_s, true_and, and_true, and_self, true_or, or_true, Decidable.not_not, not_true_eq_false, not_false_eq_true, false_implies, true_implies, implies_true, j_ok1_s, j_isL, j_cat_i, j_cat_l, j_cat_r, j_cat_n, j_rf_cat, j_rf_some, j_rf_none, k_w8_0, k_w8_i, k_w8_r, k_w8_l, k_sum0, k_ints, k_nari, k_narz0, k_narz1, k_okv0, k_okv1, k_okv2, k_okv2n, k_okv3, Option.toList_some, Option.toList_none, List.cons_append, List.nil_append, List.append_nil, List.map_cons, List.map_nil, List.sum_cons, List.sum_nil, Nat.add_zero, Nat.zero_add, Nat.reduceAdd, Nat.reduceMul, Nat.reduceSub, Nat.reduceDiv, Nat.reduceMod, Nat.reduceLT, Nat.reduceLeDiff, Nat.reduceEqDiff, Nat.reduceBEq, Nat.reduceBNe, Nat.one_ne_zero, Nat.zero_ne_one, Nat.succ_ne_self, Nat.le_refl, Nat.sub_self, Nat.sub_zero, Nat.zero_le, reduceCtorEq, eq_self, Bool.false_eq_true, pk_mul, nI_add, k_in, nI_clamp, nI_eq, nI_ltI, nI_leI, k_upd, k_eq0, k_lt0, k_0le, k_0lt, k_le0, k_mod]
      have := ih (k + 1) S1 X1 B1 A1 F1 a1 a1' (by omega) ⟨by rw [show 2 * (k + 1) = 2 * k + 2 by omega]; exact m1, c1, b1, i1, r1, d1⟩
      rw [e1, e2, show 1 + 5 * (k + 1) = 1 + 5 * k + 5 by omega] at this
      exact this
    have hL' : L < 2 ^ 31 := by omega
    have hi : 1 + 5 * k + 5 ≤ L := by omega
    have hk : 2 * k ≤ 1026 := by omega
    rw [show 80 * (d + 1) = 80 * d + 80 by omega, show 480 * (d + 1) = 480 * d + 480 by omega]
    refine j_runsX [132, 185, 208, 231, 254, 297, 330, 363, 396, 465, 488, 511, 534, 567, 600, 633, 666, 699, 732, 775] ok_law 20 ?_
    simp (disch := first | omega | simp (disch := omega) only [sA_ne, sA_self]) only [st_law_h, j_kX, k_len, pk_sub, j_k, List.mem_cons, List.not_mem_nil, or_false, or_self, if_false, if_true, ↓reduceIte, List.getElem?_cons_zero, List.getElem?_cons_succ, List.set_cons_zero, List.set_cons_succ, List.length_cons, List.length_nil, g_ld_s, g_v_s, g_ob_s, g_ia_s, g_la_s, g_qa_s, g_al_s, t_i_s, t_a_r, t_a_n, t_a_q, t_l_s, true_and, and_true, and_self, true_or, or_true, Decidable.not_not, not_true_eq_false, not_false_eq_true, false_implies, true_implies, implies_true, j_ok1_s, j_isL, j_cat_i, j_cat_l, j_cat_r, j_cat_n, j_rf_cat, j_rf_some, j_rf_none, k_w8_0, k_w8_i, k_w8_r, k_w8_l, k_sum0, k_ints, k_nari, k_narz0, k_narz1, k_okv0, k_okv1, k_okv2, k_okv2n, k_okv3, Option.toList_some, Option.toList_none, List.cons_append, List.nil_append, List.append_nil, List.map_cons, List.map_nil, List.sum_cons, List.sum_nil, Nat.add_zero, Nat.zero_add, Nat.reduceAdd, Nat.reduceMul, Nat.reduceSub, Nat.reduceDiv, Nat.reduceMod, Nat.reduceLT, Nat.reduceLeDiff, Nat.reduceEqDiff, Nat.reduceBEq, Nat.reduceBNe, Nat.one_ne_zero, Nat.zero_ne_one, Nat.succ_ne_self, Nat.le_refl, Nat.sub_self, Nat.sub_zero, Nat.zero_le, reduceCtorEq, eq_self, Bool.false_eq_true, pk_mul, nI_add, k_in, nI_clamp, nI_eq, nI_ltI, nI_leI, k_upd, k_eq0, k_lt0, k_0le, k_0lt, k_le0, k_mod]
    refine ⟨fun c => absurd c (by omega), fun _ => ⟨fun _ => ?_, ?_⟩⟩
    · exact jx_mono (by omega) (by omega) (nx S X B A F ad ad' (h.1.le (by omega)) h.2.1 h.2.2.1 h.2.2.2.1 h.2.2.2.2.1 rfl rfl h.2.2.2.2.2)
    · refine j_sw_of _ _ (fun n hn hx => ?_)
      have hn : n < 19 := hn
      clear hx ih
      match n, hn with
      | 0, _ => exact law_at_0 hL' hi hk h nx
      | 1, _ => exact law_at_1 hL' hi hk h nx
      | 2, _ => exact law_at_2 hL' hi hk h nx
      | 3, _ => exact law_at_3 hL' hi hk h nx
      | 4, _ => exact law_at_4 hL' hi hk h nx
      | 5, _ => exact law_at_5 hL' hi hk h nx
      | 6, _ => exact law_at_6 hL' hi hk h nx
      | 7, _ => exact law_at_7 hL' hi hk h nx
      | 8, _ => exact law_at_8 hL' hi hk h nx
      | 9, _ => exact law_at_9 hL' hi hk h nx
      | 10, _ => exact law_at_10 hL' hi hk h nx
      | 11, _ => exact law_at_11 hL' hi hk h nx
      | 12, _ => exact law_at_12 hL' hi hk h nx
      | 13, _ => exact law_at_13 hL' hi hk h nx
      | 14, _ => exact law_at_14 hL' hi hk h nx
      | 15, _ => exact law_at_15 hL' hi hk h nx
      | 16, _ => exact law_at_16 hL' hi hk h nx
      | 17, _ => exact law_at_17 hL' hi hk h nx
      | 18, _ => exact law_at_18 hL' hi hk h nx
      | n + 19, hh => exact absurd hh (by omega)
theorem jU_up {w : jW} {q : Nat} {e : jE} (h : w q = none) : j_up w q e = jU w (jl [(q, e)]) ∧ jDj w (jl [(q, e)]) := by
  constructor
  · funext a
    by_cases ha : a = q
    · subst ha
      rw [j_up_self, jU_n h]
      exact (j_up_self _ _ _).symm
    · rw [j_up_ne _ _ ha]
      cases h1 : w a with
      | some x => exact (jU_s h1).symm
      | none =>
        rw [jU_n h1]
        exact (show jl [(q, e)] a = none from j_up_ne (jl []) e ha).symm
  · intro a ha
    have hne : a ≠ q := by rintro rfl; exact ha h
    exact (show jl [(q, e)] a = none from j_up_ne (jl []) e hne)
theorem lf_le (v : Int32) : lf v ≤ 12 := by
  unfold lf
  split
  · split
    · rename_i h1 h2
      exact (inR_of ⟨h1, h2⟩ (by decide) (by decide)).2.2
    · decide
  · decide
theorem mT_0 {z : Nat} (hz : z ≤ 12) : mT (r0 z) 0 := by
  have e : ∀ k i, k ≠ 0 → r0 z k i = 0 := fun k i hk => if_neg hk
  have ok : rOK (r0 z) := by
    intro k i
    by_cases hk : k = 0
    · subst hk; exact hz
    · rw [e k i hk]; exact Nat.zero_le _
  refine ⟨⟨ok, fun l hl => absurd hl (Nat.not_lt_zero _), fun i => by rw [e 7 i (by decide)]; decide, fun i => by rw [e 13 i (by decide)]; decide⟩, ⟨hz, fun p p1 p2 => ?_, fun p _ => rfl⟩, ⟨Nat.le_refl _, fun r => Nat.le_refl _, fun i _ => rfl⟩, fun i => by rw [e 7 i (by decide)]; decide, fun i => by rw [e 13 i (by decide)]; decide, fun x x1 x2 => ?_⟩
  · have p2 : p ≤ 0 := p2
    omega
  · have x2 : x ≤ 0 := x2
    omega
theorem cI_0 {z : Nat} : cI (r0 z) (fun _ _ => 0) := by
  refine ⟨fun q => (show 0 < 20 by decide), fun q k hk => absurd hk (Nat.not_lt_zero _), fun i => Nat.zero_le _, fun i => Nat.zero_le _, fun l _ => rfl, fun q _ => ⟨rfl, rfl, fun j _ => rfl⟩⟩
theorem cB_0 {z : Nat} {B : Nat → Nat → Int64} : cB (r0 z) B := fun p r i hp => absurd hp (Nat.not_lt_zero _)
set_option maxHeartbeats 4000000 in
set_option maxRecDepth 100000 in
theorem law_start {b L : Nat} {xs : Nat → Int32} {post : Option Value → jW → Prop} (hL : L ≤ 2561) (hp : ∀ w, post (some (.int (nI 1))) w) : j_SX b L xs M_law post 0 [some (.ref b), none, none, none] [] (fun _ => none) 41100 255000 := by
  have at28 : ∀ (z : Nat) (F : Nat → Int32) (ad ad' : Nat → Nat → Nat), z ≤ 12 → n_inj (cAl (r0 z)) ad → n_inj rAl ad' → jDj (cW (r0 z) (fun _ _ => 0) (fun _ _ => 0) (fun _ _ => 0) ad) (rW (r0 z) F ad') → j_SX b L xs M_law post 28 [some (.ref b), some (.ref (ad 0 0)), some (.ref (ad' 0 0)), some (.int (nI 1))] [] (jU (cW (r0 z) (fun _ _ => 0) (fun _ _ => 0) (fun _ _ => 0) ad) (rW (r0 z) F ad')) (80 * ((L - 1) / 5)) (480 * ((L - 1) / 5)) := by
    intro z F ad ad' hz i1 i2 d1
    by_cases h5 : 5 ≤ L
    · exact law_loop hL h5 hp ((L - 1) / 5) 0 _ _ _ _ _ _ _ (by omega) ⟨mT_0 hz, cI_0, cB_0, i1, i2, d1⟩
    · have hneg : (nI L - nI 5 : Int32) < nI 1 := by
        have : L = 0 ∨ L = 1 ∨ L = 2 ∨ L = 3 ∨ L = 4 := by omega
        rcases this with rfl | rfl | rfl | rfl | rfl <;> decide +kernel
      refine j_runsX [] ok_law 20 ?_
      simp (disch := first | omega | simp (disch := omega) only [sA_ne, sA_self]) only [st_law_h, j_kX, k_len, hneg, j_k, List.mem_cons, List.not_mem_nil, or_false, or_self, if_false, if_true, ↓reduceIte, List.getElem?_cons_zero, List.getElem?_cons_succ, List.set_cons_zero, List.set_cons_succ, List.length_cons, List.length_nil, g_ld_s, g_v_s, g_ob_s, g_ia_s, g_la_s, g_qa_s, g_al_s, t_i_s, t_a_r, t_a_n, t_a_q, t_l_s, true_and, and_true, and_self, true_or, or_true, Decidable.not_not, not_true_eq_false, not_false_eq_true, false_implies, true_implies, implies_true, j_ok1_s, j_isL, j_cat_i, j_cat_l, j_cat_r, j_cat_n, j_rf_cat, j_rf_some, j_rf_none, k_w8_0, k_w8_i, k_w8_r, k_w8_l, k_sum0, k_ints, k_nari, k_narz0, k_narz1, k_okv0, k_okv1, k_okv2, k_okv2n, k_okv3, Option.toList_some, Option.toList_none, List.cons_append, List.nil_append, List.append_nil, List.map_cons, List.map_nil, List.sum_cons, List.sum_nil, Nat.add_zero, Nat.zero_add, Nat.reduceAdd, Nat.reduceMul, Nat.reduceSub, Nat.reduceDiv, Nat.reduceMod, Nat.reduceLT, Nat.reduceLeDiff, Nat.reduceEqDiff, Nat.reduceBEq, Nat.reduceBNe, Nat.one_ne_zero, Nat.zero_ne_one, Nat.succ_ne_self, Nat.le_refl, Nat.sub_self, Nat.sub_zero, Nat.zero_le, reduceCtorEq, eq_self, Bool.false_eq_true]
      exact hp _
  refine j_runsX [6] ok_law 10 ?_
  simp (disch := first | omega | simp (disch := omega) only [sA_ne, sA_self]) only [st_law_h, j_kX, j_k, List.mem_cons, List.not_mem_nil, or_false, or_self, if_false, if_true, ↓reduceIte, List.getElem?_cons_zero, List.getElem?_cons_succ, List.set_cons_zero, List.set_cons_succ, List.length_cons, List.length_nil, g_ld_s, g_v_s, g_ob_s, g_ia_s, g_la_s, g_qa_s, g_al_s, t_i_s, t_a_r, t_a_n, t_a_q, t_l_s, true_and, and_true, and_self, true_or, or_true, Decidable.not_not, not_true_eq_false, not_false_eq_true, false_implies, true_implies, implies_true, j_ok1_s, j_isL, j_cat_i, j_cat_l, j_cat_r, j_cat_n, j_rf_cat, j_rf_some, j_rf_none, k_w8_0, k_w8_i, k_w8_r, k_w8_l, k_sum0, k_ints, k_nari, k_narz0, k_narz1, k_okv0, k_okv1, k_okv2, k_okv2n, k_okv3, Option.toList_some, Option.toList_none, List.cons_append, List.nil_append, List.append_nil, List.map_cons, List.map_nil, List.sum_cons, List.sum_nil, Nat.add_zero, Nat.zero_add, Nat.reduceAdd, Nat.reduceMul, Nat.reduceSub, Nat.reduceDiv, Nat.reduceMod, Nat.reduceLT, Nat.reduceLeDiff, Nat.reduceEqDiff, Nat.reduceBEq, Nat.reduceBNe, Nat.one_ne_zero, Nat.zero_ne_one, Nat.succ_ne_self, Nat.le_refl, Nat.sub_self, Nat.sub_zero, Nat.zero_le, reduceCtorEq, eq_self, Bool.false_eq_true, pk_mul, nI_add, k_in, nI_clamp, nI_eq, nI_ltI, nI_leI, k_upd, k_eq0, k_lt0, k_0le, k_0lt, k_le0, k_mod]
  intro q
  refine jx_call (pc := 6) (st := [.int (nI 0), .ref b, .ref q, .ref q]) (As := [.ref b, .int (nI 0)]) (r := [.ref q, .ref q]) (j := 79) (n := 2) (idx := 9) ok_law rfl rfl (by unfold j_w8; exact Nat.le_of_ble_eq_true rfl) (fun hwb => sp_Law_cell (L := L) (xs := xs) (by omega) hwb) (fun v w' hv => ?_)
  obtain ⟨rfl, rfl⟩ := hv
  show j_SX b L xs M_law post 9 _ [.int (v00 L xs), .ref q, .ref q] (jl [(q, .inr (0, [.int 0, .null, .null, .null, .null, .null, .int 0, .int 0, .int 0]))]) _ _
  refine j_runsX [19] ok_law 10 ?_
  simp (disch := first | omega | simp (disch := omega) only [sA_ne, sA_self]) only [st_law_h, j_kX, j_k, List.mem_cons, List.not_mem_nil, or_false, or_self, if_false, if_true, ↓reduceIte, List.getElem?_cons_zero, List.getElem?_cons_succ, List.set_cons_zero, List.set_cons_succ, List.length_cons, List.length_nil, g_ld_s, g_v_s, g_ob_s, g_ia_s, g_la_s, g_qa_s, g_al_s, t_i_s, t_a_r, t_a_n, t_a_q, t_l_s, true_and, and_true, and_self, true_or, or_true, Decidable.not_not, not_true_eq_false, not_false_eq_true, false_implies, true_implies, implies_true, j_ok1_s, j_isL, j_cat_i, j_cat_l, j_cat_r, j_cat_n, j_rf_cat, j_rf_some, j_rf_none, k_w8_0, k_w8_i, k_w8_r, k_w8_l, k_sum0, k_ints, k_nari, k_narz0, k_narz1, k_okv0, k_okv1, k_okv2, k_okv2n, k_okv3, Option.toList_some, Option.toList_none, List.cons_append, List.nil_append, List.append_nil, List.map_cons, List.map_nil, List.sum_cons, List.sum_nil, Nat.add_zero, Nat.zero_add, Nat.reduceAdd, Nat.reduceMul, Nat.reduceSub, Nat.reduceDiv, Nat.reduceMod, Nat.reduceLT, Nat.reduceLeDiff, Nat.reduceEqDiff, Nat.reduceBEq, Nat.reduceBNe, Nat.one_ne_zero, Nat.zero_ne_one, Nat.succ_ne_self, Nat.le_refl, Nat.sub_self, Nat.sub_zero, Nat.zero_le, reduceCtorEq, eq_self, Bool.false_eq_true, pk_mul, nI_add, k_in, nI_clamp, nI_eq, nI_ltI, nI_leI, k_upd, k_eq0, k_lt0, k_0le, k_0lt, k_le0, k_mod]
  refine g_calln (mc := 32) (ms := 263) (by decide) (by decide) (sp_Net_init (fun ad i1 e1 => ?_))
  simp (disch := first | omega | simp (disch := omega) only [sA_ne, sA_self]) only [st_law_h, j_kX, j_k, List.mem_cons, List.not_mem_nil, or_false, or_self, if_false, if_true, ↓reduceIte, List.getElem?_cons_zero, List.getElem?_cons_succ, List.set_cons_zero, List.set_cons_succ, List.length_cons, List.length_nil, g_ld_s, g_v_s, g_ob_s, g_ia_s, g_la_s, g_qa_s, g_al_s, t_i_s, t_a_r, t_a_n, t_a_q, t_l_s, true_and, and_true, and_self, true_or, or_true, Decidable.not_not, not_true_eq_false, not_false_eq_true, false_implies, true_implies, implies_true, j_ok1_s, j_isL, j_cat_i, j_cat_l, j_cat_r, j_cat_n, j_rf_cat, j_rf_some, j_rf_none, k_w8_0, k_w8_i, k_w8_r, k_w8_l, k_sum0, k_ints, k_nari, k_narz0, k_narz1, k_okv0, k_okv1, k_okv2, k_okv2n, k_okv3, Option.toList_some, Option.toList_none, List.cons_append, List.nil_append, List.append_nil, List.map_cons, List.map_nil, List.sum_cons, List.sum_nil, Nat.add_zero, Nat.zero_add, Nat.reduceAdd, Nat.reduceMul, Nat.reduceSub, Nat.reduceDiv, Nat.reduceMod, Nat.reduceLT, Nat.reduceLeDiff, Nat.reduceEqDiff, Nat.reduceBEq, Nat.reduceBNe, Nat.one_ne_zero, Nat.zero_ne_one, Nat.succ_ne_self, Nat.le_refl, Nat.sub_self, Nat.sub_zero, Nat.zero_le, reduceCtorEq, eq_self, Bool.false_eq_true, pk_mul, nI_add, k_in, nI_clamp, nI_eq, nI_ltI, nI_leI, k_upd, k_eq0, k_lt0, k_0le, k_0lt, k_le0, k_mod]
  intro qr hqr
  refine jx_call (pc := 19) (st := [.int (nI 0), .ref b, .ref qr, .ref qr]) (As := [.ref b, .int (nI 0)]) (r := [.ref qr, .ref qr]) (j := 79) (n := 2) (idx := 9) ok_law rfl rfl (by unfold j_w8; exact Nat.le_of_ble_eq_true rfl) (fun hwb => sp_Law_cell (L := L) (xs := xs) (by omega) hwb) (fun v w' hv => ?_)
  obtain ⟨rfl, rfl⟩ := hv
  obtain ⟨eU, dU⟩ := jU_up (e := .inr (8, rD)) hqr
  have eU' : j_up (cW (r0 (lf (v00 L xs))) (fun _ _ => 0) (fun _ _ => 0) (fun _ _ => 0) ad) qr (.inr (8, [.int 0, .int 0, .null, .null, .null, .null, .null, .null, .int 0, .null, .null, .null, .null, .null, .null, .null, .null, .null, .int 0, .null, .null, .null, .int 0, .null, .null])) = _ := eU
  rw [eU']
  show j_SX b L xs M_law post 22 _ [.int (v00 L xs), .ref qr, .ref qr] _ _ _
  refine j_runsX [28] ok_law 10 ?_
  simp (disch := first | omega | simp (disch := omega) only [sA_ne, sA_self]) only [st_law_h, j_kX, j_k, List.mem_cons, List.not_mem_nil, or_false, or_self, if_false, if_true, ↓reduceIte, List.getElem?_cons_zero, List.getElem?_cons_succ, List.set_cons_zero, List.set_cons_succ, List.length_cons, List.length_nil, g_ld_s, g_v_s, g_ob_s, g_ia_s, g_la_s, g_qa_s, g_al_s, t_i_s, t_a_r, t_a_n, t_a_q, t_l_s, true_and, and_true, and_self, true_or, or_true, Decidable.not_not, not_true_eq_false, not_false_eq_true, false_implies, true_implies, implies_true, j_ok1_s, j_isL, j_cat_i, j_cat_l, j_cat_r, j_cat_n, j_rf_cat, j_rf_some, j_rf_none, k_w8_0, k_w8_i, k_w8_r, k_w8_l, k_sum0, k_ints, k_nari, k_narz0, k_narz1, k_okv0, k_okv1, k_okv2, k_okv2n, k_okv3, Option.toList_some, Option.toList_none, List.cons_append, List.nil_append, List.append_nil, List.map_cons, List.map_nil, List.sum_cons, List.sum_nil, Nat.add_zero, Nat.zero_add, Nat.reduceAdd, Nat.reduceMul, Nat.reduceSub, Nat.reduceDiv, Nat.reduceMod, Nat.reduceLT, Nat.reduceLeDiff, Nat.reduceEqDiff, Nat.reduceBEq, Nat.reduceBNe, Nat.one_ne_zero, Nat.zero_ne_one, Nat.succ_ne_self, Nat.le_refl, Nat.sub_self, Nat.sub_zero, Nat.zero_le, reduceCtorEq, eq_self, Bool.false_eq_true, pk_mul, nI_add, k_in, nI_clamp, nI_eq, nI_ltI, nI_leI, k_upd, k_eq0, k_lt0, k_0le, k_0lt, k_le0, k_mod]
  refine g_calln (mc := 20) (ms := 8411) (by decide) (by decide) (j_right dU (sp_Ref_init (fun F ad' i2 e2 d1 => ?_)))
  simp (disch := first | omega | simp (disch := omega) only [sA_ne, sA_self]) only [st_law_h, j_kX, j_k, List.mem_cons, List.not_mem_nil, or_false, or_self, if_false, if_true, ↓reduceIte, List.getElem?_cons_zero, List.getElem?_cons_succ, List.set_cons_zero, List.set_cons_succ, List.length_cons, List.length_nil, g_ld_s, g_v_s, g_ob_s, g_ia_s, g_la_s, g_qa_s, g_al_s, t_i_s, t_a_r, t_a_n, t_a_q, t_l_s, true_and, and_true, and_self, true_or, or_true, Decidable.not_not, not_true_eq_false, not_false_eq_true, false_implies, true_implies, implies_true, j_ok1_s, j_isL, j_cat_i, j_cat_l, j_cat_r, j_cat_n, j_rf_cat, j_rf_some, j_rf_none, k_w8_0, k_w8_i, k_w8_r, k_w8_l, k_sum0, k_ints, k_nari, k_narz0, k_narz1, k_okv0, k_okv1, k_okv2, k_okv2n, k_okv3, Option.toList_some, Option.toList_none, List.cons_append, List.nil_append, List.append_nil, List.map_cons, List.map_nil, List.sum_cons, List.sum_nil, Nat.add_zero, Nat.zero_add, Nat.reduceAdd, Nat.reduceMul, Nat.reduceSub, Nat.reduceDiv, Nat.reduceMod, Nat.reduceLT, Nat.reduceLeDiff, Nat.reduceEqDiff, Nat.reduceBEq, Nat.reduceBNe, Nat.one_ne_zero, Nat.zero_ne_one, Nat.succ_ne_self, Nat.le_refl, Nat.sub_self, Nat.sub_zero, Nat.zero_le, reduceCtorEq, eq_self, Bool.false_eq_true, pk_mul, nI_add, k_in, nI_clamp, nI_eq, nI_ltI, nI_leI, k_upd, k_eq0, k_lt0, k_0le, k_0lt, k_le0, k_mod]
  have := at28 (lf (v00 L xs)) F ad ad' (lf_le _) i1 i2 d1
  rw [e1, e2] at this
  exact jx_mono (by omega) (by omega) this
