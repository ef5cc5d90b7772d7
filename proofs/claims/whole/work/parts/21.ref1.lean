set_option maxHeartbeats 4000000 in
set_option maxRecDepth 100000 in
theorem sp_Ref_in {v lo hi : Int32} {w : jW} {post : Option Value → jW → Prop} (h1 : lo ≤ v ∧ v ≤ hi → post (some (.int (nI 1))) w) (h0 : ¬ (lo ≤ v ∧ v ≤ hi) → post (some (.int (nI 0))) w) : j_sem m_Ref_in [.int v, .int lo, .int hi] w 0 0 post := by
  refine j_sem_of (by decide +kernel) (Nat.le_of_ble_eq_true rfl) ?_
  show j_S _ _ 0 [some (.int v), some (.int lo), some (.int hi)] [] _ 0 0
  refine j_runs [] ok_Ref_in 40 ?_
  simp only [st_Ref_in, j_k, List.mem_cons, List.not_mem_nil, or_false, or_self, if_false, if_true, ↓reduceIte, List.getElem?_cons_zero, List.getElem?_cons_succ, List.set_cons_zero, List.set_cons_succ, List.length_cons, List.length_nil, g_ld_s, g_v_s, g_ob_s, g_ia_s, g_la_s, g_qa_s, g_al_s, t_i_s, t_a_r, t_a_n, t_a_q, t_l_s, true_and, and_true, and_self, true_or, or_true, Decidable.not_not, not_true_eq_false, not_false_eq_true, false_implies, true_implies, implies_true, j_ok1_s, j_isL, j_cat_i, j_cat_l, j_cat_r, j_cat_n, j_rf_cat, j_rf_some, j_rf_none, k_w8_0, k_w8_i, k_w8_r, k_w8_l, k_sum0, k_ints, k_nari, k_narz0, k_narz1, k_okv0, k_okv1, k_okv2, k_okv2n, k_okv3, Option.toList_some, Option.toList_none, List.cons_append, List.nil_append, List.append_nil, List.map_cons, List.map_nil, List.sum_cons, List.sum_nil, Nat.add_zero, Nat.zero_add, Nat.reduceAdd, Nat.reduceMul, Nat.reduceSub, Nat.reduceDiv, Nat.reduceMod, Nat.reduceLT, Nat.reduceLeDiff, Nat.reduceEqDiff, Nat.reduceBEq, Nat.reduceBNe, Nat.one_ne_zero, Nat.zero_ne_one, Nat.succ_ne_self, Nat.le_refl, Nat.sub_self, Nat.sub_zero, Nat.zero_le, reduceCtorEq, eq_self, Bool.false_eq_true]
  refine ⟨fun h => h0 (fun q => ?_), fun h => ⟨fun h' => h0 (fun q => ?_), fun h' => h1 ⟨Int32.not_lt.mp h, Int32.not_lt.mp h'⟩⟩⟩
  · exact absurd q.1 (Int32.not_le.mpr h)
  · exact absurd q.2 (Int32.not_le.mpr h')
/-- the row of link l away from router r -/
def rQ (S : Nat → Nat → Nat) (r l : Nat) : Nat := 2 * l + (if S 2 (2 * l) = r then 0 else 1)
def rPutQ (S : Nat → Nat → Nat) (q a : Nat) : Nat → Nat → Nat := if S 16 q = 20 then S else sA (sA S 17 (va_up (S 17) (20 * q + S 16 q) a)) 16 (va_up (S 16) q (S 16 q + 1))
def rPut (S : Nat → Nat → Nat) (r l a : Nat) : Nat → Nat → Nat := rPutQ S (rQ S r l) a
set_option maxHeartbeats 4000000 in
set_option maxRecDepth 100000 in
theorem sp_Ref_put {S : Nat → Nat → Nat} {F : Nat → Int32} {ad : Nat → Nat → Nat} {r l a : Nat} {post : Option Value → jW → Prop} (hI : n_inj rAl ad) (hB : ∀ k i, S k i < 1000000) (hQ : ∀ q, S 16 q ≤ 20) (hl : l < 12) (hr : r < 1000) (h : post none (rW (rPut S r l a) F ad)) : j_sem m_Ref_put [.ref (ad 0 0), .int (nI r), .int (nI l), .int (nI a)] (rW S F ad) 0 0 post := by
  refine j_sem_of (by decide +kernel) (Nat.le_of_ble_eq_true rfl) ?_
  show j_S _ _ 0 [some (.ref (ad 0 0)), some (.int (nI r)), some (.int (nI l)), some (.int (nI a)), none] [] _ 0 0
  refine j_runs [23] ok_Ref_put 60 ?_
  have b1 := hB 2 (2 * l)
  simp (disch := first | omega | simp (disch := omega) only [sA_ne, sA_self]) only [st_Ref_put, rW_get hI, j_k, List.mem_cons, List.not_mem_nil, or_false, or_self, if_false, if_true, ↓reduceIte, List.getElem?_cons_zero, List.getElem?_cons_succ, List.set_cons_zero, List.set_cons_succ, List.length_cons, List.length_nil, g_ld_s, g_v_s, g_ob_s, g_ia_s, g_la_s, g_qa_s, g_al_s, t_i_s, t_a_r, t_a_n, t_a_q, t_l_s, true_and, and_true, and_self, true_or, or_true, Decidable.not_not, not_true_eq_false, not_false_eq_true, false_implies, true_implies, implies_true, j_ok1_s, j_isL, j_cat_i, j_cat_l, j_cat_r, j_cat_n, j_rf_cat, j_rf_some, j_rf_none, k_w8_0, k_w8_i, k_w8_r, k_w8_l, k_sum0, k_ints, k_nari, k_narz0, k_narz1, k_okv0, k_okv1, k_okv2, k_okv2n, k_okv3, Option.toList_some, Option.toList_none, List.cons_append, List.nil_append, List.append_nil, List.map_cons, List.map_nil, List.sum_cons, List.sum_nil, Nat.add_zero, Nat.zero_add, Nat.reduceAdd, Nat.reduceMul, Nat.reduceSub, Nat.reduceDiv, Nat.reduceMod, Nat.reduceLT, Nat.reduceLeDiff, Nat.reduceEqDiff, Nat.reduceBEq, Nat.reduceBNe, Nat.one_ne_zero, Nat.zero_ne_one, Nat.succ_ne_self, Nat.le_refl, Nat.sub_self, Nat.sub_zero, Nat.zero_le, reduceCtorEq, eq_self, Bool.false_eq_true, pk_mul, nI_add, k_in, nI_clamp, nI_eq, nI_ltI, nI_leI, k_upd, k_eq0, k_lt0, k_0le, k_0lt, k_le0, k_mod]
  have key : ∀ q, q < 24 → rQ S r l = q → j_S m_Ref_put post 23 [some (.ref (ad 0 0)), some (.int (nI r)), some (.int (nI l)), some (.int (nI a)), some (.int (nI q))] [] (rW S F ad) 0 0 := by
    intro q hq eq
    refine j_runs [] ok_Ref_put 60 ?_
    have b2 := hB 16 q
    have b3 := hQ q
    simp (disch := first | omega | simp (disch := omega) only [sA_ne, sA_self]) only [st_Ref_put, rW_get hI, rW_put hI, j_k, List.mem_cons, List.not_mem_nil, or_false, or_self, if_false, if_true, ↓reduceIte, List.getElem?_cons_zero, List.getElem?_cons_succ, List.set_cons_zero, List.set_cons_succ, List.length_cons, List.length_nil, g_ld_s, g_v_s, g_ob_s, g_ia_s, g_la_s, g_qa_s, g_al_s, t_i_s, t_a_r, t_a_n, t_a_q, t_l_s, true_and, and_true, and_self, true_or, or_true, Decidable.not_not, not_true_eq_false, not_false_eq_true, false_implies, true_implies, implies_true, j_ok1_s, j_isL, j_cat_i, j_cat_l, j_cat_r, j_cat_n, j_rf_cat, j_rf_some, j_rf_none, k_w8_0, k_w8_i, k_w8_r, k_w8_l, k_sum0, k_ints, k_nari, k_narz0, k_narz1, k_okv0, k_okv1, k_okv2, k_okv2n, k_okv3, Option.toList_some, Option.toList_none, List.cons_append, List.nil_append, List.append_nil, List.map_cons, List.map_nil, List.sum_cons, List.sum_nil, Nat.add_zero, Nat.zero_add, Nat.reduceAdd, Nat.reduceMul, Nat.reduceSub, Nat.reduceDiv, Nat.reduceMod, Nat.reduceLT, Nat.reduceLeDiff, Nat.reduceEqDiff, Nat.reduceBEq, Nat.reduceBNe, Nat.one_ne_zero, Nat.zero_ne_one, Nat.succ_ne_self, Nat.le_refl, Nat.sub_self, Nat.sub_zero, Nat.zero_le, reduceCtorEq, eq_self, Bool.false_eq_true, pk_mul, nI_add, k_in, nI_clamp, nI_eq, nI_ltI, nI_leI, k_upd, k_eq0, k_lt0, k_0le, k_0lt, k_le0, k_mod]
    refine ⟨fun c => ?_, fun c => ?_⟩
    · simp (disch := first | omega | simp (disch := omega) only [sA_ne, sA_self]) only [st_Ref_put, rW_get hI, rW_put hI, j_k, List.mem_cons, List.not_mem_nil, or_false, or_self, if_false, if_true, ↓reduceIte, List.getElem?_cons_zero, List.getElem?_cons_succ, List.set_cons_zero, List.set_cons_succ, List.length_cons, List.length_nil, g_ld_s, g_v_s, g_ob_s, g_ia_s, g_la_s, g_qa_s, g_al_s, t_i_s, t_a_r, t_a_n, t_a_q, t_l_s, true_and, and_true, and_self, true_or, or_true, Decidable.not_not, not_true_eq_false, not_false_eq_true, false_implies, true_implies, implies_true, j_ok1_s, j_isL, j_cat_i, j_cat_l, j_cat_r, j_cat_n, j_rf_cat, j_rf_some, j_rf_none, k_w8_0, k_w8_i, k_w8_r, k_w8_l, k_sum0, k_ints, k_nari, k_narz0, k_narz1, k_okv0, k_okv1, k_okv2, k_okv2n, k_okv3, Option.toList_some, Option.toList_none, List.cons_append, List.nil_append, List.append_nil, List.map_cons, List.map_nil, List.sum_cons, List.sum_nil, Nat.add_zero, Nat.zero_add, Nat.reduceAdd, Nat.reduceMul, Nat.reduceSub, Nat.reduceDiv, Nat.reduceMod, Nat.reduceLT, Nat.reduceLeDiff, Nat.reduceEqDiff, Nat.reduceBEq, Nat.reduceBNe, Nat.one_ne_zero, Nat.zero_ne_one, Nat.succ_ne_self, Nat.le_refl, Nat.sub_self, Nat.sub_zero, Nat.zero_le, reduceCtorEq, eq_self, Bool.false_eq_true, pk_mul, nI_add, k_in, nI_clamp, nI_eq, nI_ltI, nI_leI, k_upd, k_eq0, k_lt0, k_0le, k_0lt, k_le0, k_mod, sA]
      unfold rPut rPutQ at h
      rw [eq, if_neg c] at h
      exact h
    · unfold rPut rPutQ at h
      rw [eq, if_pos c] at h
      exact h
  refine ⟨fun c => key _ (by omega) ?_, fun c => key _ (by omega) ?_⟩
  · unfold rQ; rw [if_neg c]
  · unfold rQ; rw [if_pos c]; rfl
