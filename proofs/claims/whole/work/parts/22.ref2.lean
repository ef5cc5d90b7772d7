/-! THE REFERENCE: bounds of its numbers, its rows, spread and tell -/
def rBd (k : Nat) : Nat := match k with
  | 0 => 12 | 1 => 12 | 2 => 7 | 3 => 50 | 4 => 255 | 5 => 1 | 6 => 3 | 7 => 5000 | 8 => 1029 | 9 => 7 | 10 => 5000 | 11 => 4095 | 12 => 3 | 13 => 5000 | 14 => 5000 | 15 => 1029 | 16 => 20 | 17 => 1029 | 18 => 12 | 19 => 500 | 20 => 255 | 21 => 1 | 22 => 80 | _ => 500
def rOK (S : Nat → Nat → Nat) : Prop := ∀ k i, S k i ≤ rBd k
theorem rBd_le (k : Nat) : rBd k ≤ 5000 := by unfold rBd; split <;> decide
theorem rOK.b {S : Nat → Nat → Nat} (h : rOK S) (k i : Nat) : S k i < 1000000 := by
  have := h k i
  have := rBd_le k
  omega
theorem rOK.sa {S : Nat → Nat → Nat} (h : rOK S) {k : Nat} {g : Nat → Nat} (hg : ∀ i, g i ≤ rBd k) : rOK (sA S k g) := by
  intro k' i
  unfold sA
  by_cases e : k' = k
  · rw [if_pos e, e]; exact hg i
  · rw [if_neg e]; exact h k' i
theorem rOK.up {S : Nat → Nat → Nat} (h : rOK S) {k i v : Nat} (hv : v ≤ rBd k) : rOK (sA S k (va_up (S k) i v)) := by
  refine h.sa (fun j => ?_)
  unfold va_up
  split
  · exact hv
  · exact h k j
theorem rPutQ_ok {S : Nat → Nat → Nat} (h : rOK S) {q a : Nat} (ha : a ≤ 1029) : rOK (rPutQ S q a) := by
  unfold rPutQ
  split
  · exact h
  · rename_i c
    have h1 := h 16 q
    have e : S 16 = sA S 17 (va_up (S 17) (20 * q + S 16 q) a) 16 := rfl
    have h2 : rOK (sA S 17 (va_up (S 17) (20 * q + S 16 q) a)) := h.up ha
    have h3 := h2.up (k := 16) (i := q) (v := S 16 q + 1) (by
      have : S 16 q ≤ 20 := h1
      show S 16 q + 1 ≤ 20
      omega)
    exact h3
theorem rPutQ_keeps {S : Nat → Nat → Nat} {q a k : Nat} (h1 : k ≠ 16) (h2 : k ≠ 17) : rPutQ S q a k = S k := by
  unfold rPutQ
  split
  · rfl
  · rw [sA_ne _ _ h1, sA_ne _ _ h2]
theorem rPut_ok {S : Nat → Nat → Nat} (h : rOK S) {r l a : Nat} (ha : a ≤ 1029) : rOK (rPut S r l a) := rPutQ_ok h ha
theorem rPut_keeps {S : Nat → Nat → Nat} {r l a k : Nat} (h1 : k ≠ 16) (h2 : k ≠ 17) : rPut S r l a k = S k := rPutQ_keeps h1 h2
/-- an int within a range of numbers -/
theorem k_rng {v : Int32} {a b : Nat} (hb : b < 2 ^ 31) : (nI a ≤ v ∧ v ≤ nI b) → a < 2 ^ 31 → ∃ j, a ≤ j ∧ j ≤ b ∧ v = nI j := by
  intro ⟨h1, h2⟩ ha
  have h0 : ¬ v < 0 := by
    intro h
    have e1 : (nI a).toInt ≤ v.toInt := Int32.le_iff_toInt_le.mp h1
    have e2 : v.toInt < 0 := by simpa using Int32.lt_iff_toInt_lt.mp h
    rw [nI_toInt ha] at e1
    omega
  obtain ⟨j, hj, rfl⟩ := nI_of h0
  exact ⟨j, (nI_leI ha hj).mp h1, (nI_leI hj hb).mp h2, rfl⟩
theorem k_rng0 {v : Int32} {L : Nat} (hL : L < 2 ^ 30) : (nI 0 ≤ v ∧ v ≤ nI L - nI 1) ↔ ∃ j, j < L ∧ v = nI j := by
  constructor
  · intro ⟨h1, h2⟩
    cases L with
    | zero =>
      exfalso
      have e1 : (nI 0).toInt ≤ v.toInt := Int32.le_iff_toInt_le.mp h1
      have e2 : v.toInt ≤ (nI 0 - nI 1).toInt := Int32.le_iff_toInt_le.mp h2
      have e3 : (nI 0 - nI 1).toInt = -1 := by decide
      have e4 : (nI 0).toInt = 0 := by decide
      omega
    | succ L =>
      rw [pk_sub (by omega), Nat.add_sub_cancel] at h2
      obtain ⟨j, -, hj, rfl⟩ := k_rng (by omega) ⟨h1, h2⟩ (by decide)
      exact ⟨j, by omega, rfl⟩
  · rintro ⟨j, hj, rfl⟩
    refine ⟨(nI_leI (by decide) (by omega)).mpr (Nat.zero_le _), ?_⟩
    rw [pk_sub (by omega)]
    exact (nI_leI (by omega) (by omega)).mpr (by omega)
set_option maxHeartbeats 4000000 in
set_option maxRecDepth 100000 in
theorem sp_Ref_badLink {S : Nat → Nat → Nat} {F : Nat → Int32} {ad : Nat → Nat → Nat} {v : Int32} {post : Option Value → jW → Prop} (hI : n_inj rAl ad) (hS : rOK S) (h0 : ∀ l, l < S 1 0 → v = nI l → post (some (.int (nI 0))) (rW S F ad)) (h1 : (∀ l, l < S 1 0 → ¬ v = nI l) → post (some (.int (nI 1))) (rW S F ad)) : j_sem m_Ref_badLink [.ref (ad 0 0), .int v] (rW S F ad) 0 0 post := by
  refine j_sem_of (by decide +kernel) (Nat.le_of_ble_eq_true rfl) ?_
  show j_S _ _ 0 [some (.ref (ad 0 0)), some (.int v)] [] _ 0 0
  refine j_runs [] ok_Ref_badLink 40 ?_
  have b1 := hS.b 1 0
  simp (disch := first | omega | simp (disch := omega) only [sA_ne, sA_self]) only [st_Ref_badLink, rW_get hI, j_k, List.mem_cons, List.not_mem_nil, or_false, or_self, if_false, if_true, ↓reduceIte, List.getElem?_cons_zero, List.getElem?_cons_succ, List.set_cons_zero, List.set_cons_succ, List.length_cons, List.length_nil, g_ld_s, g_v_s, g_ob_s, g_ia_s, g_la_s, g_qa_s, g_al_s, t_i_s, t_a_r, t_a_n, t_a_q, t_l_s, true_and, and_true, and_self, true_or, or_true, Decidable.not_not, not_true_eq_false, not_false_eq_true, false_implies, true_implies, implies_true, j_ok1_s, j_isL, j_cat_i, j_cat_l, j_cat_r, j_cat_n, j_rf_cat, j_rf_some, j_rf_none, k_w8_0, k_w8_i, k_w8_r, k_w8_l, k_sum0, k_ints, k_nari, k_narz0, k_narz1, k_okv0, k_okv1, k_okv2, k_okv2n, k_okv3, Option.toList_some, Option.toList_none, List.cons_append, List.nil_append, List.append_nil, List.map_cons, List.map_nil, List.sum_cons, List.sum_nil, Nat.add_zero, Nat.zero_add, Nat.reduceAdd, Nat.reduceMul, Nat.reduceSub, Nat.reduceDiv, Nat.reduceMod, Nat.reduceLT, Nat.reduceLeDiff, Nat.reduceEqDiff, Nat.reduceBEq, Nat.reduceBNe, Nat.one_ne_zero, Nat.zero_ne_one, Nat.succ_ne_self, Nat.le_refl, Nat.sub_self, Nat.sub_zero, Nat.zero_le, reduceCtorEq, eq_self, Bool.false_eq_true, pk_mul, nI_add, k_in, nI_clamp, nI_eq, nI_ltI, nI_leI, k_upd, k_eq0, k_lt0, k_0le, k_0lt, k_le0, k_mod]
  refine g_call0 (sp_Ref_in (fun c => ?_) (fun c => ?_))
  · obtain ⟨j, hj, e⟩ := (k_rng0 (by omega)).mp c
    simp (disch := first | omega | simp (disch := omega) only [sA_ne, sA_self]) only [st_Ref_badLink, rW_get hI, j_k, List.mem_cons, List.not_mem_nil, or_false, or_self, if_false, if_true, ↓reduceIte, List.getElem?_cons_zero, List.getElem?_cons_succ, List.set_cons_zero, List.set_cons_succ, List.length_cons, List.length_nil, g_ld_s, g_v_s, g_ob_s, g_ia_s, g_la_s, g_qa_s, g_al_s, t_i_s, t_a_r, t_a_n, t_a_q, t_l_s, true_and, and_true, and_self, true_or, or_true, Decidable.not_not, not_true_eq_false, not_false_eq_true, false_implies, true_implies, implies_true, j_ok1_s, j_isL, j_cat_i, j_cat_l, j_cat_r, j_cat_n, j_rf_cat, j_rf_some, j_rf_none, k_w8_0, k_w8_i, k_w8_r, k_w8_l, k_sum0, k_ints, k_nari, k_narz0, k_narz1, k_okv0, k_okv1, k_okv2, k_okv2n, k_okv3, Option.toList_some, Option.toList_none, List.cons_append, List.nil_append, List.append_nil, List.map_cons, List.map_nil, List.sum_cons, List.sum_nil, Nat.add_zero, Nat.zero_add, Nat.reduceAdd, Nat.reduceMul, Nat.reduceSub, Nat.reduceDiv, Nat.reduceMod, Nat.reduceLT, Nat.reduceLeDiff, Nat.reduceEqDiff, Nat.reduceBEq, Nat.reduceBNe, Nat.one_ne_zero, Nat.zero_ne_one, Nat.succ_ne_self, Nat.le_refl, Nat.sub_self, Nat.sub_zero, Nat.zero_le, reduceCtorEq, eq_self, Bool.false_eq_true, pk_mul, nI_add, k_in, nI_clamp, nI_eq, nI_ltI, nI_leI, k_upd, k_eq0, k_lt0, k_0le, k_0lt, k_le0, k_mod]
    exact h0 j hj e
  · simp (disch := first | omega | simp (disch := omega) only [sA_ne, sA_self]) only [st_Ref_badLink, rW_get hI, j_k, List.mem_cons, List.not_mem_nil, or_false, or_self, if_false, if_true, ↓reduceIte, List.getElem?_cons_zero, List.getElem?_cons_succ, List.set_cons_zero, List.set_cons_succ, List.length_cons, List.length_nil, g_ld_s, g_v_s, g_ob_s, g_ia_s, g_la_s, g_qa_s, g_al_s, t_i_s, t_a_r, t_a_n, t_a_q, t_l_s, true_and, and_true, and_self, true_or, or_true, Decidable.not_not, not_true_eq_false, not_false_eq_true, false_implies, true_implies, implies_true, j_ok1_s, j_isL, j_cat_i, j_cat_l, j_cat_r, j_cat_n, j_rf_cat, j_rf_some, j_rf_none, k_w8_0, k_w8_i, k_w8_r, k_w8_l, k_sum0, k_ints, k_nari, k_narz0, k_narz1, k_okv0, k_okv1, k_okv2, k_okv2n, k_okv3, Option.toList_some, Option.toList_none, List.cons_append, List.nil_append, List.append_nil, List.map_cons, List.map_nil, List.sum_cons, List.sum_nil, Nat.add_zero, Nat.zero_add, Nat.reduceAdd, Nat.reduceMul, Nat.reduceSub, Nat.reduceDiv, Nat.reduceMod, Nat.reduceLT, Nat.reduceLeDiff, Nat.reduceEqDiff, Nat.reduceBEq, Nat.reduceBNe, Nat.one_ne_zero, Nat.zero_ne_one, Nat.succ_ne_self, Nat.le_refl, Nat.sub_self, Nat.sub_zero, Nat.zero_le, reduceCtorEq, eq_self, Bool.false_eq_true, pk_mul, nI_add, k_in, nI_clamp, nI_eq, nI_ltI, nI_leI, k_upd, k_eq0, k_lt0, k_0le, k_0lt, k_le0, k_mod]
    exact h1 (fun l hl e => c ((k_rng0 (by omega)).mpr ⟨l, hl, e⟩))
set_option maxHeartbeats 4000000 in
set_option maxRecDepth 100000 in
theorem sp_Ref_badRow {S : Nat → Nat → Nat} {F : Nat → Int32} {ad : Nat → Nat → Nat} {v d : Int32} {post : Option Value → jW → Prop} (hI : n_inj rAl ad) (hS : rOK S) (h0 : ∀ l e, l < S 1 0 → e < 2 → v = nI l → d = nI e → post (some (.int (nI 0))) (rW S F ad)) (h1 : (∀ l e, l < S 1 0 → e < 2 → ¬ (v = nI l ∧ d = nI e)) → post (some (.int (nI 1))) (rW S F ad)) : j_sem m_Ref_badRow [.ref (ad 0 0), .int v, .int d] (rW S F ad) 0 0 post := by
  refine j_sem_of (by decide +kernel) (Nat.le_of_ble_eq_true rfl) ?_
  show j_S _ _ 0 [some (.ref (ad 0 0)), some (.int v), some (.int d)] [] _ 0 0
  refine j_runs [] ok_Ref_badRow 40 ?_
  simp (disch := first | omega | simp (disch := omega) only [sA_ne, sA_self]) only [st_Ref_badRow, rW_get hI, j_k, List.mem_cons, List.not_mem_nil, or_false, or_self, if_false, if_true, ↓reduceIte, List.getElem?_cons_zero, List.getElem?_cons_succ, List.set_cons_zero, List.set_cons_succ, List.length_cons, List.length_nil, g_ld_s, g_v_s, g_ob_s, g_ia_s, g_la_s, g_qa_s, g_al_s, t_i_s, t_a_r, t_a_n, t_a_q, t_l_s, true_and, and_true, and_self, true_or, or_true, Decidable.not_not, not_true_eq_false, not_false_eq_true, false_implies, true_implies, implies_true, j_ok1_s, j_isL, j_cat_i, j_cat_l, j_cat_r, j_cat_n, j_rf_cat, j_rf_some, j_rf_none, k_w8_0, k_w8_i, k_w8_r, k_w8_l, k_sum0, k_ints, k_nari, k_narz0, k_narz1, k_okv0, k_okv1, k_okv2, k_okv2n, k_okv3, Option.toList_some, Option.toList_none, List.cons_append, List.nil_append, List.append_nil, List.map_cons, List.map_nil, List.sum_cons, List.sum_nil, Nat.add_zero, Nat.zero_add, Nat.reduceAdd, Nat.reduceMul, Nat.reduceSub, Nat.reduceDiv, Nat.reduceMod, Nat.reduceLT, Nat.reduceLeDiff, Nat.reduceEqDiff, Nat.reduceBEq, Nat.reduceBNe, Nat.one_ne_zero, Nat.zero_ne_one, Nat.succ_ne_self, Nat.le_refl, Nat.sub_self, Nat.sub_zero, Nat.zero_le, reduceCtorEq, eq_self, Bool.false_eq_true, pk_mul, nI_add, k_in, nI_clamp, nI_eq, nI_ltI, nI_leI, k_upd, k_eq0, k_lt0, k_0le, k_0lt, k_le0, k_mod]
  refine g_call0 (sp_Ref_badLink hI hS (fun l hl e => ?_) (fun c => ?_))
  · simp (disch := first | omega | simp (disch := omega) only [sA_ne, sA_self]) only [st_Ref_badRow, rW_get hI, j_k, List.mem_cons, List.not_mem_nil, or_false, or_self, if_false, if_true, ↓reduceIte, List.getElem?_cons_zero, List.getElem?_cons_succ, List.set_cons_zero, List.set_cons_succ, List.length_cons, List.length_nil, g_ld_s, g_v_s, g_ob_s, g_ia_s, g_la_s, g_qa_s, g_al_s, t_i_s, t_a_r, t_a_n, t_a_q, t_l_s, true_and, and_true, and_self, true_or, or_true, Decidable.not_not, not_true_eq_false, not_false_eq_true, false_implies, true_implies, implies_true, j_ok1_s, j_isL, j_cat_i, j_cat_l, j_cat_r, j_cat_n, j_rf_cat, j_rf_some, j_rf_none, k_w8_0, k_w8_i, k_w8_r, k_w8_l, k_sum0, k_ints, k_nari, k_narz0, k_narz1, k_okv0, k_okv1, k_okv2, k_okv2n, k_okv3, Option.toList_some, Option.toList_none, List.cons_append, List.nil_append, List.append_nil, List.map_cons, List.map_nil, List.sum_cons, List.sum_nil, Nat.add_zero, Nat.zero_add, Nat.reduceAdd, Nat.reduceMul, Nat.reduceSub, Nat.reduceDiv, Nat.reduceMod, Nat.reduceLT, Nat.reduceLeDiff, Nat.reduceEqDiff, Nat.reduceBEq, Nat.reduceBNe, Nat.one_ne_zero, Nat.zero_ne_one, Nat.succ_ne_self, Nat.le_refl, Nat.sub_self, Nat.sub_zero, Nat.zero_le, reduceCtorEq, eq_self, Bool.false_eq_true, pk_mul, nI_add, k_in, nI_clamp, nI_eq, nI_ltI, nI_leI, k_upd, k_eq0, k_lt0, k_0le, k_0lt, k_le0, k_mod]
    refine g_call0 (sp_Ref_in (fun c => ?_) (fun c => ?_))
    · obtain ⟨j, -, hj, ej⟩ := k_rng (by decide) c (by decide)
      simp (disch := first | omega | simp (disch := omega) only [sA_ne, sA_self]) only [st_Ref_badRow, rW_get hI, j_k, List.mem_cons, List.not_mem_nil, or_false, or_self, if_false, if_true, ↓reduceIte, List.getElem?_cons_zero, List.getElem?_cons_succ, List.set_cons_zero, List.set_cons_succ, List.length_cons, List.length_nil, g_ld_s, g_v_s, g_ob_s, g_ia_s, g_la_s, g_qa_s, g_al_s, t_i_s, t_a_r, t_a_n, t_a_q, t_l_s, true_and, and_true, and_self, true_or, or_true, Decidable.not_not, not_true_eq_false, not_false_eq_true, false_implies, true_implies, implies_true, j_ok1_s, j_isL, j_cat_i, j_cat_l, j_cat_r, j_cat_n, j_rf_cat, j_rf_some, j_rf_none, k_w8_0, k_w8_i, k_w8_r, k_w8_l, k_sum0, k_ints, k_nari, k_narz0, k_narz1, k_okv0, k_okv1, k_okv2, k_okv2n, k_okv3, Option.toList_some, Option.toList_none, List.cons_append, List.nil_append, List.append_nil, List.map_cons, List.map_nil, List.sum_cons, List.sum_nil, Nat.add_zero, Nat.zero_add, Nat.reduceAdd, Nat.reduceMul, Nat.reduceSub, Nat.reduceDiv, Nat.reduceMod, Nat.reduceLT, Nat.reduceLeDiff, Nat.reduceEqDiff, Nat.reduceBEq, Nat.reduceBNe, Nat.one_ne_zero, Nat.zero_ne_one, Nat.succ_ne_self, Nat.le_refl, Nat.sub_self, Nat.sub_zero, Nat.zero_le, reduceCtorEq, eq_self, Bool.false_eq_true, pk_mul, nI_add, k_in, nI_clamp, nI_eq, nI_ltI, nI_leI, k_upd, k_eq0, k_lt0, k_0le, k_0lt, k_le0, k_mod]
      exact h0 l j hl (by omega) e ej
    · simp (disch := first | omega | simp (disch := omega) only [sA_ne, sA_self]) only [st_Ref_badRow, rW_get hI, j_k, List.mem_cons, List.not_mem_nil, or_false, or_self, if_false, if_true, ↓reduceIte, List.getElem?_cons_zero, List.getElem?_cons_succ, List.set_cons_zero, List.set_cons_succ, List.length_cons, List.length_nil, g_ld_s, g_v_s, g_ob_s, g_ia_s, g_la_s, g_qa_s, g_al_s, t_i_s, t_a_r, t_a_n, t_a_q, t_l_s, true_and, and_true, and_self, true_or, or_true, Decidable.not_not, not_true_eq_false, not_false_eq_true, false_implies, true_implies, implies_true, j_ok1_s, j_isL, j_cat_i, j_cat_l, j_cat_r, j_cat_n, j_rf_cat, j_rf_some, j_rf_none, k_w8_0, k_w8_i, k_w8_r, k_w8_l, k_sum0, k_ints, k_nari, k_narz0, k_narz1, k_okv0, k_okv1, k_okv2, k_okv2n, k_okv3, Option.toList_some, Option.toList_none, List.cons_append, List.nil_append, List.append_nil, List.map_cons, List.map_nil, List.sum_cons, List.sum_nil, Nat.add_zero, Nat.zero_add, Nat.reduceAdd, Nat.reduceMul, Nat.reduceSub, Nat.reduceDiv, Nat.reduceMod, Nat.reduceLT, Nat.reduceLeDiff, Nat.reduceEqDiff, Nat.reduceBEq, Nat.reduceBNe, Nat.one_ne_zero, Nat.zero_ne_one, Nat.succ_ne_self, Nat.le_refl, Nat.sub_self, Nat.sub_zero, Nat.zero_le, reduceCtorEq, eq_self, Bool.false_eq_true, pk_mul, nI_add, k_in, nI_clamp, nI_eq, nI_ltI, nI_leI, k_upd, k_eq0, k_lt0, k_0le, k_0lt, k_le0, k_mod]
      refine h1 (fun l e hl he q => c ?_)
      rw [q.2]
      exact ⟨(nI_leI (by decide) (by omega)).mpr (by omega), (nI_leI (by omega) (by decide)).mpr (by omega)⟩
  · simp (disch := first | omega | simp (disch := omega) only [sA_ne, sA_self]) only [st_Ref_badRow, rW_get hI, j_k, List.mem_cons, List.not_mem_nil, or_false, or_self, if_false, if_true, ↓reduceIte, List.getElem?_cons_zero, List.getElem?_cons_succ, List.set_cons_zero, List.set_cons_succ, List.length_cons, List.length_nil, g_ld_s, g_v_s, g_ob_s, g_ia_s, g_la_s, g_qa_s, g_al_s, t_i_s, t_a_r, t_a_n, t_a_q, t_l_s, true_and, and_true, and_self, true_or, or_true, Decidable.not_not, not_true_eq_false, not_false_eq_true, false_implies, true_implies, implies_true, j_ok1_s, j_isL, j_cat_i, j_cat_l, j_cat_r, j_cat_n, j_rf_cat, j_rf_some, j_rf_none, k_w8_0, k_w8_i, k_w8_r, k_w8_l, k_sum0, k_ints, k_nari, k_narz0, k_narz1, k_okv0, k_okv1, k_okv2, k_okv2n, k_okv3, Option.toList_some, Option.toList_none, List.cons_append, List.nil_append, List.append_nil, List.map_cons, List.map_nil, List.sum_cons, List.sum_nil, Nat.add_zero, Nat.zero_add, Nat.reduceAdd, Nat.reduceMul, Nat.reduceSub, Nat.reduceDiv, Nat.reduceMod, Nat.reduceLT, Nat.reduceLeDiff, Nat.reduceEqDiff, Nat.reduceBEq, Nat.reduceBNe, Nat.one_ne_zero, Nat.zero_ne_one, Nat.succ_ne_self, Nat.le_refl, Nat.sub_self, Nat.sub_zero, Nat.zero_le, reduceCtorEq, eq_self, Bool.false_eq_true, pk_mul, nI_add, k_in, nI_clamp, nI_eq, nI_ltI, nI_leI, k_upd, k_eq0, k_lt0, k_0le, k_0lt, k_le0, k_mod]
    exact h1 (fun l e hl he q => c l hl q.1)
/-- the adverts that spread puts: links below n -/
def rSpr (S : Nat → Nat → Nat) (r a b : Nat) : Nat → Nat → Nat → Nat
  | 0 => S
  | l + 1 => if (S 2 (2 * l) = r ∨ S 2 (2 * l + 1) = r) ∧ S 5 l = 1 ∧ l ≠ b then rPut (rSpr S r a b l) r l a else rSpr S r a b l
theorem rSpr_ok {S : Nat → Nat → Nat} (h : rOK S) {r a b : Nat} (ha : a ≤ 1029) : ∀ n, rOK (rSpr S r a b n)
  | 0 => h
  | l + 1 => by
    unfold rSpr
    split
    · exact rPut_ok (rSpr_ok h ha l) ha
    · exact rSpr_ok h ha l
theorem rSpr_keeps {S : Nat → Nat → Nat} {r a b k : Nat} (h1 : k ≠ 16) (h2 : k ≠ 17) : ∀ n, rSpr S r a b n k = S k
  | 0 => rfl
  | l + 1 => by
    unfold rSpr
    split
    · rw [rPut_keeps h1 h2]; exact rSpr_keeps h1 h2 l
    · exact rSpr_keeps h1 h2 l
