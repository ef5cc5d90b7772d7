/-- those behind k move up: places k .. j of n -/
def rSft (g : Nat → Nat) (b k : Nat) : Nat → Nat → Nat
  | 0 => g
  | j + 1 => if k ≤ j then va_up (rSft g b k j) (b + j) (g (b + j + 1)) else rSft g b k j
theorem rSft_hi (g : Nat → Nat) (b k : Nat) : ∀ j i, b + j ≤ i → rSft g b k j i = g i
  | 0, i, h => rfl
  | j + 1, i, h => by
    unfold rSft
    split
    · rw [va_up_ne _ _ (by omega)]; exact rSft_hi g b k j i (by omega)
    · exact rSft_hi g b k j i (by omega)
theorem rSft_le {g : Nat → Nat} {b k m : Nat} (h : ∀ i, g i ≤ m) : ∀ j i, rSft g b k j i ≤ m
  | 0, i => h i
  | j + 1, i => by
    unfold rSft
    split
    · unfold va_up
      split
      · exact h _
      · exact rSft_le h j i
    · exact rSft_le h j i
theorem rSft_k (g : Nat → Nat) (b k : Nat) : ∀ j, j ≤ k → rSft g b k j = g
  | 0, _ => rfl
  | j + 1, h => by
    unfold rSft
    rw [if_neg (by omega)]
    exact rSft_k g b k j (by omega)
theorem rSft_at (g : Nat → Nat) (b k i : Nat) : ∀ j, rSft g b k j i = if b + k ≤ i ∧ i < b + j then g (i + 1) else g i
  | 0 => by
    unfold rSft
    rw [if_neg (by omega)]
  | j + 1 => by
    unfold rSft
    by_cases hk : k ≤ j
    · rw [if_pos hk]
      by_cases e : i = b + j
      · subst e
        rw [va_up_self, if_pos (by omega)]
      · rw [va_up_ne _ _ e, rSft_at g b k i j]
        by_cases c : b + k ≤ i ∧ i < b + j
        · rw [if_pos c, if_pos (by omega)]
        · rw [if_neg c, if_neg (by omega)]
    · rw [if_neg hk, rSft_at g b k i j, if_neg (by omega), if_neg (by omega)]
abbrev wdV (S : Nat → Nat → Nat) (v1 v2 : Int32) : Prop := inR v1 0 7 ∧ (nI 0 ≤ v2 ∧ v2 ≤ nI (S 6 (N v1)) - nI 1)
def rWd1 (S : Nat → Nat → Nat) (r k : Nat) : Nat → Nat → Nat := sA (sA S 6 (va_up (S 6) r (S 6 r - 1))) 7 (rSft (S 7) (3 * r) k (S 6 r - 1))
def rWd (S : Nat → Nat → Nat) (v1 v2 : Int32) : Int32 × (Nat → Nat → Nat) := if wdV S v1 v2 then (nI (S 6 (N v1) - 1), rTell (rWd1 S (N v1) (N v2)) (N v1)) else (-1, S)
theorem rWd1_T2 {S : Nat → Nat → Nat} (h : rT2 S) {r k : Nat} : rT2 (rWd1 S r k) := by
  have b : S 6 r ≤ 3 := h.1 6 r
  refine ⟨?_, h.2⟩
  have a1 : rOK (sA S 6 (va_up (S 6) r (S 6 r - 1))) := h.1.up (k := 6) (show S 6 r - 1 ≤ 3 by omega)
  exact a1.sa (k := 7) (fun i => rSft_le (h.1 7) _ i)
set_option maxHeartbeats 4000000 in
set_option maxRecDepth 100000 in
theorem sp_Ref_withdraw {S : Nat → Nat → Nat} {F : Nat → Int32} {ad : Nat → Nat → Nat} {v1 v2 : Int32} {post : Option Value → jW → Prop} (hI : n_inj rAl ad) (hT : rT2 S) (h : post (some (.int (rWd S v1 v2).1)) (rW (rWd S v1 v2).2 F ad)) : j_sem m_Ref_withdraw [.ref (ad 0 0), .int v1, .int v2] (rW S F ad) 0 0 post := by
  refine j_sem_of (by decide +kernel) (Nat.le_of_ble_eq_true rfl) ?_
  show j_S _ _ 0 [some (.ref (ad 0 0)), some (.int v1), some (.int v2), none] [] _ 0 0
  have hS := hT.1
  have bad : ¬ wdV S v1 v2 → j_S m_Ref_withdraw post 26 [some (.ref (ad 0 0)), some (.int v1), some (.int v2), none] [] (rW S F ad) 0 0 := by
    intro c
    refine j_runs [] ok_Ref_withdraw 8 ?_
    simp (disch := first | omega | simp (disch := omega) only [sA_ne, sA_self]) only [st_Ref_withdraw, j_k, List.mem_cons, List.not_mem_nil, or_false, or_self, if_false, if_true, ↓reduceIte, List.getElem?_cons_zero, List.getElem?_cons_succ, List.set_cons_zero, List.set_cons_succ, List.length_cons, List.length_nil, g_ld_s, g_v_s, g_ob_s, g_ia_s, g_la_s, g_qa_s, g_al_s, t_i_s, t_a_r, t_a_n, t_a_q, t_l_s, true_and, and_true, and_self, true_or, or_true, Decidable.not_not, not_true_eq_false, not_false_eq_true, false_implies, true_implies, implies_true, j_ok1_s, j_isL, j_cat_i, j_cat_l, j_cat_r, j_cat_n, j_rf_cat, j_rf_some, j_rf_none, k_w8_0, k_w8_i, k_w8_r, k_w8_l, k_sum0, k_ints, k_nari, k_narz0, k_narz1, k_okv0, k_okv1, k_okv2, k_okv2n, k_okv3, Option.toList_some, Option.toList_none, List.cons_append, List.nil_append, List.append_nil, List.map_cons, List.map_nil, List.sum_cons, List.sum_nil, Nat.add_zero, Nat.zero_add, Nat.reduceAdd, Nat.reduceMul, Nat.reduceSub, Nat.reduceDiv, Nat.reduceMod, Nat.reduceLT, Nat.reduceLeDiff, Nat.reduceEqDiff, Nat.reduceBEq, Nat.reduceBNe, Nat.one_ne_zero, Nat.zero_ne_one, Nat.succ_ne_self, Nat.le_refl, Nat.sub_self, Nat.sub_zero, Nat.zero_le, reduceCtorEq, eq_self, Bool.false_eq_true]
    unfold rWd at h
    rw [if_neg c] at h
    exact h
  refine j_runs [26, 40] ok_Ref_withdraw 200 ?_
  simp (disch := first | omega | simp (disch := omega) only [sA_ne, sA_self]) only [st_Ref_withdraw, j_k, List.mem_cons, List.not_mem_nil, or_false, or_self, if_false, if_true, ↓reduceIte, List.getElem?_cons_zero, List.getElem?_cons_succ, List.set_cons_zero, List.set_cons_succ, List.length_cons, List.length_nil, g_ld_s, g_v_s, g_ob_s, g_ia_s, g_la_s, g_qa_s, g_al_s, t_i_s, t_a_r, t_a_n, t_a_q, t_l_s, true_and, and_true, and_self, true_or, or_true, Decidable.not_not, not_true_eq_false, not_false_eq_true, false_implies, true_implies, implies_true, j_ok1_s, j_isL, j_cat_i, j_cat_l, j_cat_r, j_cat_n, j_rf_cat, j_rf_some, j_rf_none, k_w8_0, k_w8_i, k_w8_r, k_w8_l, k_sum0, k_ints, k_nari, k_narz0, k_narz1, k_okv0, k_okv1, k_okv2, k_okv2n, k_okv3, Option.toList_some, Option.toList_none, List.cons_append, List.nil_append, List.append_nil, List.map_cons, List.map_nil, List.sum_cons, List.sum_nil, Nat.add_zero, Nat.zero_add, Nat.reduceAdd, Nat.reduceMul, Nat.reduceSub, Nat.reduceDiv, Nat.reduceMod, Nat.reduceLT, Nat.reduceLeDiff, Nat.reduceEqDiff, Nat.reduceBEq, Nat.reduceBNe, Nat.one_ne_zero, Nat.zero_ne_one, Nat.succ_ne_self, Nat.le_refl, Nat.sub_self, Nat.sub_zero, Nat.zero_le, reduceCtorEq, eq_self, Bool.false_eq_true]
  refine g_call0 (sp_Ref_in (fun c1 => ?_) (fun c1 => ?_))
  · obtain ⟨e1, -, i1⟩ := inR_of c1 (by decide) (by decide)
    have b6 : S 6 (N v1) ≤ 3 := hS 6 _
    unfold rWd wdV at h
    unfold wdV at bad
    generalize N v1 = r at *
    subst e1
    simp (disch := first | omega | simp (disch := omega) only [sA_ne, sA_self]) only [st_Ref_withdraw, rW_get hI, j_k, List.mem_cons, List.not_mem_nil, or_false, or_self, if_false, if_true, ↓reduceIte, List.getElem?_cons_zero, List.getElem?_cons_succ, List.set_cons_zero, List.set_cons_succ, List.length_cons, List.length_nil, g_ld_s, g_v_s, g_ob_s, g_ia_s, g_la_s, g_qa_s, g_al_s, t_i_s, t_a_r, t_a_n, t_a_q, t_l_s, true_and, and_true, and_self, true_or, or_true, Decidable.not_not, not_true_eq_false, not_false_eq_true, false_implies, true_implies, implies_true, j_ok1_s, j_isL, j_cat_i, j_cat_l, j_cat_r, j_cat_n, j_rf_cat, j_rf_some, j_rf_none, k_w8_0, k_w8_i, k_w8_r, k_w8_l, k_sum0, k_ints, k_nari, k_narz0, k_narz1, k_okv0, k_okv1, k_okv2, k_okv2n, k_okv3, Option.toList_some, Option.toList_none, List.cons_append, List.nil_append, List.append_nil, List.map_cons, List.map_nil, List.sum_cons, List.sum_nil, Nat.add_zero, Nat.zero_add, Nat.reduceAdd, Nat.reduceMul, Nat.reduceSub, Nat.reduceDiv, Nat.reduceMod, Nat.reduceLT, Nat.reduceLeDiff, Nat.reduceEqDiff, Nat.reduceBEq, Nat.reduceBNe, Nat.one_ne_zero, Nat.zero_ne_one, Nat.succ_ne_self, Nat.le_refl, Nat.sub_self, Nat.sub_zero, Nat.zero_le, reduceCtorEq, eq_self, Bool.false_eq_true, pk_mul, nI_add, k_in, nI_clamp, nI_eq, nI_ltI, nI_leI, k_upd, k_eq0, k_lt0, k_0le, k_0lt, k_le0, k_mod]
    refine g_call0 (sp_Ref_in (fun c2 => ?_) (fun c2 => ?_))
    · rw [if_pos ⟨c1, c2⟩] at h
      obtain ⟨k, hk, e2⟩ := (k_rng0 (by omega)).mp c2
      subst e2
      have hN : N (nI k) = k := nI_clamp (by omega)
      rw [hN] at h
      simp (disch := first | omega | simp (disch := omega) only [sA_ne, sA_self]) only [st_Ref_withdraw, rW_get hI, rW_put hI, j_k, List.mem_cons, List.not_mem_nil, or_false, or_self, if_false, if_true, ↓reduceIte, List.getElem?_cons_zero, List.getElem?_cons_succ, List.set_cons_zero, List.set_cons_succ, List.length_cons, List.length_nil, g_ld_s, g_v_s, g_ob_s, g_ia_s, g_la_s, g_qa_s, g_al_s, t_i_s, t_a_r, t_a_n, t_a_q, t_l_s, true_and, and_true, and_self, true_or, or_true, Decidable.not_not, not_true_eq_false, not_false_eq_true, false_implies, true_implies, implies_true, j_ok1_s, j_isL, j_cat_i, j_cat_l, j_cat_r, j_cat_n, j_rf_cat, j_rf_some, j_rf_none, k_w8_0, k_w8_i, k_w8_r, k_w8_l, k_sum0, k_ints, k_nari, k_narz0, k_narz1, k_okv0, k_okv1, k_okv2, k_okv2n, k_okv3, Option.toList_some, Option.toList_none, List.cons_append, List.nil_append, List.append_nil, List.map_cons, List.map_nil, List.sum_cons, List.sum_nil, Nat.add_zero, Nat.zero_add, Nat.reduceAdd, Nat.reduceMul, Nat.reduceSub, Nat.reduceDiv, Nat.reduceMod, Nat.reduceLT, Nat.reduceLeDiff, Nat.reduceEqDiff, Nat.reduceBEq, Nat.reduceBNe, Nat.one_ne_zero, Nat.zero_ne_one, Nat.succ_ne_self, Nat.le_refl, Nat.sub_self, Nat.sub_zero, Nat.zero_le, reduceCtorEq, eq_self, Bool.false_eq_true, pk_mul, nI_add, k_in, nI_clamp, nI_eq, nI_ltI, nI_leI, k_upd, k_eq0, k_lt0, k_0le, k_0lt, k_le0, k_mod, pk_sub, sA_ne, sA_self, va_up_self]
      have fin : ∀ X, j_S m_Ref_withdraw post 78 [some (.ref (ad 0 0)), some (.int (nI r)), some (.int (nI k)), X] [] (rW (rWd1 S r k) F ad) 0 0 := by
        intro X
        refine j_runs [83] ok_Ref_withdraw 60 ?_
        simp (disch := first | omega | simp (disch := omega) only [sA_ne, sA_self]) only [st_Ref_withdraw, rW_get hI, j_k, List.mem_cons, List.not_mem_nil, or_false, or_self, if_false, if_true, ↓reduceIte, List.getElem?_cons_zero, List.getElem?_cons_succ, List.set_cons_zero, List.set_cons_succ, List.length_cons, List.length_nil, g_ld_s, g_v_s, g_ob_s, g_ia_s, g_la_s, g_qa_s, g_al_s, t_i_s, t_a_r, t_a_n, t_a_q, t_l_s, true_and, and_true, and_self, true_or, or_true, Decidable.not_not, not_true_eq_false, not_false_eq_true, false_implies, true_implies, implies_true, j_ok1_s, j_isL, j_cat_i, j_cat_l, j_cat_r, j_cat_n, j_rf_cat, j_rf_some, j_rf_none, k_w8_0, k_w8_i, k_w8_r, k_w8_l, k_sum0, k_ints, k_nari, k_narz0, k_narz1, k_okv0, k_okv1, k_okv2, k_okv2n, k_okv3, Option.toList_some, Option.toList_none, List.cons_append, List.nil_append, List.append_nil, List.map_cons, List.map_nil, List.sum_cons, List.sum_nil, Nat.add_zero, Nat.zero_add, Nat.reduceAdd, Nat.reduceMul, Nat.reduceSub, Nat.reduceDiv, Nat.reduceMod, Nat.reduceLT, Nat.reduceLeDiff, Nat.reduceEqDiff, Nat.reduceBEq, Nat.reduceBNe, Nat.one_ne_zero, Nat.zero_ne_one, Nat.succ_ne_self, Nat.le_refl, Nat.sub_self, Nat.sub_zero, Nat.zero_le, reduceCtorEq, eq_self, Bool.false_eq_true, pk_mul, nI_add, k_in, nI_clamp, nI_eq, nI_ltI, nI_leI, k_upd, k_eq0, k_lt0, k_0le, k_0lt, k_le0, k_mod]
        refine g_call0 (sp_Ref_tell hI ((rWd1_T2 hT).tok (by omega)) ?_)
        simp (disch := first | omega | simp (disch := omega) only [sA_ne, sA_self]) only [st_Ref_withdraw, j_k, List.mem_cons, List.not_mem_nil, or_false, or_self, if_false, if_true, ↓reduceIte, List.getElem?_cons_zero, List.getElem?_cons_succ, List.set_cons_zero, List.set_cons_succ, List.length_cons, List.length_nil, g_ld_s, g_v_s, g_ob_s, g_ia_s, g_la_s, g_qa_s, g_al_s, t_i_s, t_a_r, t_a_n, t_a_q, t_l_s, true_and, and_true, and_self, true_or, or_true, Decidable.not_not, not_true_eq_false, not_false_eq_true, false_implies, true_implies, implies_true, j_ok1_s, j_isL, j_cat_i, j_cat_l, j_cat_r, j_cat_n, j_rf_cat, j_rf_some, j_rf_none, k_w8_0, k_w8_i, k_w8_r, k_w8_l, k_sum0, k_ints, k_nari, k_narz0, k_narz1, k_okv0, k_okv1, k_okv2, k_okv2n, k_okv3, Option.toList_some, Option.toList_none, List.cons_append, List.nil_append, List.append_nil, List.map_cons, List.map_nil, List.sum_cons, List.sum_nil, Nat.add_zero, Nat.zero_add, Nat.reduceAdd, Nat.reduceMul, Nat.reduceSub, Nat.reduceDiv, Nat.reduceMod, Nat.reduceLT, Nat.reduceLeDiff, Nat.reduceEqDiff, Nat.reduceBEq, Nat.reduceBNe, Nat.one_ne_zero, Nat.zero_ne_one, Nat.succ_ne_self, Nat.le_refl, Nat.sub_self, Nat.sub_zero, Nat.zero_le, reduceCtorEq, eq_self, Bool.false_eq_true]
        refine j_runs [] ok_Ref_withdraw 60 ?_
        have e6 : rWd1 S r k 6 r = S 6 r - 1 := by
          simp (disch := first | omega | simp (disch := omega) only [sA_ne, sA_self]) only [rWd1, sA_ne, sA_self, va_up_self]
        simp (disch := first | omega | simp (disch := omega) only [sA_ne, sA_self]) only [st_Ref_withdraw, rW_get hI, j_k, List.mem_cons, List.not_mem_nil, or_false, or_self, if_false, if_true, ↓reduceIte, List.getElem?_cons_zero, List.getElem?_cons_succ, List.set_cons_zero, List.set_cons_succ, List.length_cons, List.length_nil, g_ld_s, g_v_s, g_ob_s, g_ia_s, g_la_s, g_qa_s, g_al_s, t_i_s, t_a_r, t_a_n, t_a_q, t_l_s, true_and, and_true, and_self, true_or, or_true, Decidable.not_not, not_true_eq_false, not_false_eq_true, false_implies, true_implies, implies_true, j_ok1_s, j_isL, j_cat_i, j_cat_l, j_cat_r, j_cat_n, j_rf_cat, j_rf_some, j_rf_none, k_w8_0, k_w8_i, k_w8_r, k_w8_l, k_sum0, k_ints, k_nari, k_narz0, k_narz1, k_okv0, k_okv1, k_okv2, k_okv2n, k_okv3, Option.toList_some, Option.toList_none, List.cons_append, List.nil_append, List.append_nil, List.map_cons, List.map_nil, List.sum_cons, List.sum_nil, Nat.add_zero, Nat.zero_add, Nat.reduceAdd, Nat.reduceMul, Nat.reduceSub, Nat.reduceDiv, Nat.reduceMod, Nat.reduceLT, Nat.reduceLeDiff, Nat.reduceEqDiff, Nat.reduceBEq, Nat.reduceBNe, Nat.one_ne_zero, Nat.zero_ne_one, Nat.succ_ne_self, Nat.le_refl, Nat.sub_self, Nat.sub_zero, Nat.zero_le, reduceCtorEq, eq_self, Bool.false_eq_true, pk_mul, nI_add, k_in, nI_clamp, nI_eq, nI_ltI, nI_leI, k_upd, k_eq0, k_lt0, k_0le, k_0lt, k_le0, k_mod, rTell_6, e6]
        exact h
      have head : ∀ d j, j + d = S 6 r - 1 → k ≤ j → j_S m_Ref_withdraw post 40 [some (.ref (ad 0 0)), some (.int (nI r)), some (.int (nI k)), some (.int (nI j))] [] (rW (sA (sA S 6 (va_up (S 6) r (S 6 r - 1))) 7 (rSft (S 7) (3 * r) k j)) F ad) 0 0 := by
        intro d
        induction d with
        | zero =>
          intro j ej hj
          refine j_runs [78] ok_Ref_withdraw 60 ?_
          simp (disch := first | omega | simp (disch := omega) only [sA_ne, sA_self]) only [st_Ref_withdraw, rW_get hI, j_k, List.mem_cons, List.not_mem_nil, or_false, or_self, if_false, if_true, ↓reduceIte, List.getElem?_cons_zero, List.getElem?_cons_succ, List.set_cons_zero, List.set_cons_succ, List.length_cons, List.length_nil, g_ld_s, g_v_s, g_ob_s, g_ia_s, g_la_s, g_qa_s, g_al_s, t_i_s, t_a_r, t_a_n, t_a_q, t_l_s, true_and, and_true, and_self, true_or, or_true, Decidable.not_not, not_true_eq_false, not_false_eq_true, false_implies, true_implies, implies_true, j_ok1_s, j_isL, j_cat_i, j_cat_l, j_cat_r, j_cat_n, j_rf_cat, j_rf_some, j_rf_none, k_w8_0, k_w8_i, k_w8_r, k_w8_l, k_sum0, k_ints, k_nari, k_narz0, k_narz1, k_okv0, k_okv1, k_okv2, k_okv2n, k_okv3, Option.toList_some, Option.toList_none, List.cons_append, List.nil_append, List.append_nil, List.map_cons, List.map_nil, List.sum_cons, List.sum_nil, Nat.add_zero, Nat.zero_add, Nat.reduceAdd, Nat.reduceMul, Nat.reduceSub, Nat.reduceDiv, Nat.reduceMod, Nat.reduceLT, Nat.reduceLeDiff, Nat.reduceEqDiff, Nat.reduceBEq, Nat.reduceBNe, Nat.one_ne_zero, Nat.zero_ne_one, Nat.succ_ne_self, Nat.le_refl, Nat.sub_self, Nat.sub_zero, Nat.zero_le, reduceCtorEq, eq_self, Bool.false_eq_true, pk_mul, nI_add, k_in, nI_clamp, nI_eq, nI_ltI, nI_leI, k_upd, k_eq0, k_lt0, k_0le, k_0lt, k_le0, k_mod, sA_ne, sA_self, va_up_self]
          refine ⟨fun _ => ?_, fun c => absurd (by omega) c⟩
          rw [show j = S 6 r - 1 by omega]
          exact fin _
        | succ d ih =>
          intro j ej hj
          have := ih (j + 1) (by omega) (by omega)
          have g1 : rSft (S 7) (3 * r) k j (3 * r + j + 1) = S 7 (3 * r + j + 1) := rSft_hi _ _ _ _ _ (by omega)
          have g2 : rSft (S 7) (3 * r) k (j + 1) = va_up (rSft (S 7) (3 * r) k j) (3 * r + j) (S 7 (3 * r + j + 1)) := by
            conv => lhs; unfold rSft
            rw [if_pos hj]
          rw [g2] at this
          refine j_runs [40] ok_Ref_withdraw 60 ?_
          simp (disch := first | omega | simp (disch := omega) only [sA_ne, sA_self]) only [st_Ref_withdraw, rW_get hI, rW_put hI, j_k, List.mem_cons, List.not_mem_nil, or_false, or_self, if_false, if_true, ↓reduceIte, List.getElem?_cons_zero, List.getElem?_cons_succ, List.set_cons_zero, List.set_cons_succ, List.length_cons, List.length_nil, g_ld_s, g_v_s, g_ob_s, g_ia_s, g_la_s, g_qa_s, g_al_s, t_i_s, t_a_r, t_a_n, t_a_q, t_l_s, true_and, and_true, and_self, true_or, or_true, Decidable.not_not, not_true_eq_false, not_false_eq_true, false_implies, true_implies, implies_true, j_ok1_s, j_isL, j_cat_i, j_cat_l, j_cat_r, j_cat_n, j_rf_cat, j_rf_some, j_rf_none, k_w8_0, k_w8_i, k_w8_r, k_w8_l, k_sum0, k_ints, k_nari, k_narz0, k_narz1, k_okv0, k_okv1, k_okv2, k_okv2n, k_okv3, Option.toList_some, Option.toList_none, List.cons_append, List.nil_append, List.append_nil, List.map_cons, List.map_nil, List.sum_cons, List.sum_nil, Nat.add_zero, Nat.zero_add, Nat.reduceAdd, Nat.reduceMul, Nat.reduceSub, Nat.reduceDiv, Nat.reduceMod, Nat.reduceLT, Nat.reduceLeDiff, Nat.reduceEqDiff, Nat.reduceBEq, Nat.reduceBNe, Nat.one_ne_zero, Nat.zero_ne_one, Nat.succ_ne_self, Nat.le_refl, Nat.sub_self, Nat.sub_zero, Nat.zero_le, reduceCtorEq, eq_self, Bool.false_eq_true, pk_mul, nI_add, k_in, nI_clamp, nI_eq, nI_ltI, nI_leI, k_upd, k_eq0, k_lt0, k_0le, k_0lt, k_le0, k_mod, sA_ne, sA_self, sA_sA, va_up_self, g1]
          refine ⟨fun c => absurd c (by omega), fun _ => ?_⟩
          exact this
      by_cases hlast : k ≤ S 6 r - 1
      · have := head (S 6 r - 1 - k) k (by omega) (Nat.le_refl _)
        rw [rSft_k _ _ _ _ (Nat.le_refl _)] at this
        have e : sA (sA S 6 (va_up (S 6) r (S 6 r - 1))) 7 (S 7) = sA S 6 (va_up (S 6) r (S 6 r - 1)) := by
          funext z
          by_cases hz : z = 7
          · subst hz; rw [sA_self, sA_ne _ _ (by decide)]
          · rw [sA_ne _ _ hz]
        rw [e] at this
        exact this
      · omega
    · simp (disch := first | omega | simp (disch := omega) only [sA_ne, sA_self]) only [st_Ref_withdraw, rW_get hI, j_k, List.mem_cons, List.not_mem_nil, or_false, or_self, if_false, if_true, ↓reduceIte, List.getElem?_cons_zero, List.getElem?_cons_succ, List.set_cons_zero, List.set_cons_succ, List.length_cons, List.length_nil, g_ld_s, g_v_s, g_ob_s, g_ia_s, g_la_s, g_qa_s, g_al_s, t_i_s, t_a_r, t_a_n, t_a_q, t_l_s, true_and, and_true, and_self, true_or, or_true, Decidable.not_not, not_true_eq_false, not_false_eq_true, false_implies, true_implies, implies_true, j_ok1_s, j_isL, j_cat_i, j_cat_l, j_cat_r, j_cat_n, j_rf_cat, j_rf_some, j_rf_none, k_w8_0, k_w8_i, k_w8_r, k_w8_l, k_sum0, k_ints, k_nari, k_narz0, k_narz1, k_okv0, k_okv1, k_okv2, k_okv2n, k_okv3, Option.toList_some, Option.toList_none, List.cons_append, List.nil_append, List.append_nil, List.map_cons, List.map_nil, List.sum_cons, List.sum_nil, Nat.add_zero, Nat.zero_add, Nat.reduceAdd, Nat.reduceMul, Nat.reduceSub, Nat.reduceDiv, Nat.reduceMod, Nat.reduceLT, Nat.reduceLeDiff, Nat.reduceEqDiff, Nat.reduceBEq, Nat.reduceBNe, Nat.one_ne_zero, Nat.zero_ne_one, Nat.succ_ne_self, Nat.le_refl, Nat.sub_self, Nat.sub_zero, Nat.zero_le, reduceCtorEq, eq_self, Bool.false_eq_true, pk_mul, nI_add, k_in, nI_clamp, nI_eq, nI_ltI, nI_leI, k_upd, k_eq0, k_lt0, k_0le, k_0lt, k_le0, k_mod]
      exact bad (fun q => c2 q.2)
  · simp (disch := first | omega | simp (disch := omega) only [sA_ne, sA_self]) only [st_Ref_withdraw, j_k, List.mem_cons, List.not_mem_nil, or_false, or_self, if_false, if_true, ↓reduceIte, List.getElem?_cons_zero, List.getElem?_cons_succ, List.set_cons_zero, List.set_cons_succ, List.length_cons, List.length_nil, g_ld_s, g_v_s, g_ob_s, g_ia_s, g_la_s, g_qa_s, g_al_s, t_i_s, t_a_r, t_a_n, t_a_q, t_l_s, true_and, and_true, and_self, true_or, or_true, Decidable.not_not, not_true_eq_false, not_false_eq_true, false_implies, true_implies, implies_true, j_ok1_s, j_isL, j_cat_i, j_cat_l, j_cat_r, j_cat_n, j_rf_cat, j_rf_some, j_rf_none, k_w8_0, k_w8_i, k_w8_r, k_w8_l, k_sum0, k_ints, k_nari, k_narz0, k_narz1, k_okv0, k_okv1, k_okv2, k_okv2n, k_okv3, Option.toList_some, Option.toList_none, List.cons_append, List.nil_append, List.append_nil, List.map_cons, List.map_nil, List.sum_cons, List.sum_nil, Nat.add_zero, Nat.zero_add, Nat.reduceAdd, Nat.reduceMul, Nat.reduceSub, Nat.reduceDiv, Nat.reduceMod, Nat.reduceLT, Nat.reduceLeDiff, Nat.reduceEqDiff, Nat.reduceBEq, Nat.reduceBNe, Nat.one_ne_zero, Nat.zero_ne_one, Nat.succ_ne_self, Nat.le_refl, Nat.sub_self, Nat.sub_zero, Nat.zero_le, reduceCtorEq, eq_self, Bool.false_eq_true, pk_mul, nI_add, k_in, nI_clamp, nI_eq, nI_ltI, nI_leI, k_upd, k_eq0, k_lt0, k_0le, k_0lt, k_le0, k_mod]
    exact bad (fun q => c1 q.1)
/-- the oldest of row q goes -/
def rOld (S : Nat → Nat → Nat) (q : Nat) : Nat → Nat → Nat := sA (sA S 16 (va_up (S 16) q (S 16 q - 1))) 17 (rSft (S 17) (20 * q) 0 (S 16 q - 1))
theorem rOld_ok {S : Nat → Nat → Nat} (h : rOK S) {q : Nat} : rOK (rOld S q) := by
  have b : S 16 q ≤ 20 := h 16 q
  have a1 : rOK (sA S 16 (va_up (S 16) q (S 16 q - 1))) := h.up (k := 16) (show S 16 q - 1 ≤ 20 by omega)
  exact a1.sa (k := 17) (fun i => rSft_le (h 17) _ i)
set_option maxHeartbeats 4000000 in
set_option maxRecDepth 100000 in
theorem sp_Ref_oldest {S : Nat → Nat → Nat} {F : Nat → Int32} {ad : Nat → Nat → Nat} {q : Nat} {post : Option Value → jW → Prop} (hI : n_inj rAl ad) (hS : rOK S) (hq : q < 24) (h0 : ¬ S 16 q = 0) (h : post (some (.int (nI (S 17 (20 * q))))) (rW (rOld S q) F ad)) : j_sem m_Ref_oldest [.ref (ad 0 0), .int (nI q)] (rW S F ad) 0 0 post := by
  refine j_sem_of (by decide +kernel) (Nat.le_of_ble_eq_true rfl) ?_
  show j_S _ _ 0 [some (.ref (ad 0 0)), some (.int (nI q)), none, none] [] _ 0 0
  have b16 : S 16 q ≤ 20 := hS 16 q
  have head : ∀ d j, j + d = S 16 q - 1 → j_S m_Ref_oldest post 22 [some (.ref (ad 0 0)), some (.int (nI q)), some (.int (nI (S 17 (20 * q)))), some (.int (nI j))] [] (rW (sA (sA S 16 (va_up (S 16) q (S 16 q - 1))) 17 (rSft (S 17) (20 * q) 0 j)) F ad) 0 0 := by
    intro d
    induction d with
    | zero =>
      intro j ej
      refine j_runs [] ok_Ref_oldest 60 ?_
      simp (disch := first | omega | simp (disch := omega) only [sA_ne, sA_self]) only [st_Ref_oldest, rW_get hI, j_k, List.mem_cons, List.not_mem_nil, or_false, or_self, if_false, if_true, ↓reduceIte, List.getElem?_cons_zero, List.getElem?_cons_succ, List.set_cons_zero, List.set_cons_succ, List.length_cons, List.length_nil, g_ld_s, g_v_s, g_ob_s, g_ia_s, g_la_s, g_qa_s, g_al_s, t_i_s, t_a_r, t_a_n, t_a_q, t_l_s, true_and, and_true, and_self, true_or, or_true, Decidable.not_not, not_true_eq_false, not_false_eq_true, false_implies, true_implies, implies_true, j_ok1_s, j_isL, j_cat_i, j_cat_l, j_cat_r, j_cat_n, j_rf_cat, j_rf_some, j_rf_none, k_w8_0, k_w8_i, k_w8_r, k_w8_l, k_sum0, k_ints, k_nari, k_narz0, k_narz1, k_okv0, k_okv1, k_okv2, k_okv2n, k_okv3, Option.toList_some, Option.toList_none, List.cons_append, List.nil_append, List.append_nil, List.map_cons, List.map_nil, List.sum_cons, List.sum_nil, Nat.add_zero, Nat.zero_add, Nat.reduceAdd, Nat.reduceMul, Nat.reduceSub, Nat.reduceDiv, Nat.reduceMod, Nat.reduceLT, Nat.reduceLeDiff, Nat.reduceEqDiff, Nat.reduceBEq, Nat.reduceBNe, Nat.one_ne_zero, Nat.zero_ne_one, Nat.succ_ne_self, Nat.le_refl, Nat.sub_self, Nat.sub_zero, Nat.zero_le, reduceCtorEq, eq_self, Bool.false_eq_true, pk_mul, nI_add, k_in, nI_clamp, nI_eq, nI_ltI, nI_leI, k_upd, k_eq0, k_lt0, k_0le, k_0lt, k_le0, k_mod, sA_ne, sA_self, va_up_self]
      refine ⟨fun _ => ?_, fun c => absurd (by omega) c⟩
      rw [show j = S 16 q - 1 by omega]
      exact h
    | succ d ih =>
      intro j ej
      have := ih (j + 1) (by omega)
      have g1 : rSft (S 17) (20 * q) 0 j (20 * q + j + 1) = S 17 (20 * q + j + 1) := rSft_hi _ _ _ _ _ (by omega)
      have g2 : rSft (S 17) (20 * q) 0 (j + 1) = va_up (rSft (S 17) (20 * q) 0 j) (20 * q + j) (S 17 (20 * q + j + 1)) := by
        conv => lhs; unfold rSft
        rw [if_pos (Nat.zero_le _)]
      rw [g2] at this
      refine j_runs [22] ok_Ref_oldest 60 ?_
      simp (disch := first | omega | simp (disch := omega) only [sA_ne, sA_self]) only [st_Ref_oldest, rW_get hI, rW_put hI, j_k, List.mem_cons, List.not_mem_nil, or_false, or_self, if_false, if_true, ↓reduceIte, List.getElem?_cons_zero, List.getElem?_cons_succ, List.set_cons_zero, List.set_cons_succ, List.length_cons, List.length_nil, g_ld_s, g_v_s, g_ob_s, g_ia_s, g_la_s, g_qa_s, g_al_s, t_i_s, t_a_r, t_a_n, t_a_q, t_l_s, true_and, and_true, and_self, true_or, or_true, Decidable.not_not, not_true_eq_false, not_false_eq_true, false_implies, true_implies, implies_true, j_ok1_s, j_isL, j_cat_i, j_cat_l, j_cat_r, j_cat_n, j_rf_cat, j_rf_some, j_rf_none, k_w8_0, k_w8_i, k_w8_r, k_w8_l, k_sum0, k_ints, k_nari, k_narz0, k_narz1, k_okv0, k_okv1, k_okv2, k_okv2n, k_okv3, Option.toList_some, Option.toList_none, List.cons_append, List.nil_append, List.append_nil, List.map_cons, List.map_nil, List.sum_cons, List.sum_nil, Nat.add_zero, Nat.zero_add, Nat.reduceAdd, Nat.reduceMul, Nat.reduceSub, Nat.reduceDiv, Nat.reduceMod, Nat.reduceLT, Nat.reduceLeDiff, Nat.reduceEqDiff, Nat.reduceBEq, Nat.reduceBNe, Nat.one_ne_zero, Nat.zero_ne_one, Nat.succ_ne_self, Nat.le_refl, Nat.sub_self, Nat.sub_zero, Nat.zero_le, reduceCtorEq, eq_self, Bool.false_eq_true, pk_mul, nI_add, k_in, nI_clamp, nI_eq, nI_ltI, nI_leI, k_upd, k_eq0, k_lt0, k_0le, k_0lt, k_le0, k_mod, sA_ne, sA_self, sA_sA, va_up_self, g1]
      refine ⟨fun c => absurd c (by omega), fun _ => ?_⟩
      exact this
  have h1 := head (S 16 q - 1) 0 (by omega)
  have e : sA (sA S 16 (va_up (S 16) q (S 16 q - 1))) 17 (rSft (S 17) (20 * q) 0 0) = sA S 16 (va_up (S 16) q (S 16 q - 1)) := by
    funext z
    by_cases hz : z = 17
    · subst hz; rw [sA_self, sA_ne _ _ (by decide)]; rfl
    · rw [sA_ne _ _ hz]
  rw [e] at h1
  refine j_runs [22] ok_Ref_oldest 60 ?_
  simp (disch := first | omega | simp (disch := omega) only [sA_ne, sA_self]) only [st_Ref_oldest, rW_get hI, rW_put hI, j_k, List.mem_cons, List.not_mem_nil, or_false, or_self, if_false, if_true, ↓reduceIte, List.getElem?_cons_zero, List.getElem?_cons_succ, List.set_cons_zero, List.set_cons_succ, List.length_cons, List.length_nil, g_ld_s, g_v_s, g_ob_s, g_ia_s, g_la_s, g_qa_s, g_al_s, t_i_s, t_a_r, t_a_n, t_a_q, t_l_s, true_and, and_true, and_self, true_or, or_true, Decidable.not_not, not_true_eq_false, not_false_eq_true, false_implies, true_implies, implies_true, j_ok1_s, j_isL, j_cat_i, j_cat_l, j_cat_r, j_cat_n, j_rf_cat, j_rf_some, j_rf_none, k_w8_0, k_w8_i, k_w8_r, k_w8_l, k_sum0, k_ints, k_nari, k_narz0, k_narz1, k_okv0, k_okv1, k_okv2, k_okv2n, k_okv3, Option.toList_some, Option.toList_none, List.cons_append, List.nil_append, List.append_nil, List.map_cons, List.map_nil, List.sum_cons, List.sum_nil, Nat.add_zero, Nat.zero_add, Nat.reduceAdd, Nat.reduceMul, Nat.reduceSub, Nat.reduceDiv, Nat.reduceMod, Nat.reduceLT, Nat.reduceLeDiff, Nat.reduceEqDiff, Nat.reduceBEq, Nat.reduceBNe, Nat.one_ne_zero, Nat.zero_ne_one, Nat.succ_ne_self, Nat.le_refl, Nat.sub_self, Nat.sub_zero, Nat.zero_le, reduceCtorEq, eq_self, Bool.false_eq_true, pk_mul, nI_add, k_in, nI_clamp, nI_eq, nI_ltI, nI_leI, k_upd, k_eq0, k_lt0, k_0le, k_0lt, k_le0, k_mod, pk_sub]
  exact h1
