/-! THE CLASS: a new link; lay -/
set_option maxHeartbeats 4000000 in
set_option maxRecDepth 100000 in
theorem sp_Lane_init {w : jW} {a : Nat} {x0 x1 x2 : Value} {post : Option Value → jW → Prop} (ha : w a = some (.inr (3, [x0, x1, x2]))) (h : ∀ q, w q = none → post none (j_up (j_up w q (.inl (7, 20, qA (fun _ => none)))) a (.inr (3, [.ref q, x1, x2])))) : j_sem m_Lane_init [.ref a] w 1 20 post := by
  refine j_sem_of (by decide +kernel) (Nat.le_of_ble_eq_true rfl) ?_
  show j_S _ _ 0 [some (.ref a)] [] _ 1 20
  have n20 : ¬ nI 20 < 0 := nI_pos (by decide)
  have c20 : (nI 20).toNatClampNeg = 20 := nI_clamp (by decide)
  refine j_runs [] ok_Lane_init 40 ?_
  simp (disch := first | omega | simp (disch := omega) only [sA_ne, sA_self]) only [st_Lane_init, n20, c20, j_k, List.mem_cons, List.not_mem_nil, or_false, or_self, if_false, if_true, ↓reduceIte, List.getElem?_cons_zero, List.getElem?_cons_succ, List.set_cons_zero, List.set_cons_succ, List.length_cons, List.length_nil, g_ld_s, g_v_s, g_ob_s, g_ia_s, g_la_s, g_qa_s, g_al_s, t_i_s, t_a_r, t_a_n, t_a_q, t_l_s, true_and, and_true, and_self, true_or, or_true, Decidable.not_not, not_true_eq_false, not_false_eq_true, false_implies, true_implies, implies_true, j_ok1_s, j_isL, j_cat_i, j_cat_l, j_cat_r, j_cat_n, j_rf_cat, j_rf_some, j_rf_none, k_w8_0, k_w8_i, k_w8_r, k_w8_l, k_sum0, k_ints, k_nari, k_narz0, k_narz1, k_okv0, k_okv1, k_okv2, k_okv2n, k_okv3, Option.toList_some, Option.toList_none, List.cons_append, List.nil_append, List.append_nil, List.map_cons, List.map_nil, List.sum_cons, List.sum_nil, Nat.add_zero, Nat.zero_add, Nat.reduceAdd, Nat.reduceMul, Nat.reduceSub, Nat.reduceDiv, Nat.reduceMod, Nat.reduceLT, Nat.reduceLeDiff, Nat.reduceEqDiff, Nat.reduceBEq, Nat.reduceBNe, Nat.one_ne_zero, Nat.zero_ne_one, Nat.succ_ne_self, Nat.le_refl, Nat.sub_self, Nat.sub_zero, Nat.zero_le, reduceCtorEq, eq_self, Bool.false_eq_true]
  intro q hq
  have hqa : a ≠ q := by rintro rfl; rw [ha] at hq; cases hq
  simp (disch := first | omega | simp (disch := omega) only [sA_ne, sA_self]) only [st_Lane_init, j_up_ne _ _ hqa, ha, j_k, List.mem_cons, List.not_mem_nil, or_false, or_self, if_false, if_true, ↓reduceIte, List.getElem?_cons_zero, List.getElem?_cons_succ, List.set_cons_zero, List.set_cons_succ, List.length_cons, List.length_nil, g_ld_s, g_v_s, g_ob_s, g_ia_s, g_la_s, g_qa_s, g_al_s, t_i_s, t_a_r, t_a_n, t_a_q, t_l_s, true_and, and_true, and_self, true_or, or_true, Decidable.not_not, not_true_eq_false, not_false_eq_true, false_implies, true_implies, implies_true, j_ok1_s, j_isL, j_cat_i, j_cat_l, j_cat_r, j_cat_n, j_rf_cat, j_rf_some, j_rf_none, k_w8_0, k_w8_i, k_w8_r, k_w8_l, k_sum0, k_ints, k_nari, k_narz0, k_narz1, k_okv0, k_okv1, k_okv2, k_okv2n, k_okv3, Option.toList_some, Option.toList_none, List.cons_append, List.nil_append, List.append_nil, List.map_cons, List.map_nil, List.sum_cons, List.sum_nil, Nat.add_zero, Nat.zero_add, Nat.reduceAdd, Nat.reduceMul, Nat.reduceSub, Nat.reduceDiv, Nat.reduceMod, Nat.reduceLT, Nat.reduceLeDiff, Nat.reduceEqDiff, Nat.reduceBEq, Nat.reduceBNe, Nat.one_ne_zero, Nat.zero_ne_one, Nat.succ_ne_self, Nat.le_refl, Nat.sub_self, Nat.sub_zero, Nat.zero_le, reduceCtorEq, eq_self, Bool.false_eq_true]
  exact h q hq
set_option maxHeartbeats 4000000 in
set_option maxRecDepth 100000 in
theorem sp_Link_init {w : jW} {a : Nat} {f s c d : Int32} {x0 x1 x2 x3 x4 x5 x6 : Value} {post : Option Value → jW → Prop} (ha : w a = some (.inr (2, [x0, x1, x2, x3, x4, x5, x6]))) (h : ∀ q1 q2 q3 q4, w q1 = none → w q2 = none → w q3 = none → w q4 = none → q1 ≠ q2 → q1 ≠ q3 → q1 ≠ q4 → q2 ≠ q3 → q2 ≠ q4 → q3 ≠ q4 → post none (j_up (j_up (j_up (j_up (j_up w q4 (.inl (7, 20, qA (fun _ => none)))) q3 (.inr (3, [.ref q4, .int (nI 0), .int (nI 0)]))) q2 (.inl (7, 20, qA (fun _ => none)))) q1 (.inr (3, [.ref q2, .int (nI 0), .int (nI 0)]))) a (.inr (2, [.int f, .int s, .int c, .int d, .ref q1, .ref q3, x6])))) : j_sem m_Link_init [.ref a, .int f, .int s, .int c, .int d] w 4 46 post := by
  refine j_sem_of (by decide +kernel) (Nat.le_of_ble_eq_true rfl) ?_
  show j_S _ _ 0 [some (.ref a), some (.int f), some (.int s), some (.int c), some (.int d)] [] _ 4 46
  refine j_runs [] ok_Link_init 60 ?_
  simp (disch := first | omega | simp (disch := omega) only [sA_ne, sA_self]) only [st_Link_init, j_k, List.mem_cons, List.not_mem_nil, or_false, or_self, if_false, if_true, ↓reduceIte, List.getElem?_cons_zero, List.getElem?_cons_succ, List.set_cons_zero, List.set_cons_succ, List.length_cons, List.length_nil, g_ld_s, g_v_s, g_ob_s, g_ia_s, g_la_s, g_qa_s, g_al_s, t_i_s, t_a_r, t_a_n, t_a_q, t_l_s, true_and, and_true, and_self, true_or, or_true, Decidable.not_not, not_true_eq_false, not_false_eq_true, false_implies, true_implies, implies_true, j_ok1_s, j_isL, j_cat_i, j_cat_l, j_cat_r, j_cat_n, j_rf_cat, j_rf_some, j_rf_none, k_w8_0, k_w8_i, k_w8_r, k_w8_l, k_sum0, k_ints, k_nari, k_narz0, k_narz1, k_okv0, k_okv1, k_okv2, k_okv2n, k_okv3, Option.toList_some, Option.toList_none, List.cons_append, List.nil_append, List.append_nil, List.map_cons, List.map_nil, List.sum_cons, List.sum_nil, Nat.add_zero, Nat.zero_add, Nat.reduceAdd, Nat.reduceMul, Nat.reduceSub, Nat.reduceDiv, Nat.reduceMod, Nat.reduceLT, Nat.reduceLeDiff, Nat.reduceEqDiff, Nat.reduceBEq, Nat.reduceBNe, Nat.one_ne_zero, Nat.zero_ne_one, Nat.succ_ne_self, Nat.le_refl, Nat.sub_self, Nat.sub_zero, Nat.zero_le, reduceCtorEq, eq_self, Bool.false_eq_true]
  intro q1 hq1
  have a1 : a ≠ q1 := by rintro rfl; rw [ha] at hq1; cases hq1
  refine g_calln (mc := 1) (ms := 20) (by decide) (by decide) (sp_Lane_init (j_up_self _ _ _) (fun q2 hq2 => ?_))
  have n12 : q2 ≠ q1 := by rintro rfl; rw [j_up_self] at hq2; cases hq2
  rw [j_up_ne _ _ n12] at hq2
  have a2 : a ≠ q2 := by rintro rfl; rw [ha] at hq2; cases hq2
  rw [j_up_3]
  simp (disch := first | omega | simp (disch := omega) only [sA_ne, sA_self]) only [st_Link_init, j_up_ne _ _ a1, j_up_ne _ _ a2, ha, j_k, List.mem_cons, List.not_mem_nil, or_false, or_self, if_false, if_true, ↓reduceIte, List.getElem?_cons_zero, List.getElem?_cons_succ, List.set_cons_zero, List.set_cons_succ, List.length_cons, List.length_nil, g_ld_s, g_v_s, g_ob_s, g_ia_s, g_la_s, g_qa_s, g_al_s, t_i_s, t_a_r, t_a_n, t_a_q, t_l_s, true_and, and_true, and_self, true_or, or_true, Decidable.not_not, not_true_eq_false, not_false_eq_true, false_implies, true_implies, implies_true, j_ok1_s, j_isL, j_cat_i, j_cat_l, j_cat_r, j_cat_n, j_rf_cat, j_rf_some, j_rf_none, k_w8_0, k_w8_i, k_w8_r, k_w8_l, k_sum0, k_ints, k_nari, k_narz0, k_narz1, k_okv0, k_okv1, k_okv2, k_okv2n, k_okv3, Option.toList_some, Option.toList_none, List.cons_append, List.nil_append, List.append_nil, List.map_cons, List.map_nil, List.sum_cons, List.sum_nil, Nat.add_zero, Nat.zero_add, Nat.reduceAdd, Nat.reduceMul, Nat.reduceSub, Nat.reduceDiv, Nat.reduceMod, Nat.reduceLT, Nat.reduceLeDiff, Nat.reduceEqDiff, Nat.reduceBEq, Nat.reduceBNe, Nat.one_ne_zero, Nat.zero_ne_one, Nat.succ_ne_self, Nat.le_refl, Nat.sub_self, Nat.sub_zero, Nat.zero_le, reduceCtorEq, eq_self, Bool.false_eq_true]
  intro q3 hq3
  have a3 : a ≠ q3 := by rintro rfl; rw [j_up_self] at hq3; cases hq3
  rw [j_up_ne _ _ (Ne.symm a3)] at hq3
  have n13 : q3 ≠ q1 := by rintro rfl; rw [j_up_self] at hq3; cases hq3
  rw [j_up_ne _ _ n13] at hq3
  have n23 : q3 ≠ q2 := by rintro rfl; rw [j_up_self] at hq3; cases hq3
  rw [j_up_ne _ _ n23] at hq3
  refine g_calln (mc := 1) (ms := 20) (by decide) (by decide) (sp_Lane_init (j_up_self _ _ _) (fun q4 hq4 => ?_))
  have n34 : q4 ≠ q3 := by rintro rfl; rw [j_up_self] at hq4; cases hq4
  rw [j_up_ne _ _ n34] at hq4
  have a4 : a ≠ q4 := by rintro rfl; rw [j_up_self] at hq4; cases hq4
  rw [j_up_ne _ _ (Ne.symm a4)] at hq4
  have n14 : q4 ≠ q1 := by rintro rfl; rw [j_up_self] at hq4; cases hq4
  rw [j_up_ne _ _ n14] at hq4
  have n24 : q4 ≠ q2 := by rintro rfl; rw [j_up_self] at hq4; cases hq4
  rw [j_up_ne _ _ n24] at hq4
  simp (disch := first | omega | simp (disch := omega) only [sA_ne, sA_self]) only [st_Link_init, j_up_ne _ _ a3, j_up_ne _ _ a4, j_up_self, j_up_up, j_k, List.mem_cons, List.not_mem_nil, or_false, or_self, if_false, if_true, ↓reduceIte, List.getElem?_cons_zero, List.getElem?_cons_succ, List.set_cons_zero, List.set_cons_succ, List.length_cons, List.length_nil, g_ld_s, g_v_s, g_ob_s, g_ia_s, g_la_s, g_qa_s, g_al_s, t_i_s, t_a_r, t_a_n, t_a_q, t_l_s, true_and, and_true, and_self, true_or, or_true, Decidable.not_not, not_true_eq_false, not_false_eq_true, false_implies, true_implies, implies_true, j_ok1_s, j_isL, j_cat_i, j_cat_l, j_cat_r, j_cat_n, j_rf_cat, j_rf_some, j_rf_none, k_w8_0, k_w8_i, k_w8_r, k_w8_l, k_sum0, k_ints, k_nari, k_narz0, k_narz1, k_okv0, k_okv1, k_okv2, k_okv2n, k_okv3, Option.toList_some, Option.toList_none, List.cons_append, List.nil_append, List.append_nil, List.map_cons, List.map_nil, List.sum_cons, List.sum_nil, Nat.add_zero, Nat.zero_add, Nat.reduceAdd, Nat.reduceMul, Nat.reduceSub, Nat.reduceDiv, Nat.reduceMod, Nat.reduceLT, Nat.reduceLeDiff, Nat.reduceEqDiff, Nat.reduceBEq, Nat.reduceBNe, Nat.one_ne_zero, Nat.zero_ne_one, Nat.succ_ne_self, Nat.le_refl, Nat.sub_self, Nat.sub_zero, Nat.zero_le, reduceCtorEq, eq_self, Bool.false_eq_true]
  have := h q1 q2 q3 q4 hq1 hq2 hq3 hq4 n12.symm n13.symm n14.symm n23.symm n24.symm n34.symm
  refine Eq.mp (congrArg (post none) ?_) this
  funext q
  by_cases ea : q = a
  · subst ea
    rw [j_up_self, j_up_self]
  · rw [j_up_ne _ _ ea, j_up_ne _ _ ea]
    by_cases e1 : q = q1
    · subst e1
      rw [j_up_self, j_up_ne _ _ n13.symm, j_up_ne _ _ n14.symm, j_up_ne _ _ n13.symm, j_up_ne _ _ ea, j_up_self]
      rfl
    · rw [j_up_ne _ _ e1]
      by_cases e2 : q = q2
      · subst e2
        rw [j_up_self, j_up_ne _ _ n23.symm, j_up_ne _ _ n24.symm, j_up_ne _ _ n23.symm, j_up_ne _ _ ea, j_up_ne _ _ e1, j_up_self]
      · rw [j_up_ne _ _ e2]
        by_cases e3 : q = q3
        · subst e3
          rw [j_up_self, j_up_self]
          rfl
        · rw [j_up_ne _ _ e3, j_up_ne _ _ e3]
          by_cases e4 : q = q4
          · subst e4
            rw [j_up_self, j_up_self]
          · rw [j_up_ne _ _ e4, j_up_ne _ _ e4, j_up_ne _ _ e3, j_up_ne _ _ ea, j_up_ne _ _ e1, j_up_ne _ _ e2]
theorem cW_link {S X : Nat → Nat → Nat} {B : Nat → Nat → Int64} {A : Nat → Nat → Int32} {ad : Nat → Nat → Nat} {a b c d q q1 q2 q3 q4 : Nat} (hI : n_inj (cAl S) ad) (hC : cI S X) (h0 : cW S X B A ad q = none) (h1 : cW S X B A ad q1 = none) (h2 : cW S X B A ad q2 = none) (h3 : cW S X B A ad q3 = none) (h4 : cW S X B A ad q4 = none) (m1 : q ≠ q1) (m2 : q ≠ q2) (m3 : q ≠ q3) (m4 : q ≠ q4) (n12 : q1 ≠ q2) (n13 : q1 ≠ q3) (n14 : q1 ≠ q4) (n23 : q2 ≠ q3) (n24 : q2 ≠ q4) (n34 : q3 ≠ q4) : ∃ ad', n_inj (cAl (rLay1 S a b c d)) ad' ∧ (∀ k i, cAl S k i → ad' k i = ad k i) ∧ ad' 6 (S 1 0) = q ∧
    j_up (j_up (j_up (j_up (j_up (j_up (j_up (cW S X B A ad) q4 (.inl (7, 20, qA (fun _ => none)))) q3 (.inr (3, [.ref q4, .int (nI 0), .int (nI 0)]))) q2 (.inl (7, 20, qA (fun _ => none)))) q1 (.inr (3, [.ref q2, .int (nI 0), .int (nI 0)]))) q (.inr (2, [.int (nI a), .int (nI b), .int (nI c), .int (nI d), .ref q1, .ref q3, .int (nI 0)]))) (ad 5 0) (.inl (4, 12, qA (va_up (cRow (S 1 0) (ad 6)) (S 1 0) (some q))))) (ad 0 0) (.inr (0, [.int (nI (S 0 0)), .ref (ad 1 0), .ref (ad 5 0), .ref (ad 9 0), .ref (ad 12 0), .ref (ad 14 0), .int (nI (S 1 0 + 1)), .int (nI (S 18 0)), .int (nI (S 22 0))])) = cW (rLay1 S a b c d) X B A ad' := by
  have f0 := nW_none.mp h0
  have f1 := nW_none.mp h1
  have f2 := nW_none.mp h2
  have f3 := nW_none.mp h3
  have f4 := nW_none.mp h4
  obtain ⟨hC1, hC2, hC3, hC4, hC5, hC6⟩ := hC
  have z5 := hC5 (S 1 0) (Nat.le_refl _)
  obtain ⟨za1, za2, za3⟩ := hC6 (2 * S 1 0) (Nat.le_refl _)
  obtain ⟨zb1, zb2, zb3⟩ := hC6 (2 * S 1 0 + 1) (by omega)
  let ad' : Nat → Nat → Nat := n_up (n_up (n_up (n_up (n_up ad 6 (S 1 0) q) 7 (2 * S 1 0) q1) 8 (2 * S 1 0) q2) 7 (2 * S 1 0 + 1) q3) 8 (2 * S 1 0 + 1) q4
  have d0 : ¬ cAl S 6 (S 1 0) := fun z => Nat.lt_irrefl _ z
  have d1 : ¬ cAl S 7 (2 * S 1 0) := fun z => Nat.lt_irrefl _ z
  have d2 : ¬ cAl S 8 (2 * S 1 0) := fun z => Nat.lt_irrefl _ z
  have d3 : ¬ cAl S 7 (2 * S 1 0 + 1) := fun z => by have z : 2 * S 1 0 + 1 < 2 * S 1 0 := z; omega
  have d4 : ¬ cAl S 8 (2 * S 1 0 + 1) := fun z => by have z : 2 * S 1 0 + 1 < 2 * S 1 0 := z; omega
  have u4 : ad' 8 (2 * S 1 0 + 1) = q4 := n_up_self _ _ _ _
  have u3 : ad' 7 (2 * S 1 0 + 1) = q3 := (n_up_ne _ _ (by omega)).trans (n_up_self _ _ _ _)
  have u2 : ad' 8 (2 * S 1 0) = q2 := (n_up_ne _ _ (by omega)).trans ((n_up_ne _ _ (by omega)).trans (n_up_self _ _ _ _))
  have u1 : ad' 7 (2 * S 1 0) = q1 := (n_up_ne _ _ (by omega)).trans ((n_up_ne _ _ (by omega)).trans ((n_up_ne _ _ (by omega)).trans (n_up_self _ _ _ _)))
  have u0 : ad' 6 (S 1 0) = q := (n_up_ne _ _ (by omega)).trans ((n_up_ne _ _ (by omega)).trans ((n_up_ne _ _ (by omega)).trans ((n_up_ne _ _ (by omega)).trans (n_up_self _ _ _ _))))
  have aad : ∀ k i, cAl S k i → ad' k i = ad k i := by
    intro k i hk
    show n_up (n_up (n_up (n_up (n_up ad 6 (S 1 0) q) 7 (2 * S 1 0) q1) 8 (2 * S 1 0) q2) 7 (2 * S 1 0 + 1) q3) 8 (2 * S 1 0 + 1) q4 k i = ad k i
    rw [n_up_ne, n_up_ne, n_up_ne, n_up_ne, n_up_ne]
    · rintro ⟨rfl, rfl⟩; exact d0 hk
    · rintro ⟨rfl, rfl⟩; exact d1 hk
    · rintro ⟨rfl, rfl⟩; exact d2 hk
    · rintro ⟨rfl, rfl⟩; exact d3 hk
    · rintro ⟨rfl, rfl⟩; exact d4 hk
  obtain ⟨hI', ew⟩ := cW_ad (S := S) (X := X) (B := B) (A := A) (ad := ad) (ad' := ad') hI hC4 hC3 aad
  have i4 : n_inj (fun x y => cAl S x y ∨ (x = 8 ∧ y = 2 * S 1 0 + 1)) ad' := by
    refine n_inj_ext hI' (fun x y hxy => ?_)
    rw [aad x y hxy, u4]
    exact f4 x y hxy
  have i3 : n_inj (fun x y => (cAl S x y ∨ (x = 8 ∧ y = 2 * S 1 0 + 1)) ∨ (x = 7 ∧ y = 2 * S 1 0 + 1)) ad' := by
    refine n_inj_ext i4 (fun x y hxy => ?_)
    rcases hxy with hxy | ⟨rfl, rfl⟩
    · rw [aad x y hxy, u3]
      exact f3 x y hxy
    · rw [u3, u4]; exact n34.symm
  have i2 : n_inj (fun x y => ((cAl S x y ∨ (x = 8 ∧ y = 2 * S 1 0 + 1)) ∨ (x = 7 ∧ y = 2 * S 1 0 + 1)) ∨ (x = 8 ∧ y = 2 * S 1 0)) ad' := by
    refine n_inj_ext i3 (fun x y hxy => ?_)
    rcases hxy with (hxy | ⟨rfl, rfl⟩) | ⟨rfl, rfl⟩
    · rw [aad x y hxy, u2]
      exact f2 x y hxy
    · rw [u2, u4]; exact n24.symm
    · rw [u2, u3]; exact n23.symm
  have i1 : n_inj (fun x y => (((cAl S x y ∨ (x = 8 ∧ y = 2 * S 1 0 + 1)) ∨ (x = 7 ∧ y = 2 * S 1 0 + 1)) ∨ (x = 8 ∧ y = 2 * S 1 0)) ∨ (x = 7 ∧ y = 2 * S 1 0)) ad' := by
    refine n_inj_ext i2 (fun x y hxy => ?_)
    rcases hxy with ((hxy | ⟨rfl, rfl⟩) | ⟨rfl, rfl⟩) | ⟨rfl, rfl⟩
    · rw [aad x y hxy, u1]
      exact f1 x y hxy
    · rw [u1, u4]; exact n14.symm
    · rw [u1, u3]; exact n13.symm
    · rw [u1, u2]; exact n12.symm
  have i0 : n_inj (fun x y => ((((cAl S x y ∨ (x = 8 ∧ y = 2 * S 1 0 + 1)) ∨ (x = 7 ∧ y = 2 * S 1 0 + 1)) ∨ (x = 8 ∧ y = 2 * S 1 0)) ∨ (x = 7 ∧ y = 2 * S 1 0)) ∨ (x = 6 ∧ y = S 1 0)) ad' := by
    refine n_inj_ext i1 (fun x y hxy => ?_)
    rcases hxy with (((hxy | ⟨rfl, rfl⟩) | ⟨rfl, rfl⟩) | ⟨rfl, rfl⟩) | ⟨rfl, rfl⟩
    · rw [aad x y hxy, u0]
      exact f0 x y hxy
    · rw [u0, u4]; exact m4.symm
    · rw [u0, u3]; exact m3.symm
    · rw [u0, u2]; exact m2.symm
    · rw [u0, u1]; exact m1.symm
  have al50 : cAl S 5 0 := rfl
  have al00 : cAl S 0 0 := rfl
  have i5 : n_inj (fun x y => (((((cAl S x y ∨ (x = 8 ∧ y = 2 * S 1 0 + 1)) ∨ (x = 7 ∧ y = 2 * S 1 0 + 1)) ∨ (x = 8 ∧ y = 2 * S 1 0)) ∨ (x = 7 ∧ y = 2 * S 1 0)) ∨ (x = 6 ∧ y = S 1 0)) ∨ (x = 5 ∧ y = 0)) ad' := by
    refine n_inj_congr (fun x y hxy => ?_) i0
    rcases hxy with hxy | ⟨rfl, rfl⟩
    · exact hxy
    · exact Or.inl (Or.inl (Or.inl (Or.inl (Or.inl al50))))
  have i6 : n_inj (fun x y => ((((((cAl S x y ∨ (x = 8 ∧ y = 2 * S 1 0 + 1)) ∨ (x = 7 ∧ y = 2 * S 1 0 + 1)) ∨ (x = 8 ∧ y = 2 * S 1 0)) ∨ (x = 7 ∧ y = 2 * S 1 0)) ∨ (x = 6 ∧ y = S 1 0)) ∨ (x = 5 ∧ y = 0)) ∨ (x = 0 ∧ y = 0)) ad' := by
    refine n_inj_congr (fun x y hxy => ?_) i5
    rcases hxy with hxy | ⟨rfl, rfl⟩
    · exact hxy
    · exact Or.inl (Or.inl (Or.inl (Or.inl (Or.inl (Or.inl al00)))))
  have e1 : rLay1 S a b c d 1 0 = S 1 0 + 1 := rfl
  have hal : ∀ k i, (((((((cAl S k i ∨ (k = 8 ∧ i = 2 * S 1 0 + 1)) ∨ (k = 7 ∧ i = 2 * S 1 0 + 1)) ∨ (k = 8 ∧ i = 2 * S 1 0)) ∨ (k = 7 ∧ i = 2 * S 1 0)) ∨ (k = 6 ∧ i = S 1 0)) ∨ (k = 5 ∧ i = 0)) ∨ (k = 0 ∧ i = 0)) ↔ cAl (rLay1 S a b c d) k i := by
    intro k i
    by_cases k6 : k = 6
    · subst k6
      show (((((((i < S 1 0 ∨ (6 = 8 ∧ i = 2 * S 1 0 + 1)) ∨ (6 = 7 ∧ i = 2 * S 1 0 + 1)) ∨ (6 = 8 ∧ i = 2 * S 1 0)) ∨ (6 = 7 ∧ i = 2 * S 1 0)) ∨ (6 = 6 ∧ i = S 1 0)) ∨ (6 = 5 ∧ i = 0)) ∨ (6 = 0 ∧ i = 0)) ↔ i < rLay1 S a b c d 1 0
      rw [e1]
      omega
    · by_cases k7 : k = 7
      · subst k7
        show (((((((i < 2 * S 1 0 ∨ (7 = 8 ∧ i = 2 * S 1 0 + 1)) ∨ (7 = 7 ∧ i = 2 * S 1 0 + 1)) ∨ (7 = 8 ∧ i = 2 * S 1 0)) ∨ (7 = 7 ∧ i = 2 * S 1 0)) ∨ (7 = 6 ∧ i = S 1 0)) ∨ (7 = 5 ∧ i = 0)) ∨ (7 = 0 ∧ i = 0)) ↔ i < 2 * rLay1 S a b c d 1 0
        rw [e1]
        omega
      · by_cases k8 : k = 8
        · subst k8
          show (((((((i < 2 * S 1 0 ∨ (8 = 8 ∧ i = 2 * S 1 0 + 1)) ∨ (8 = 7 ∧ i = 2 * S 1 0 + 1)) ∨ (8 = 8 ∧ i = 2 * S 1 0)) ∨ (8 = 7 ∧ i = 2 * S 1 0)) ∨ (8 = 6 ∧ i = S 1 0)) ∨ (8 = 5 ∧ i = 0)) ∨ (8 = 0 ∧ i = 0)) ↔ i < 2 * rLay1 S a b c d 1 0
          rw [e1]
          omega
        · have e : cAl S k i ↔ cAl (rLay1 S a b c d) k i := by
            unfold cAl
            split <;> first | exact Iff.rfl | exact absurd rfl k6 | exact absurd rfl k7 | exact absurd rfl k8
          rw [← e]
          constructor
          · rintro (((((((z | z) | z) | z) | z) | z) | z) | z)
            · exact z
            · exact absurd z.1 k8
            · exact absurd z.1 k7
            · exact absurd z.1 k8
            · exact absurd z.1 k7
            · exact absurd z.1 k6
            · rw [z.1, z.2]; exact al50
            · rw [z.1, z.2]; exact al00
          · exact fun z => Or.inl (Or.inl (Or.inl (Or.inl (Or.inl (Or.inl (Or.inl z))))))
  have rnone : ∀ j, (∀ i, i < 20 → X 1 (20 * j + i) = 0) → cAds 20 (fun i => X 1 (20 * j + i)) (ad' 18) = fun _ => none := by
    intro j hj
    funext i
    unfold cAds
    by_cases hi : i < 20
    · rw [if_neg (fun z => z.2 (hj i hi))]
    · rw [if_neg (fun z => hi z.1)]
  refine ⟨ad', n_inj_congr (fun k i hk => (hal k i).mpr hk) i6, aad, u0, ?_⟩
  rw [ew, ← aad 0 0 rfl, ← aad 1 0 rfl, ← aad 5 0 rfl, ← aad 9 0 rfl, ← aad 12 0 rfl, ← aad 14 0 rfl]
  unfold cW
  rw [← u4, nW_up _ i4, ← u3, nW_up _ i3, ← u2, nW_up _ i2, ← u1, nW_up _ i1, ← u0, nW_up _ i0, nW_up _ i5, nW_up _ i6]
  refine nW_congr i6 hal (fun _ _ _ => rfl) (fun k i hk => ?_)
  by_cases c0 : k = 0 ∧ i = 0
  · obtain ⟨rfl, rfl⟩ := c0
    rw [n_up_self]
    rfl
  rw [n_up_ne _ _ c0]
  by_cases c5 : k = 5 ∧ i = 0
  · obtain ⟨rfl, rfl⟩ := c5
    rw [n_up_self]
    show (Sum.inl (4, 12, qA (va_up (cRow (S 1 0) (ad 6)) (S 1 0) (some (ad' 6 (S 1 0))))) : jE) = Sum.inl (4, 12, qA (cRow (S 1 0 + 1) (ad' 6)))
    have : va_up (cRow (S 1 0) (ad 6)) (S 1 0) (some (ad' 6 (S 1 0))) = cRow (S 1 0 + 1) (ad' 6) := by
      funext j
      rw [va_up_c]
      unfold cRow
      by_cases hj : j = S 1 0
      · rw [if_pos hj, if_pos (by omega), hj]
      · rw [if_neg hj]
        by_cases hj2 : j < S 1 0
        · rw [if_pos hj2, if_pos (by omega), aad 6 j hj2]
        · rw [if_neg hj2, if_neg (by omega)]
    rw [this]
  rw [n_up_ne _ _ c5]
  by_cases c6 : k = 6 ∧ i = S 1 0
  · obtain ⟨rfl, rfl⟩ := c6
    rw [n_up_self]
    show _ = (Sum.inr (2, [.int (nI (rLay1 S a b c d 2 (2 * S 1 0))), .int (nI (rLay1 S a b c d 2 (2 * S 1 0 + 1))), .int (nI (rLay1 S a b c d 3 (S 1 0))), .int (nI (rLay1 S a b c d 4 (S 1 0))), .ref (ad' 7 (2 * S 1 0)), .ref (ad' 7 (2 * S 1 0 + 1)), .int (nI (S 5 (S 1 0)))]) : jE)
    have x1 : rLay1 S a b c d 2 (2 * S 1 0) = a := (va_up_ne _ _ (by omega)).trans (va_up_self _ _ _)
    have x2 : rLay1 S a b c d 2 (2 * S 1 0 + 1) = b := va_up_self _ _ _
    have x3 : rLay1 S a b c d 3 (S 1 0) = c := va_up_self _ _ _
    have x4 : rLay1 S a b c d 4 (S 1 0) = d := va_up_self _ _ _
    rw [x1, x2, x3, x4, z5]
  rw [n_up_ne _ _ c6]
  by_cases c7 : k = 7 ∧ i = 2 * S 1 0
  · obtain ⟨rfl, rfl⟩ := c7
    rw [n_up_self]
    show _ = (Sum.inr (3, [.ref (ad' 8 (2 * S 1 0)), .int (nI (X 0 (2 * S 1 0))), .int (nI (S 16 (2 * S 1 0)))]) : jE)
    rw [za1, za2]
  rw [n_up_ne _ _ c7]
  by_cases c8 : k = 8 ∧ i = 2 * S 1 0
  · obtain ⟨rfl, rfl⟩ := c8
    rw [n_up_self]
    show _ = (Sum.inl (7, 20, qA (cAds 20 (fun j => X 1 (20 * (2 * S 1 0) + j)) (ad' 18))) : jE)
    rw [rnone _ za3]
  rw [n_up_ne _ _ c8]
  by_cases c9 : k = 7 ∧ i = 2 * S 1 0 + 1
  · obtain ⟨rfl, rfl⟩ := c9
    rw [n_up_self]
    show _ = (Sum.inr (3, [.ref (ad' 8 (2 * S 1 0 + 1)), .int (nI (X 0 (2 * S 1 0 + 1))), .int (nI (S 16 (2 * S 1 0 + 1)))]) : jE)
    rw [zb1, zb2]
  rw [n_up_ne _ _ c9]
  by_cases c10 : k = 8 ∧ i = 2 * S 1 0 + 1
  · obtain ⟨rfl, rfl⟩ := c10
    rw [n_up_self]
    show _ = (Sum.inl (7, 20, qA (cAds 20 (fun j => X 1 (20 * (2 * S 1 0 + 1) + j)) (ad' 18))) : jE)
    rw [rnone _ zb3]
  rw [n_up_ne _ _ c10]
  have hk' : cAl S k i := by
    rcases hk with ((((((z | z) | z) | z) | z) | z) | z) | z
    · exact z
    · exact absurd z c10
    · exact absurd z c9
    · exact absurd z c8
    · exact absurd z c7
    · exact absurd z c6
    · exact absurd z c5
    · exact absurd z c0
  unfold cCt
  split <;> first | rfl | exact absurd ⟨rfl, hk'⟩ c0 | exact absurd ⟨rfl, hk'⟩ c5 | skip
  have hi : i < S 1 0 := hk'
  have x1 : rLay1 S a b c d 2 (2 * i) = S 2 (2 * i) := (va_up_ne _ _ (by omega)).trans (va_up_ne _ _ (by omega))
  have x2 : rLay1 S a b c d 2 (2 * i + 1) = S 2 (2 * i + 1) := (va_up_ne _ _ (by omega)).trans (va_up_ne _ _ (by omega))
  have x3 : rLay1 S a b c d 3 i = S 3 i := va_up_ne _ _ (by omega)
  have x4 : rLay1 S a b c d 4 i = S 4 i := va_up_ne _ _ (by omega)
  rw [x1, x2, x3, x4]
  rfl
