/-! THE CLASS'S CONSTRUCTOR -/
theorem j_up_4 (w : jW) {a q1 q2 q3 : Nat} (e f1 f2 f3 g : jE) : j_up (j_up (j_up (j_up (j_up w a e) q3 f3) q2 f2) q1 f1) a g = j_up (j_up (j_up (j_up w q3 f3) q2 f2) q1 f1) a g := by
  funext q
  by_cases h1 : q = a
  · subst h1
    rw [j_up_self, j_up_self]
  · rw [j_up_ne _ _ h1, j_up_ne _ _ h1]
    by_cases h2 : q = q1
    · subst h2
      rw [j_up_self, j_up_self]
    · rw [j_up_ne _ _ h2, j_up_ne _ _ h2]
      by_cases h3 : q = q2
      · subst h3
        rw [j_up_self, j_up_self]
      · rw [j_up_ne _ _ h3, j_up_ne _ _ h3]
        by_cases h4 : q = q3
        · subst h4
          rw [j_up_self, j_up_self]
        · rw [j_up_ne _ _ h4, j_up_ne _ _ h4, j_up_ne _ _ h1]
set_option maxHeartbeats 4000000 in
set_option maxRecDepth 100000 in
theorem sp_Chart_init {w : jW} {p : Nat} {c0 : jE} {post : Option Value → jW → Prop} (hc : c0 = .inr (5, [.null, .null, .null])) (h : ∀ q1 q2 q3, j_up w p c0 q1 = none → j_up (j_up w p c0) q1 (.inl (0, 8, .inl (fun _ => 0))) q2 = none → j_up (j_up (j_up w p c0) q1 (.inl (0, 8, .inl (fun _ => 0)))) q2 (.inl (0, 8, .inl (fun _ => 0))) q3 = none → post none (j_up (j_up (j_up (j_up w q1 (.inl (0, 8, .inl (fun _ => 0)))) q2 (.inl (0, 8, .inl (fun _ => 0)))) q3 (.inl (1, 12, .inl (fun _ => 0)))) p (.inr (5, [.ref q1, .ref q2, .ref q3])))) : j_sem m_Chart_init [.ref p] (j_up w p c0) 3 28 post := by
  refine j_sem_of (by decide +kernel) (Nat.le_of_ble_eq_true rfl) ?_
  show j_S _ _ 0 [some (.ref p)] [] _ 3 28
  subst hc
  refine j_runs [] ok_Chart_init 60 ?_
  simp (disch := first | omega | simp (disch := omega) only [sA_ne, sA_self]) only [st_Chart_init, j_up_self, j_k, List.mem_cons, List.not_mem_nil, or_false, or_self, if_false, if_true, ↓reduceIte, List.getElem?_cons_zero, List.getElem?_cons_succ, List.set_cons_zero, List.set_cons_succ, List.length_cons, List.length_nil, g_ld_s, g_v_s, g_ob_s, g_ia_s, g_la_s, g_qa_s, g_al_s, t_i_s, t_a_r, t_a_n, t_a_q, t_l_s, true_and, and_true, and_self, true_or, or_true, Decidable.not_not, not_true_eq_false, not_false_eq_true, false_implies, true_implies, implies_true, j_ok1_s, j_isL, j_cat_i, j_cat_l, j_cat_r, j_cat_n, j_rf_cat, j_rf_some, j_rf_none, k_w8_0, k_w8_i, k_w8_r, k_w8_l, k_sum0, k_ints, k_nari, k_narz0, k_narz1, k_okv0, k_okv1, k_okv2, k_okv2n, k_okv3, Option.toList_some, Option.toList_none, List.cons_append, List.nil_append, List.append_nil, List.map_cons, List.map_nil, List.sum_cons, List.sum_nil, Nat.add_zero, Nat.zero_add, Nat.reduceAdd, Nat.reduceMul, Nat.reduceSub, Nat.reduceDiv, Nat.reduceMod, Nat.reduceLT, Nat.reduceLeDiff, Nat.reduceEqDiff, Nat.reduceBEq, Nat.reduceBNe, Nat.one_ne_zero, Nat.zero_ne_one, Nat.succ_ne_self, Nat.le_refl, Nat.sub_self, Nat.sub_zero, Nat.zero_le, reduceCtorEq, eq_self, Bool.false_eq_true, pk_mul, nI_add, k_in, nI_clamp, nI_eq, nI_ltI, nI_leI, k_upd, k_eq0, k_lt0, k_0le, k_0lt, k_le0, k_mod]
  intro q1 f1
  obtain ⟨n1, g1⟩ := fr1 f1
  simp (disch := first | omega | simp (disch := omega) only [sA_ne, sA_self]) only [st_Chart_init, j_up_ne _ _ n1, j_up_self, j_up_3, j_k, List.mem_cons, List.not_mem_nil, or_false, or_self, if_false, if_true, ↓reduceIte, List.getElem?_cons_zero, List.getElem?_cons_succ, List.set_cons_zero, List.set_cons_succ, List.length_cons, List.length_nil, g_ld_s, g_v_s, g_ob_s, g_ia_s, g_la_s, g_qa_s, g_al_s, t_i_s, t_a_r, t_a_n, t_a_q, t_l_s, true_and, and_true, and_self, true_or, or_true, Decidable.not_not, not_true_eq_false, not_false_eq_true, false_implies, true_implies, implies_true, j_ok1_s, j_isL, j_cat_i, j_cat_l, j_cat_r, j_cat_n, j_rf_cat, j_rf_some, j_rf_none, k_w8_0, k_w8_i, k_w8_r, k_w8_l, k_sum0, k_ints, k_nari, k_narz0, k_narz1, k_okv0, k_okv1, k_okv2, k_okv2n, k_okv3, Option.toList_some, Option.toList_none, List.cons_append, List.nil_append, List.append_nil, List.map_cons, List.map_nil, List.sum_cons, List.sum_nil, Nat.add_zero, Nat.zero_add, Nat.reduceAdd, Nat.reduceMul, Nat.reduceSub, Nat.reduceDiv, Nat.reduceMod, Nat.reduceLT, Nat.reduceLeDiff, Nat.reduceEqDiff, Nat.reduceBEq, Nat.reduceBNe, Nat.one_ne_zero, Nat.zero_ne_one, Nat.succ_ne_self, Nat.le_refl, Nat.sub_self, Nat.sub_zero, Nat.zero_le, reduceCtorEq, eq_self, Bool.false_eq_true, pk_mul, nI_add, k_in, nI_clamp, nI_eq, nI_ltI, nI_leI, k_upd, k_eq0, k_lt0, k_0le, k_0lt, k_le0, k_mod]
  intro q2 f2
  obtain ⟨n2, g2⟩ := fr1 f2
  simp (disch := first | omega | simp (disch := omega) only [sA_ne, sA_self]) only [st_Chart_init, j_up_ne _ _ n2, j_up_self, j_up_3, j_k, List.mem_cons, List.not_mem_nil, or_false, or_self, if_false, if_true, ↓reduceIte, List.getElem?_cons_zero, List.getElem?_cons_succ, List.set_cons_zero, List.set_cons_succ, List.length_cons, List.length_nil, g_ld_s, g_v_s, g_ob_s, g_ia_s, g_la_s, g_qa_s, g_al_s, t_i_s, t_a_r, t_a_n, t_a_q, t_l_s, true_and, and_true, and_self, true_or, or_true, Decidable.not_not, not_true_eq_false, not_false_eq_true, false_implies, true_implies, implies_true, j_ok1_s, j_isL, j_cat_i, j_cat_l, j_cat_r, j_cat_n, j_rf_cat, j_rf_some, j_rf_none, k_w8_0, k_w8_i, k_w8_r, k_w8_l, k_sum0, k_ints, k_nari, k_narz0, k_narz1, k_okv0, k_okv1, k_okv2, k_okv2n, k_okv3, Option.toList_some, Option.toList_none, List.cons_append, List.nil_append, List.append_nil, List.map_cons, List.map_nil, List.sum_cons, List.sum_nil, Nat.add_zero, Nat.zero_add, Nat.reduceAdd, Nat.reduceMul, Nat.reduceSub, Nat.reduceDiv, Nat.reduceMod, Nat.reduceLT, Nat.reduceLeDiff, Nat.reduceEqDiff, Nat.reduceBEq, Nat.reduceBNe, Nat.one_ne_zero, Nat.zero_ne_one, Nat.succ_ne_self, Nat.le_refl, Nat.sub_self, Nat.sub_zero, Nat.zero_le, reduceCtorEq, eq_self, Bool.false_eq_true, pk_mul, nI_add, k_in, nI_clamp, nI_eq, nI_ltI, nI_leI, k_upd, k_eq0, k_lt0, k_0le, k_0lt, k_le0, k_mod]
  intro q3 f3
  obtain ⟨n3, g3⟩ := fr1 f3
  simp (disch := first | omega | simp (disch := omega) only [sA_ne, sA_self]) only [st_Chart_init, j_up_ne _ _ n3, j_up_self, j_up_3, j_k, List.mem_cons, List.not_mem_nil, or_false, or_self, if_false, if_true, ↓reduceIte, List.getElem?_cons_zero, List.getElem?_cons_succ, List.set_cons_zero, List.set_cons_succ, List.length_cons, List.length_nil, g_ld_s, g_v_s, g_ob_s, g_ia_s, g_la_s, g_qa_s, g_al_s, t_i_s, t_a_r, t_a_n, t_a_q, t_l_s, true_and, and_true, and_self, true_or, or_true, Decidable.not_not, not_true_eq_false, not_false_eq_true, false_implies, true_implies, implies_true, j_ok1_s, j_isL, j_cat_i, j_cat_l, j_cat_r, j_cat_n, j_rf_cat, j_rf_some, j_rf_none, k_w8_0, k_w8_i, k_w8_r, k_w8_l, k_sum0, k_ints, k_nari, k_narz0, k_narz1, k_okv0, k_okv1, k_okv2, k_okv2n, k_okv3, Option.toList_some, Option.toList_none, List.cons_append, List.nil_append, List.append_nil, List.map_cons, List.map_nil, List.sum_cons, List.sum_nil, Nat.add_zero, Nat.zero_add, Nat.reduceAdd, Nat.reduceMul, Nat.reduceSub, Nat.reduceDiv, Nat.reduceMod, Nat.reduceLT, Nat.reduceLeDiff, Nat.reduceEqDiff, Nat.reduceBEq, Nat.reduceBNe, Nat.one_ne_zero, Nat.zero_ne_one, Nat.succ_ne_self, Nat.le_refl, Nat.sub_self, Nat.sub_zero, Nat.zero_le, reduceCtorEq, eq_self, Bool.false_eq_true, pk_mul, nI_add, k_in, nI_clamp, nI_eq, nI_ltI, nI_leI, k_upd, k_eq0, k_lt0, k_0le, k_0lt, k_le0, k_mod]
  refine h q1 q2 q3 f1 ?_ ?_
  · obtain ⟨m1, g2⟩ := fr1 g2
    rw [j_up_ne _ _ (Ne.symm m1), j_up_ne _ _ (Ne.symm n2)]
    exact g2
  · obtain ⟨m2, g3⟩ := fr1 g3
    obtain ⟨m1, g3⟩ := fr1 g3
    rw [j_up_ne _ _ (Ne.symm m2), j_up_ne _ _ (Ne.symm m1), j_up_ne _ _ (Ne.symm n3)]
    exact g3
set_option maxHeartbeats 4000000 in
set_option maxRecDepth 100000 in
theorem sp_Router_init {w : jW} {p : Nat} {c0 : jE} {post : Option Value → jW → Prop} (hc : c0 = .inr (1, [.null, .null, .int 0, .int 0])) (h : ∀ q1 q2, p ≠ q1 → p ≠ q2 → q1 ≠ q2 → w q1 = none → w q2 = none → post none (j_up (j_up (j_up w q1 (.inl (0, 3, .inl (fun _ => 0)))) q2 (.inl (7, 8, qA (fun _ => none)))) p (.inr (1, [.ref q1, .ref q2, .int 0, .int 0])))) : j_sem m_Router_init [.ref p] (j_up w p c0) 2 11 post := by
  refine j_sem_of (by decide +kernel) (Nat.le_of_ble_eq_true rfl) ?_
  show j_S _ _ 0 [some (.ref p)] [] _ 2 11
  subst hc
  refine j_runs [] ok_Router_init 60 ?_
  simp (disch := first | omega | simp (disch := omega) only [sA_ne, sA_self]) only [st_Router_init, j_up_self, j_k, List.mem_cons, List.not_mem_nil, or_false, or_self, if_false, if_true, ↓reduceIte, List.getElem?_cons_zero, List.getElem?_cons_succ, List.set_cons_zero, List.set_cons_succ, List.length_cons, List.length_nil, g_ld_s, g_v_s, g_ob_s, g_ia_s, g_la_s, g_qa_s, g_al_s, t_i_s, t_a_r, t_a_n, t_a_q, t_l_s, true_and, and_true, and_self, true_or, or_true, Decidable.not_not, not_true_eq_false, not_false_eq_true, false_implies, true_implies, implies_true, j_ok1_s, j_isL, j_cat_i, j_cat_l, j_cat_r, j_cat_n, j_rf_cat, j_rf_some, j_rf_none, k_w8_0, k_w8_i, k_w8_r, k_w8_l, k_sum0, k_ints, k_nari, k_narz0, k_narz1, k_okv0, k_okv1, k_okv2, k_okv2n, k_okv3, Option.toList_some, Option.toList_none, List.cons_append, List.nil_append, List.append_nil, List.map_cons, List.map_nil, List.sum_cons, List.sum_nil, Nat.add_zero, Nat.zero_add, Nat.reduceAdd, Nat.reduceMul, Nat.reduceSub, Nat.reduceDiv, Nat.reduceMod, Nat.reduceLT, Nat.reduceLeDiff, Nat.reduceEqDiff, Nat.reduceBEq, Nat.reduceBNe, Nat.one_ne_zero, Nat.zero_ne_one, Nat.succ_ne_self, Nat.le_refl, Nat.sub_self, Nat.sub_zero, Nat.zero_le, reduceCtorEq, eq_self, Bool.false_eq_true, pk_mul, nI_add, k_in, nI_clamp, nI_eq, nI_ltI, nI_leI, k_upd, k_eq0, k_lt0, k_0le, k_0lt, k_le0, k_mod]
  intro q1 f1
  obtain ⟨n1, g1⟩ := fr1 f1
  simp (disch := first | omega | simp (disch := omega) only [sA_ne, sA_self]) only [st_Router_init, j_up_ne _ _ n1, j_up_self, j_up_3, j_k, List.mem_cons, List.not_mem_nil, or_false, or_self, if_false, if_true, ↓reduceIte, List.getElem?_cons_zero, List.getElem?_cons_succ, List.set_cons_zero, List.set_cons_succ, List.length_cons, List.length_nil, g_ld_s, g_v_s, g_ob_s, g_ia_s, g_la_s, g_qa_s, g_al_s, t_i_s, t_a_r, t_a_n, t_a_q, t_l_s, true_and, and_true, and_self, true_or, or_true, Decidable.not_not, not_true_eq_false, not_false_eq_true, false_implies, true_implies, implies_true, j_ok1_s, j_isL, j_cat_i, j_cat_l, j_cat_r, j_cat_n, j_rf_cat, j_rf_some, j_rf_none, k_w8_0, k_w8_i, k_w8_r, k_w8_l, k_sum0, k_ints, k_nari, k_narz0, k_narz1, k_okv0, k_okv1, k_okv2, k_okv2n, k_okv3, Option.toList_some, Option.toList_none, List.cons_append, List.nil_append, List.append_nil, List.map_cons, List.map_nil, List.sum_cons, List.sum_nil, Nat.add_zero, Nat.zero_add, Nat.reduceAdd, Nat.reduceMul, Nat.reduceSub, Nat.reduceDiv, Nat.reduceMod, Nat.reduceLT, Nat.reduceLeDiff, Nat.reduceEqDiff, Nat.reduceBEq, Nat.reduceBNe, Nat.one_ne_zero, Nat.zero_ne_one, Nat.succ_ne_self, Nat.le_refl, Nat.sub_self, Nat.sub_zero, Nat.zero_le, reduceCtorEq, eq_self, Bool.false_eq_true, pk_mul, nI_add, k_in, nI_clamp, nI_eq, nI_ltI, nI_leI, k_upd, k_eq0, k_lt0, k_0le, k_0lt, k_le0, k_mod]
  intro q2 f2
  obtain ⟨n2, g2⟩ := fr1 f2
  simp (disch := first | omega | simp (disch := omega) only [sA_ne, sA_self]) only [st_Router_init, j_up_ne _ _ n2, j_up_self, j_up_3, j_k, List.mem_cons, List.not_mem_nil, or_false, or_self, if_false, if_true, ↓reduceIte, List.getElem?_cons_zero, List.getElem?_cons_succ, List.set_cons_zero, List.set_cons_succ, List.length_cons, List.length_nil, g_ld_s, g_v_s, g_ob_s, g_ia_s, g_la_s, g_qa_s, g_al_s, t_i_s, t_a_r, t_a_n, t_a_q, t_l_s, true_and, and_true, and_self, true_or, or_true, Decidable.not_not, not_true_eq_false, not_false_eq_true, false_implies, true_implies, implies_true, j_ok1_s, j_isL, j_cat_i, j_cat_l, j_cat_r, j_cat_n, j_rf_cat, j_rf_some, j_rf_none, k_w8_0, k_w8_i, k_w8_r, k_w8_l, k_sum0, k_ints, k_nari, k_narz0, k_narz1, k_okv0, k_okv1, k_okv2, k_okv2n, k_okv3, Option.toList_some, Option.toList_none, List.cons_append, List.nil_append, List.append_nil, List.map_cons, List.map_nil, List.sum_cons, List.sum_nil, Nat.add_zero, Nat.zero_add, Nat.reduceAdd, Nat.reduceMul, Nat.reduceSub, Nat.reduceDiv, Nat.reduceMod, Nat.reduceLT, Nat.reduceLeDiff, Nat.reduceEqDiff, Nat.reduceBEq, Nat.reduceBNe, Nat.one_ne_zero, Nat.zero_ne_one, Nat.succ_ne_self, Nat.le_refl, Nat.sub_self, Nat.sub_zero, Nat.zero_le, reduceCtorEq, eq_self, Bool.false_eq_true, pk_mul, nI_add, k_in, nI_clamp, nI_eq, nI_ltI, nI_leI, k_upd, k_eq0, k_lt0, k_0le, k_0lt, k_le0, k_mod]
  obtain ⟨m1, g2⟩ := fr1 g2
  exact h q1 q2 n1 n2 m1 g1 g2
def iAl (n k i : Nat) : Prop := match k with
  | 0 => i = 0
  | 1 => i = 0
  | 2 => i < n
  | 3 => i < n
  | 4 => i < n
  | 5 => i = 0
  | 9 => i = 0
  | 12 => i = 0
  | 14 => i = 0
  | 15 => i = 0
  | 16 => i = 0
  | 17 => i = 0
  | _ => False
def iCt (z n : Nat) (ad : Nat → Nat → Nat) (k i : Nat) : jE := match k with
  | 0 => .inr (0, [.int (nI z), .ref (ad 1 0), .ref (ad 5 0), .ref (ad 9 0), .ref (ad 12 0), .ref (ad 14 0), .int 0, .int 0, .int 0])
  | 1 => .inl (3, 8, qA (cRow n (ad 2)))
  | 2 => .inr (1, [.ref (ad 3 i), .ref (ad 4 i), .int 0, .int 0])
  | 3 => .inl (0, 3, .inl (fun _ => 0))
  | 4 => .inl (7, 8, qA (fun _ => none))
  | 5 => .inl (4, 12, qA (fun _ => none))
  | 9 => .inl (5, 12, qA (fun _ => none))
  | 12 => .inl (6, 80, qA (fun _ => none))
  | 14 => .inr (5, [.ref (ad 15 0), .ref (ad 16 0), .ref (ad 17 0)])
  | 15 => .inl (0, 8, .inl (fun _ => 0))
  | 16 => .inl (0, 8, .inl (fun _ => 0))
  | _ => .inl (1, 12, .inl (fun _ => 0))
noncomputable def iW (z n : Nat) (ad : Nat → Nat → Nat) : jW := nW (iAl n) ad (iCt z n ad)
theorem iW_8 {z : Nat} {ad : Nat → Nat → Nat} (hI : n_inj (iAl 8) ad) : n_inj (cAl (r0 z)) ad ∧ iW z 8 ad = cW (r0 z) (fun _ _ => 0) (fun _ _ => 0) (fun _ _ => 0) ad := by
  have hal : ∀ k i, iAl 8 k i ↔ cAl (r0 z) k i := by
    intro k i
    have r1 : r0 z 1 0 = 0 := rfl
    have r8 : r0 z 8 0 = 0 := rfl
    have r18 : r0 z 18 0 = 0 := rfl
    have r22 : r0 z 22 0 = 0 := rfl
    unfold iAl cAl
    rw [r1, r8, r18, r22]
    split <;> first | exact Iff.rfl | skip
    rename_i h0 h1 h2 h3 h4 h5 h9 h12 h14 h15 h16 h17
    split <;> first | exact absurd rfl (by assumption) | exact Iff.rfl | exact ⟨fun h => h.elim, fun h => by omega⟩
  refine ⟨n_inj_congr (fun k i h => (hal k i).mpr h) hI, ?_⟩
  refine nW_congr hI hal (fun _ _ _ => rfl) (fun k i hk => ?_)
  have c3 : ∀ i, cPre 3 (fun j => r0 z 7 (3 * i + j)) = fun _ => 0 := by
    intro i
    funext j
    unfold cPre
    split
    · show nI (enc (r0 z 7 (3 * i + j))) = 0
      rw [show r0 z 7 (3 * i + j) = 0 from rfl]
      decide
    · rfl
  have c4 : ∀ i, cAds 8 (fun j => r0 z 15 (8 * i + j)) (ad 18) = fun _ => none := fun i => funext fun j => cAds_0 rfl
  have c5 : ∀ k, cRow 0 (ad k) = fun _ => none := fun k => funext fun j => if_neg (Nat.not_lt_zero j)
  unfold iAl at hk
  split at hk
  · rfl
  · rfl
  · rfl
  · show (Sum.inl (0, 3, Sum.inl (fun _ => 0)) : jE) = Sum.inl (0, 3, Sum.inl (cPre 3 (fun j => r0 z 7 (3 * i + j))))
    rw [c3]
  · show (Sum.inl (7, 8, qA (fun _ => none)) : jE) = Sum.inl (7, 8, qA (cAds 8 (fun j => r0 z 15 (8 * i + j)) (ad 18)))
    rw [c4]
  · show (Sum.inl (4, 12, qA (fun _ => none)) : jE) = Sum.inl (4, 12, qA (cRow 0 (ad 6)))
    rw [c5]
  · show (Sum.inl (5, 12, qA (fun _ => none)) : jE) = Sum.inl (5, 12, qA (cRow 0 (ad 10)))
    rw [c5]
  · show (Sum.inl (6, 80, qA (fun _ => none)) : jE) = Sum.inl (6, 80, qA (cRow 0 (ad 13)))
    rw [c5]
  · rfl
  · rfl
  · rfl
  · rfl
  · exact hk.elim
/-- one router more -/
theorem iW_new {z n q q1 q2 : Nat} {ad : Nat → Nat → Nat} (hI : n_inj (iAl n) ad) (h0 : iW z n ad q = none) (h1 : iW z n ad q1 = none) (h2 : iW z n ad q2 = none) (m1 : q ≠ q1) (m2 : q ≠ q2) (m12 : q1 ≠ q2) : ∃ ad', n_inj (iAl (n + 1)) ad' ∧ ad' 0 0 = ad 0 0 ∧ j_up (j_up (j_up (j_up (iW z n ad) q1 (.inl (0, 3, .inl (fun _ => 0)))) q2 (.inl (7, 8, qA (fun _ => none)))) q (.inr (1, [.ref q1, .ref q2, .int 0, .int 0]))) (ad 1 0) (.inl (3, 8, qA (va_up (cRow n (ad 2)) n (some q)))) = iW z (n + 1) ad' := by
  have f0 := nW_none.mp h0
  have f1 := nW_none.mp h1
  have f2 := nW_none.mp h2
  let ad' : Nat → Nat → Nat := n_up (n_up (n_up ad 2 n q) 3 n q1) 4 n q2
  have d2 : ¬ iAl n 2 n := fun z => Nat.lt_irrefl _ z
  have d3 : ¬ iAl n 3 n := fun z => Nat.lt_irrefl _ z
  have d4 : ¬ iAl n 4 n := fun z => Nat.lt_irrefl _ z
  have u4 : ad' 4 n = q2 := n_up_self _ _ _ _
  have u3 : ad' 3 n = q1 := (n_up_ne _ _ (by omega)).trans (n_up_self _ _ _ _)
  have u2 : ad' 2 n = q := (n_up_ne _ _ (by omega)).trans ((n_up_ne _ _ (by omega)).trans (n_up_self _ _ _ _))
  have aad : ∀ k i, iAl n k i → ad' k i = ad k i := by
    intro k i hk
    show n_up (n_up (n_up ad 2 n q) 3 n q1) 4 n q2 k i = ad k i
    rw [n_up_ne, n_up_ne, n_up_ne]
    · rintro ⟨rfl, rfl⟩; exact d2 hk
    · rintro ⟨rfl, rfl⟩; exact d3 hk
    · rintro ⟨rfl, rfl⟩; exact d4 hk
  have iA : n_inj (iAl n) ad' := fun k i k' i' p1 p2 e => hI k i k' i' p1 p2 (by rw [← aad _ _ p1, ← aad _ _ p2]; exact e)
  have i1 : n_inj (fun x y => iAl n x y ∨ (x = 2 ∧ y = n)) ad' := n_inj_ext iA (fun x y hxy => by rw [aad x y hxy, u2]; exact f0 x y hxy)
  have i2 : n_inj (fun x y => (iAl n x y ∨ (x = 2 ∧ y = n)) ∨ (x = 3 ∧ y = n)) ad' := n_inj_ext i1 (fun x y hxy => by
    rcases hxy with hxy | ⟨rfl, rfl⟩
    · rw [aad x y hxy, u3]; exact f1 x y hxy
    · rw [u2, u3]; exact m1)
  have i3 : n_inj (fun x y => ((iAl n x y ∨ (x = 2 ∧ y = n)) ∨ (x = 3 ∧ y = n)) ∨ (x = 4 ∧ y = n)) ad' := n_inj_ext i2 (fun x y hxy => by
    rcases hxy with (hxy | ⟨rfl, rfl⟩) | ⟨rfl, rfl⟩
    · rw [aad x y hxy, u4]; exact f2 x y hxy
    · rw [u2, u4]; exact m2
    · rw [u3, u4]; exact m12)
  have hal : ∀ k i, iAl (n + 1) k i ↔ (((iAl n k i ∨ (k = 2 ∧ i = n)) ∨ (k = 3 ∧ i = n)) ∨ (k = 4 ∧ i = n)) := by
    intro k i
    by_cases k2 : k = 2
    · subst k2
      show i < n + 1 ↔ (((i < n ∨ (2 = 2 ∧ i = n)) ∨ (2 = 3 ∧ i = n)) ∨ (2 = 4 ∧ i = n))
      omega
    by_cases k3 : k = 3
    · subst k3
      show i < n + 1 ↔ (((i < n ∨ (3 = 2 ∧ i = n)) ∨ (3 = 3 ∧ i = n)) ∨ (3 = 4 ∧ i = n))
      omega
    by_cases k4 : k = 4
    · subst k4
      show i < n + 1 ↔ (((i < n ∨ (4 = 2 ∧ i = n)) ∨ (4 = 3 ∧ i = n)) ∨ (4 = 4 ∧ i = n))
      omega
    have e : iAl (n + 1) k i ↔ iAl n k i := by
      unfold iAl
      split <;> first | exact Iff.rfl | exact absurd rfl k2 | exact absurd rfl k3 | exact absurd rfl k4
    rw [e]
    constructor
    · exact fun q => Or.inl (Or.inl (Or.inl q))
    · rintro (((q | q) | q) | q)
      · exact q
      · exact absurd q.1 k2
      · exact absurd q.1 k3
      · exact absurd q.1 k4
  have hI' : n_inj (iAl (n + 1)) ad' := n_inj_congr (fun k i h => (hal k i).mp h) i3
  have a10 : iAl n 1 0 := rfl
  have ne1 : ∀ k i, iAl n k i → ¬ (k = 1 ∧ i = 0) → ad k i ≠ ad 1 0 := fun k i hk hn e => hn (hI k i 1 0 hk a10 e)
  have q10 : q ≠ ad 1 0 := fun e => f0 1 0 a10 e.symm
  have q11 : q1 ≠ ad 1 0 := fun e => f1 1 0 a10 e.symm
  have q12 : q2 ≠ ad 1 0 := fun e => f2 1 0 a10 e.symm
  refine ⟨ad', hI', aad 0 0 rfl, nW_of hI' (fun k i hk => ?_) (fun x hx => ?_)⟩
  · rcases (hal k i).mp hk with (((hk | ⟨rfl, rfl⟩) | ⟨rfl, rfl⟩) | ⟨rfl, rfl⟩)
    · rw [aad k i hk]
      by_cases c1 : k = 1 ∧ i = 0
      · obtain ⟨rfl, rfl⟩ := c1
        rw [j_up_self]
        show some (Sum.inl (3, 8, qA (va_up (cRow n (ad 2)) n (some q))) : jE) = some (Sum.inl (3, 8, qA (cRow (n + 1) (ad' 2))))
        have : va_up (cRow n (ad 2)) n (some q) = cRow (n + 1) (ad' 2) := by
          funext j
          rw [va_up_c]
          unfold cRow
          by_cases hj : j = n
          · rw [if_pos hj, if_pos (by omega), hj, u2]
          · rw [if_neg hj]
            by_cases hj2 : j < n
            · rw [if_pos hj2, if_pos (by omega), aad 2 j hj2]
            · rw [if_neg hj2, if_neg (by omega)]
        rw [this]
      · rw [j_up_ne _ _ (ne1 k i hk c1), j_up_ne _ _ (f0 k i hk), j_up_ne _ _ (f2 k i hk), j_up_ne _ _ (f1 k i hk)]
        refine (nW_get _ hI hk).trans ?_
        have e : iCt z n ad k i = iCt z (n + 1) ad' k i := by
          unfold iAl at hk
          split at hk
          · show (Sum.inr (0, [Value.int (nI z), .ref (ad 1 0), .ref (ad 5 0), .ref (ad 9 0), .ref (ad 12 0), .ref (ad 14 0), .int 0, .int 0, .int 0]) : jE) = Sum.inr (0, [Value.int (nI z), .ref (ad' 1 0), .ref (ad' 5 0), .ref (ad' 9 0), .ref (ad' 12 0), .ref (ad' 14 0), .int 0, .int 0, .int 0])
            rw [aad 1 0 rfl, aad 5 0 rfl, aad 9 0 rfl, aad 12 0 rfl, aad 14 0 rfl]
          · exact absurd ⟨rfl, hk⟩ c1
          · show (Sum.inr (1, [Value.ref (ad 3 i), .ref (ad 4 i), .int 0, .int 0]) : jE) = Sum.inr (1, [Value.ref (ad' 3 i), .ref (ad' 4 i), .int 0, .int 0])
            rw [aad 3 i hk, aad 4 i hk]
          · rfl
          · rfl
          · rfl
          · rfl
          · rfl
          · show (Sum.inr (5, [Value.ref (ad 15 0), .ref (ad 16 0), .ref (ad 17 0)]) : jE) = Sum.inr (5, [Value.ref (ad' 15 0), .ref (ad' 16 0), .ref (ad' 17 0)])
            rw [aad 15 0 rfl, aad 16 0 rfl, aad 17 0 rfl]
          · rfl
          · rfl
          · rfl
          · exact hk.elim
        rw [e]
    · rw [u2, j_up_ne _ _ q10, j_up_self]
      show some (Sum.inr (1, [Value.ref q1, .ref q2, .int 0, .int 0]) : jE) = some (Sum.inr (1, [Value.ref (ad' 3 i), .ref (ad' 4 i), .int 0, .int 0]))
      rw [u3, u4]
    · rw [u3, j_up_ne _ _ q11, j_up_ne _ _ (Ne.symm m1), j_up_ne _ _ m12, j_up_self]
      rfl
    · rw [u4, j_up_ne _ _ q12, j_up_ne _ _ (Ne.symm m2), j_up_self]
      rfl
  · by_cases e1 : x = ad 1 0
    · exact ⟨1, 0, (hal 1 0).mpr (Or.inl (Or.inl (Or.inl a10))), by rw [aad 1 0 a10, e1]⟩
    rw [j_up_ne _ _ e1] at hx
    by_cases e2 : x = q
    · exact ⟨2, n, Nat.lt_succ_self n, by rw [u2, e2]⟩
    rw [j_up_ne _ _ e2] at hx
    by_cases e3 : x = q2
    · exact ⟨4, n, Nat.lt_succ_self n, by rw [u4, e3]⟩
    rw [j_up_ne _ _ e3] at hx
    by_cases e4 : x = q1
    · exact ⟨3, n, Nat.lt_succ_self n, by rw [u3, e4]⟩
    rw [j_up_ne _ _ e4] at hx
    apply Classical.byContradiction
    intro hno
    refine hx (nW_none.mpr (fun k i hk e => hno ⟨k, i, (hal k i).mpr (Or.inl (Or.inl (Or.inl hk))), ?_⟩))
    rw [aad k i hk]
    exact e
theorem lf_eq {v : Int32} : (if nI 1 < (if v < nI 12 then v else nI 12) then (if v < nI 12 then v else nI 12) else nI 1) = nI (lf v) := by
  unfold lf
  by_cases c : v < 0
  · have c1 : ¬ nI 1 ≤ v := fun q => by
      have : (nI 1 : Int32) < 0 := Int32.lt_of_le_of_lt q c
      exact absurd this (by decide)
    have c2 : v < nI 12 := Int32.lt_of_lt_of_le c (by decide)
    rw [if_neg c1, if_pos c2, if_neg]
    intro q
    have : (nI 1 : Int32) < 0 := Int32.lt_of_lt_of_le q (Int32.le_of_lt c)
    exact absurd this (by decide)
  · obtain ⟨j, hj, rfl⟩ := nI_of c
    have p1 : nI 1 ≤ nI j ↔ 1 ≤ j := nI_leI (by decide) hj
    have p2 : nI j ≤ nI 12 ↔ j ≤ 12 := nI_leI hj (by decide)
    have p3 : nI j < nI 12 ↔ j < 12 := nI_ltI hj (by decide)
    have p4 : nI 1 < nI j ↔ 1 < j := nI_ltI (by decide) hj
    have hN : N (nI j) = j := nI_clamp hj
    by_cases h1 : j < 12
    · rw [if_pos (p3.mpr h1)]
      by_cases h2 : 1 < j
      · rw [if_pos (p4.mpr h2), if_pos (p1.mpr (by omega)), if_pos (p2.mpr (by omega)), hN]
      · rw [if_neg (fun q => h2 (p4.mp q))]
        by_cases h3 : 1 ≤ j
        · rw [if_pos (p1.mpr h3), if_pos (p2.mpr (by omega)), hN, show j = 1 by omega]
        · rw [if_neg (fun q => h3 (p1.mp q))]
    · rw [if_neg (fun q => h1 (p3.mp q)), if_pos (by decide), if_pos (p1.mpr (by omega))]
      by_cases h2 : j ≤ 12
      · rw [if_pos (p2.mpr h2), hN, show j = 12 by omega]
      · rw [if_neg (fun q => h2 (p2.mp q))]
/-! its first nine cells -/
def iKs : List Nat := [0, 14, 17, 16, 15, 12, 9, 5, 1]
theorem iKs_of {k i : Nat} (h : iAl 0 k i) : k ∈ iKs ∧ i = 0 := by
  unfold iAl at h
  split at h <;> first | exact ⟨by decide, h⟩ | exact absurd h (Nat.not_lt_zero _) | exact h.elim
theorem iKs_inj : ∀ k ∈ iKs, ∀ k' ∈ iKs, iKs.idxOf k = iKs.idxOf k' → k = k' := by decide +kernel
theorem iKs_lt : ∀ k ∈ iKs, iKs.idxOf k < 9 := by decide +kernel
set_option maxHeartbeats 4000000 in
set_option maxRecDepth 100000 in
theorem iW_first {a0 q1 q5 q9 q12 q14 q15 q16 q17 z : Nat} (hN : (([(a0, .inr (0, [.int (nI z), .ref q1, .ref q5, .ref q9, .ref q12, .ref q14, .int 0, .int 0, .int 0])), (q14, .inr (5, [.ref q15, .ref q16, .ref q17])), (q17, .inl (1, 12, .inl (fun _ => 0))), (q16, .inl (0, 8, .inl (fun _ => 0))), (q15, .inl (0, 8, .inl (fun _ => 0))), (q12, .inl (6, 80, qA (fun _ => none))), (q9, .inl (5, 12, qA (fun _ => none))), (q5, .inl (4, 12, qA (fun _ => none))), (q1, .inl (3, 8, qA (fun _ => none)))] : List (Nat × jE)).map Prod.fst).Nodup) : ∃ ad, n_inj (iAl 0) ad ∧ ad 0 0 = a0 ∧ jl [(a0, .inr (0, [.int (nI z), .ref q1, .ref q5, .ref q9, .ref q12, .ref q14, .int 0, .int 0, .int 0])), (q14, .inr (5, [.ref q15, .ref q16, .ref q17])), (q17, .inl (1, 12, .inl (fun _ => 0))), (q16, .inl (0, 8, .inl (fun _ => 0))), (q15, .inl (0, 8, .inl (fun _ => 0))), (q12, .inl (6, 80, qA (fun _ => none))), (q9, .inl (5, 12, qA (fun _ => none))), (q5, .inl (4, 12, qA (fun _ => none))), (q1, .inl (3, 8, qA (fun _ => none)))] = iW z 0 ad := by
  have inj : n_inj (iAl 0) (fun k _ => ([a0, q14, q17, q16, q15, q12, q9, q5, q1] : List Nat).getD (iKs.idxOf k) 0) := by
    intro k i k' i' h1 h2 e
    obtain ⟨k1, rfl⟩ := iKs_of h1
    obtain ⟨k2, rfl⟩ := iKs_of h2
    have := l_inj (N := [a0, q14, q17, q16, q15, q12, q9, q5, q1]) hN (iKs_lt k k1) (iKs_lt k' k2) e
    exact ⟨iKs_inj k k1 k' k2 this, rfl⟩
  refine ⟨fun k _ => ([a0, q14, q17, q16, q15, q12, q9, q5, q1] : List Nat).getD (iKs.idxOf k) 0, inj, rfl, ?_⟩
  unfold iW
  refine nW_of inj ?_ ?_
  · intro k i hk
    obtain ⟨k1, rfl⟩ := iKs_of hk
    clear hk
    simp only [iKs, List.mem_cons, List.not_mem_nil, or_false] at k1
    rcases k1 with rfl | rfl | rfl | rfl | rfl | rfl | rfl | rfl | rfl
    · exact jl_get hN (List.mem_of_getElem? (i := 0) rfl)
    · exact jl_get hN (List.mem_of_getElem? (i := 1) rfl)
    · exact jl_get hN (List.mem_of_getElem? (i := 2) rfl)
    · exact jl_get hN (List.mem_of_getElem? (i := 3) rfl)
    · exact jl_get hN (List.mem_of_getElem? (i := 4) rfl)
    · exact jl_get hN (List.mem_of_getElem? (i := 5) rfl)
    · exact jl_get hN (List.mem_of_getElem? (i := 6) rfl)
    · exact jl_get hN (List.mem_of_getElem? (i := 7) rfl)
    · refine (jl_get (e := .inl (3, 8, qA (fun _ => none))) hN (List.mem_of_getElem? (i := 8) rfl)).trans ?_
      show _ = some (Sum.inl (3, 8, qA (cRow 0 _)) : jE)
      rw [show ∀ g, cRow 0 g = fun _ => none from fun g => funext fun j => if_neg (Nat.not_lt_zero j)]
  · intro q hq
    have hm := jl_in hq
    simp only [List.map_cons, List.map_nil, List.mem_cons, List.not_mem_nil, or_false] at hm
    rcases hm with rfl | rfl | rfl | rfl | rfl | rfl | rfl | rfl | rfl
    · exact ⟨0, 0, rfl, rfl⟩
    · exact ⟨14, 0, rfl, rfl⟩
    · exact ⟨17, 0, rfl, rfl⟩
    · exact ⟨16, 0, rfl, rfl⟩
    · exact ⟨15, 0, rfl, rfl⟩
    · exact ⟨12, 0, rfl, rfl⟩
    · exact ⟨9, 0, rfl, rfl⟩
    · exact ⟨5, 0, rfl, rfl⟩
    · exact ⟨1, 0, rfl, rfl⟩
set_option maxHeartbeats 4000000 in
set_option maxRecDepth 100000 in
theorem sp_Net_init {a0 : Nat} {v : Int32} {post : Option Value → jW → Prop} (h : ∀ ad, n_inj (cAl (r0 (lf v))) ad → ad 0 0 = a0 → post none (cW (r0 (lf v)) (fun _ _ => 0) (fun _ _ => 0) (fun _ _ => 0) ad)) : j_sem m_Net_init [.ref a0, .int v] (jl [(a0, .inr (0, [.int 0, .null, .null, .null, .null, .null, .int 0, .int 0, .int 0]))]) 32 263 post := by
  refine j_sem_of (by decide +kernel) (Nat.le_of_ble_eq_true rfl) ?_
  show j_S _ _ 0 [some (.ref a0), some (.int v), none] [] (j_up (jl []) a0 (.inr (0, [.int 0, .null, .null, .null, .null, .null, .int 0, .int 0, .int 0]))) 32 263
  have head : ∀ d i ad, i + d = 8 → n_inj (iAl i) ad → ad 0 0 = a0 → j_S m_Net_init post 67 [some (.ref a0), some (.int v), some (.int (nI i))] [] (iW (lf v) i ad) (3 * d) (15 * d) := by
    intro d
    induction d with
    | zero =>
      intro i ad e hI a
      have e8 : i = 8 := by omega
      subst e8
      obtain ⟨k1, k2⟩ := iW_8 (z := lf v) hI
      rw [k2]
      refine j_runs [] ok_Net_init 12 ?_
      simp (disch := first | omega | simp (disch := omega) only [sA_ne, sA_self]) only [st_Net_init, j_k, List.mem_cons, List.not_mem_nil, or_false, or_self, if_false, if_true, ↓reduceIte, List.getElem?_cons_zero, List.getElem?_cons_succ, List.set_cons_zero, List.set_cons_succ, List.length_cons, List.length_nil, g_ld_s, g_v_s, g_ob_s, g_ia_s, g_la_s, g_qa_s, g_al_s, t_i_s, t_a_r, t_a_n, t_a_q, t_l_s, true_and, and_true, and_self, true_or, or_true, Decidable.not_not, not_true_eq_false, not_false_eq_true, false_implies, true_implies, implies_true, j_ok1_s, j_isL, j_cat_i, j_cat_l, j_cat_r, j_cat_n, j_rf_cat, j_rf_some, j_rf_none, k_w8_0, k_w8_i, k_w8_r, k_w8_l, k_sum0, k_ints, k_nari, k_narz0, k_narz1, k_okv0, k_okv1, k_okv2, k_okv2n, k_okv3, Option.toList_some, Option.toList_none, List.cons_append, List.nil_append, List.append_nil, List.map_cons, List.map_nil, List.sum_cons, List.sum_nil, Nat.add_zero, Nat.zero_add, Nat.reduceAdd, Nat.reduceMul, Nat.reduceSub, Nat.reduceDiv, Nat.reduceMod, Nat.reduceLT, Nat.reduceLeDiff, Nat.reduceEqDiff, Nat.reduceBEq, Nat.reduceBNe, Nat.one_ne_zero, Nat.zero_ne_one, Nat.succ_ne_self, Nat.le_refl, Nat.sub_self, Nat.sub_zero, Nat.zero_le, reduceCtorEq, eq_self, Bool.false_eq_true, pk_mul, nI_add, k_in, nI_clamp, nI_eq, nI_ltI, nI_leI, k_upd, k_eq0, k_lt0, k_0le, k_0lt, k_le0, k_mod]
      exact h ad k1 a
    | succ d ih =>
      intro i ad e hI a
      have g0 : iW (lf v) i ad (ad 0 0) = some (iCt (lf v) i ad 0 0) := nW_get _ hI rfl
      have g1 : iW (lf v) i ad (ad 1 0) = some (.inl (3, 8, qA (cRow i (ad 2)))) := nW_get (ct := iCt (lf v) i ad) hI (show iAl i 1 0 from rfl)
      have g0 : iW (lf v) i ad a0 = some (.inr (0, [.int (nI (lf v)), .ref (ad 1 0), .ref (ad 5 0), .ref (ad 9 0), .ref (ad 12 0), .ref (ad 14 0), .int 0, .int 0, .int 0])) := by rw [← a]; exact g0
      have ec : 3 * (d + 1) - 1 - 2 = 3 * d := by omega
      have es : 15 * (d + 1) - 4 - 11 = 15 * d := by omega
      refine j_runs [67] ok_Net_init 40 ?_
      simp (disch := first | omega | simp (disch := omega) only [sA_ne, sA_self]) only [st_Net_init, g0, j_k, List.mem_cons, List.not_mem_nil, or_false, or_self, if_false, if_true, ↓reduceIte, List.getElem?_cons_zero, List.getElem?_cons_succ, List.set_cons_zero, List.set_cons_succ, List.length_cons, List.length_nil, g_ld_s, g_v_s, g_ob_s, g_ia_s, g_la_s, g_qa_s, g_al_s, t_i_s, t_a_r, t_a_n, t_a_q, t_l_s, true_and, and_true, and_self, true_or, or_true, Decidable.not_not, not_true_eq_false, not_false_eq_true, false_implies, true_implies, implies_true, j_ok1_s, j_isL, j_cat_i, j_cat_l, j_cat_r, j_cat_n, j_rf_cat, j_rf_some, j_rf_none, k_w8_0, k_w8_i, k_w8_r, k_w8_l, k_sum0, k_ints, k_nari, k_narz0, k_narz1, k_okv0, k_okv1, k_okv2, k_okv2n, k_okv3, Option.toList_some, Option.toList_none, List.cons_append, List.nil_append, List.append_nil, List.map_cons, List.map_nil, List.sum_cons, List.sum_nil, Nat.add_zero, Nat.zero_add, Nat.reduceAdd, Nat.reduceMul, Nat.reduceSub, Nat.reduceDiv, Nat.reduceMod, Nat.reduceLT, Nat.reduceLeDiff, Nat.reduceEqDiff, Nat.reduceBEq, Nat.reduceBNe, Nat.one_ne_zero, Nat.zero_ne_one, Nat.succ_ne_self, Nat.le_refl, Nat.sub_self, Nat.sub_zero, Nat.zero_le, reduceCtorEq, eq_self, Bool.false_eq_true, pk_mul, nI_add, k_in, nI_clamp, nI_eq, nI_ltI, nI_leI, k_upd, k_eq0, k_lt0, k_0le, k_0lt, k_le0, k_mod]
      refine ⟨fun c => absurd c (by omega), fun _ => ⟨by omega, by omega, ?_⟩⟩
      intro q hq
      refine g_calln (mc := 2) (ms := 11) (by omega) (by omega) (sp_Router_init rfl (fun q1 q2 n1 n2 n12 f1 f2 => ?_))
      obtain ⟨ad', k1, k2, k3⟩ := iW_new (z := lf v) hI hq f1 f2 n1 n2 n12
      have ne : ∀ x, iW (lf v) i ad x = none → ad 1 0 ≠ x := by rintro x hx rfl; rw [g1] at hx; cases hx
      simp (disch := first | omega | simp (disch := omega) only [sA_ne, sA_self]) only [st_Net_init, j_up_ne _ _ (ne q hq), j_up_ne _ _ (ne q1 f1), j_up_ne _ _ (ne q2 f2), g1, j_up_self, k3, ec, es, j_k, List.mem_cons, List.not_mem_nil, or_false, or_self, if_false, if_true, ↓reduceIte, List.getElem?_cons_zero, List.getElem?_cons_succ, List.set_cons_zero, List.set_cons_succ, List.length_cons, List.length_nil, g_ld_s, g_v_s, g_ob_s, g_ia_s, g_la_s, g_qa_s, g_al_s, t_i_s, t_a_r, t_a_n, t_a_q, t_l_s, true_and, and_true, and_self, true_or, or_true, Decidable.not_not, not_true_eq_false, not_false_eq_true, false_implies, true_implies, implies_true, j_ok1_s, j_isL, j_cat_i, j_cat_l, j_cat_r, j_cat_n, j_rf_cat, j_rf_some, j_rf_none, k_w8_0, k_w8_i, k_w8_r, k_w8_l, k_sum0, k_ints, k_nari, k_narz0, k_narz1, k_okv0, k_okv1, k_okv2, k_okv2n, k_okv3, Option.toList_some, Option.toList_none, List.cons_append, List.nil_append, List.append_nil, List.map_cons, List.map_nil, List.sum_cons, List.sum_nil, Nat.add_zero, Nat.zero_add, Nat.reduceAdd, Nat.reduceMul, Nat.reduceSub, Nat.reduceDiv, Nat.reduceMod, Nat.reduceLT, Nat.reduceLeDiff, Nat.reduceEqDiff, Nat.reduceBEq, Nat.reduceBNe, Nat.one_ne_zero, Nat.zero_ne_one, Nat.succ_ne_self, Nat.le_refl, Nat.sub_self, Nat.sub_zero, Nat.zero_le, reduceCtorEq, eq_self, Bool.false_eq_true, pk_mul, nI_add, k_in, nI_clamp, nI_eq, nI_ltI, nI_leI, k_upd, k_eq0, k_lt0, k_0le, k_0lt, k_le0, k_mod]
      exact ih (i + 1) ad' (by omega) k1 (k2.trans a)
  refine j_runs [13] ok_Net_init 8 ?_
  simp (disch := first | omega | simp (disch := omega) only [sA_ne, sA_self]) only [st_Net_init, j_up_self, j_k, List.mem_cons, List.not_mem_nil, or_false, or_self, if_false, if_true, ↓reduceIte, List.getElem?_cons_zero, List.getElem?_cons_succ, List.set_cons_zero, List.set_cons_succ, List.length_cons, List.length_nil, g_ld_s, g_v_s, g_ob_s, g_ia_s, g_la_s, g_qa_s, g_al_s, t_i_s, t_a_r, t_a_n, t_a_q, t_l_s, true_and, and_true, and_self, true_or, or_true, Decidable.not_not, not_true_eq_false, not_false_eq_true, false_implies, true_implies, implies_true, j_ok1_s, j_isL, j_cat_i, j_cat_l, j_cat_r, j_cat_n, j_rf_cat, j_rf_some, j_rf_none, k_w8_0, k_w8_i, k_w8_r, k_w8_l, k_sum0, k_ints, k_nari, k_narz0, k_narz1, k_okv0, k_okv1, k_okv2, k_okv2n, k_okv3, Option.toList_some, Option.toList_none, List.cons_append, List.nil_append, List.append_nil, List.map_cons, List.map_nil, List.sum_cons, List.sum_nil, Nat.add_zero, Nat.zero_add, Nat.reduceAdd, Nat.reduceMul, Nat.reduceSub, Nat.reduceDiv, Nat.reduceMod, Nat.reduceLT, Nat.reduceLeDiff, Nat.reduceEqDiff, Nat.reduceBEq, Nat.reduceBNe, Nat.one_ne_zero, Nat.zero_ne_one, Nat.succ_ne_self, Nat.le_refl, Nat.sub_self, Nat.sub_zero, Nat.zero_le, reduceCtorEq, eq_self, Bool.false_eq_true, pk_mul, nI_add, k_in, nI_clamp, nI_eq, nI_ltI, nI_leI, k_upd, k_eq0, k_lt0, k_0le, k_0lt, k_le0, k_mod]
  intro q1 f1
  obtain ⟨n1, f1⟩ := fr1 f1
  simp (disch := first | omega | simp (disch := omega) only [sA_ne, sA_self]) only [st_Net_init, j_up_ne _ _ n1, j_up_self, j_up_3, j_k, List.mem_cons, List.not_mem_nil, or_false, or_self, if_false, if_true, ↓reduceIte, List.getElem?_cons_zero, List.getElem?_cons_succ, List.set_cons_zero, List.set_cons_succ, List.length_cons, List.length_nil, g_ld_s, g_v_s, g_ob_s, g_ia_s, g_la_s, g_qa_s, g_al_s, t_i_s, t_a_r, t_a_n, t_a_q, t_l_s, true_and, and_true, and_self, true_or, or_true, Decidable.not_not, not_true_eq_false, not_false_eq_true, false_implies, true_implies, implies_true, j_ok1_s, j_isL, j_cat_i, j_cat_l, j_cat_r, j_cat_n, j_rf_cat, j_rf_some, j_rf_none, k_w8_0, k_w8_i, k_w8_r, k_w8_l, k_sum0, k_ints, k_nari, k_narz0, k_narz1, k_okv0, k_okv1, k_okv2, k_okv2n, k_okv3, Option.toList_some, Option.toList_none, List.cons_append, List.nil_append, List.append_nil, List.map_cons, List.map_nil, List.sum_cons, List.sum_nil, Nat.add_zero, Nat.zero_add, Nat.reduceAdd, Nat.reduceMul, Nat.reduceSub, Nat.reduceDiv, Nat.reduceMod, Nat.reduceLT, Nat.reduceLeDiff, Nat.reduceEqDiff, Nat.reduceBEq, Nat.reduceBNe, Nat.one_ne_zero, Nat.zero_ne_one, Nat.succ_ne_self, Nat.le_refl, Nat.sub_self, Nat.sub_zero, Nat.zero_le, reduceCtorEq, eq_self, Bool.false_eq_true, pk_mul, nI_add, k_in, nI_clamp, nI_eq, nI_ltI, nI_leI, k_upd, k_eq0, k_lt0, k_0le, k_0lt, k_le0, k_mod]
  refine j_runs [22] ok_Net_init 8 ?_
  simp (disch := first | omega | simp (disch := omega) only [sA_ne, sA_self]) only [st_Net_init, j_up_self, j_k, List.mem_cons, List.not_mem_nil, or_false, or_self, if_false, if_true, ↓reduceIte, List.getElem?_cons_zero, List.getElem?_cons_succ, List.set_cons_zero, List.set_cons_succ, List.length_cons, List.length_nil, g_ld_s, g_v_s, g_ob_s, g_ia_s, g_la_s, g_qa_s, g_al_s, t_i_s, t_a_r, t_a_n, t_a_q, t_l_s, true_and, and_true, and_self, true_or, or_true, Decidable.not_not, not_true_eq_false, not_false_eq_true, false_implies, true_implies, implies_true, j_ok1_s, j_isL, j_cat_i, j_cat_l, j_cat_r, j_cat_n, j_rf_cat, j_rf_some, j_rf_none, k_w8_0, k_w8_i, k_w8_r, k_w8_l, k_sum0, k_ints, k_nari, k_narz0, k_narz1, k_okv0, k_okv1, k_okv2, k_okv2n, k_okv3, Option.toList_some, Option.toList_none, List.cons_append, List.nil_append, List.append_nil, List.map_cons, List.map_nil, List.sum_cons, List.sum_nil, Nat.add_zero, Nat.zero_add, Nat.reduceAdd, Nat.reduceMul, Nat.reduceSub, Nat.reduceDiv, Nat.reduceMod, Nat.reduceLT, Nat.reduceLeDiff, Nat.reduceEqDiff, Nat.reduceBEq, Nat.reduceBNe, Nat.one_ne_zero, Nat.zero_ne_one, Nat.succ_ne_self, Nat.le_refl, Nat.sub_self, Nat.sub_zero, Nat.zero_le, reduceCtorEq, eq_self, Bool.false_eq_true, pk_mul, nI_add, k_in, nI_clamp, nI_eq, nI_ltI, nI_leI, k_upd, k_eq0, k_lt0, k_0le, k_0lt, k_le0, k_mod]
  intro q5 f5
  obtain ⟨n5, f5⟩ := fr1 f5
  simp (disch := first | omega | simp (disch := omega) only [sA_ne, sA_self]) only [st_Net_init, j_up_ne _ _ n5, j_up_self, j_up_3, j_k, List.mem_cons, List.not_mem_nil, or_false, or_self, if_false, if_true, ↓reduceIte, List.getElem?_cons_zero, List.getElem?_cons_succ, List.set_cons_zero, List.set_cons_succ, List.length_cons, List.length_nil, g_ld_s, g_v_s, g_ob_s, g_ia_s, g_la_s, g_qa_s, g_al_s, t_i_s, t_a_r, t_a_n, t_a_q, t_l_s, true_and, and_true, and_self, true_or, or_true, Decidable.not_not, not_true_eq_false, not_false_eq_true, false_implies, true_implies, implies_true, j_ok1_s, j_isL, j_cat_i, j_cat_l, j_cat_r, j_cat_n, j_rf_cat, j_rf_some, j_rf_none, k_w8_0, k_w8_i, k_w8_r, k_w8_l, k_sum0, k_ints, k_nari, k_narz0, k_narz1, k_okv0, k_okv1, k_okv2, k_okv2n, k_okv3, Option.toList_some, Option.toList_none, List.cons_append, List.nil_append, List.append_nil, List.map_cons, List.map_nil, List.sum_cons, List.sum_nil, Nat.add_zero, Nat.zero_add, Nat.reduceAdd, Nat.reduceMul, Nat.reduceSub, Nat.reduceDiv, Nat.reduceMod, Nat.reduceLT, Nat.reduceLeDiff, Nat.reduceEqDiff, Nat.reduceBEq, Nat.reduceBNe, Nat.one_ne_zero, Nat.zero_ne_one, Nat.succ_ne_self, Nat.le_refl, Nat.sub_self, Nat.sub_zero, Nat.zero_le, reduceCtorEq, eq_self, Bool.false_eq_true, pk_mul, nI_add, k_in, nI_clamp, nI_eq, nI_ltI, nI_leI, k_upd, k_eq0, k_lt0, k_0le, k_0lt, k_le0, k_mod]
  refine j_runs [31] ok_Net_init 8 ?_
  simp (disch := first | omega | simp (disch := omega) only [sA_ne, sA_self]) only [st_Net_init, j_up_self, j_k, List.mem_cons, List.not_mem_nil, or_false, or_self, if_false, if_true, ↓reduceIte, List.getElem?_cons_zero, List.getElem?_cons_succ, List.set_cons_zero, List.set_cons_succ, List.length_cons, List.length_nil, g_ld_s, g_v_s, g_ob_s, g_ia_s, g_la_s, g_qa_s, g_al_s, t_i_s, t_a_r, t_a_n, t_a_q, t_l_s, true_and, and_true, and_self, true_or, or_true, Decidable.not_not, not_true_eq_false, not_false_eq_true, false_implies, true_implies, implies_true, j_ok1_s, j_isL, j_cat_i, j_cat_l, j_cat_r, j_cat_n, j_rf_cat, j_rf_some, j_rf_none, k_w8_0, k_w8_i, k_w8_r, k_w8_l, k_sum0, k_ints, k_nari, k_narz0, k_narz1, k_okv0, k_okv1, k_okv2, k_okv2n, k_okv3, Option.toList_some, Option.toList_none, List.cons_append, List.nil_append, List.append_nil, List.map_cons, List.map_nil, List.sum_cons, List.sum_nil, Nat.add_zero, Nat.zero_add, Nat.reduceAdd, Nat.reduceMul, Nat.reduceSub, Nat.reduceDiv, Nat.reduceMod, Nat.reduceLT, Nat.reduceLeDiff, Nat.reduceEqDiff, Nat.reduceBEq, Nat.reduceBNe, Nat.one_ne_zero, Nat.zero_ne_one, Nat.succ_ne_self, Nat.le_refl, Nat.sub_self, Nat.sub_zero, Nat.zero_le, reduceCtorEq, eq_self, Bool.false_eq_true, pk_mul, nI_add, k_in, nI_clamp, nI_eq, nI_ltI, nI_leI, k_upd, k_eq0, k_lt0, k_0le, k_0lt, k_le0, k_mod]
  intro q9 f9
  obtain ⟨n9, f9⟩ := fr1 f9
  simp (disch := first | omega | simp (disch := omega) only [sA_ne, sA_self]) only [st_Net_init, j_up_ne _ _ n9, j_up_self, j_up_3, j_k, List.mem_cons, List.not_mem_nil, or_false, or_self, if_false, if_true, ↓reduceIte, List.getElem?_cons_zero, List.getElem?_cons_succ, List.set_cons_zero, List.set_cons_succ, List.length_cons, List.length_nil, g_ld_s, g_v_s, g_ob_s, g_ia_s, g_la_s, g_qa_s, g_al_s, t_i_s, t_a_r, t_a_n, t_a_q, t_l_s, true_and, and_true, and_self, true_or, or_true, Decidable.not_not, not_true_eq_false, not_false_eq_true, false_implies, true_implies, implies_true, j_ok1_s, j_isL, j_cat_i, j_cat_l, j_cat_r, j_cat_n, j_rf_cat, j_rf_some, j_rf_none, k_w8_0, k_w8_i, k_w8_r, k_w8_l, k_sum0, k_ints, k_nari, k_narz0, k_narz1, k_okv0, k_okv1, k_okv2, k_okv2n, k_okv3, Option.toList_some, Option.toList_none, List.cons_append, List.nil_append, List.append_nil, List.map_cons, List.map_nil, List.sum_cons, List.sum_nil, Nat.add_zero, Nat.zero_add, Nat.reduceAdd, Nat.reduceMul, Nat.reduceSub, Nat.reduceDiv, Nat.reduceMod, Nat.reduceLT, Nat.reduceLeDiff, Nat.reduceEqDiff, Nat.reduceBEq, Nat.reduceBNe, Nat.one_ne_zero, Nat.zero_ne_one, Nat.succ_ne_self, Nat.le_refl, Nat.sub_self, Nat.sub_zero, Nat.zero_le, reduceCtorEq, eq_self, Bool.false_eq_true, pk_mul, nI_add, k_in, nI_clamp, nI_eq, nI_ltI, nI_leI, k_upd, k_eq0, k_lt0, k_0le, k_0lt, k_le0, k_mod]
  refine j_runs [40] ok_Net_init 8 ?_
  simp (disch := first | omega | simp (disch := omega) only [sA_ne, sA_self]) only [st_Net_init, j_up_self, j_k, List.mem_cons, List.not_mem_nil, or_false, or_self, if_false, if_true, ↓reduceIte, List.getElem?_cons_zero, List.getElem?_cons_succ, List.set_cons_zero, List.set_cons_succ, List.length_cons, List.length_nil, g_ld_s, g_v_s, g_ob_s, g_ia_s, g_la_s, g_qa_s, g_al_s, t_i_s, t_a_r, t_a_n, t_a_q, t_l_s, true_and, and_true, and_self, true_or, or_true, Decidable.not_not, not_true_eq_false, not_false_eq_true, false_implies, true_implies, implies_true, j_ok1_s, j_isL, j_cat_i, j_cat_l, j_cat_r, j_cat_n, j_rf_cat, j_rf_some, j_rf_none, k_w8_0, k_w8_i, k_w8_r, k_w8_l, k_sum0, k_ints, k_nari, k_narz0, k_narz1, k_okv0, k_okv1, k_okv2, k_okv2n, k_okv3, Option.toList_some, Option.toList_none, List.cons_append, List.nil_append, List.append_nil, List.map_cons, List.map_nil, List.sum_cons, List.sum_nil, Nat.add_zero, Nat.zero_add, Nat.reduceAdd, Nat.reduceMul, Nat.reduceSub, Nat.reduceDiv, Nat.reduceMod, Nat.reduceLT, Nat.reduceLeDiff, Nat.reduceEqDiff, Nat.reduceBEq, Nat.reduceBNe, Nat.one_ne_zero, Nat.zero_ne_one, Nat.succ_ne_self, Nat.le_refl, Nat.sub_self, Nat.sub_zero, Nat.zero_le, reduceCtorEq, eq_self, Bool.false_eq_true, pk_mul, nI_add, k_in, nI_clamp, nI_eq, nI_ltI, nI_leI, k_upd, k_eq0, k_lt0, k_0le, k_0lt, k_le0, k_mod]
  intro q12 f12
  obtain ⟨n12, f12⟩ := fr1 f12
  simp (disch := first | omega | simp (disch := omega) only [sA_ne, sA_self]) only [st_Net_init, j_up_ne _ _ n12, j_up_self, j_up_3, j_k, List.mem_cons, List.not_mem_nil, or_false, or_self, if_false, if_true, ↓reduceIte, List.getElem?_cons_zero, List.getElem?_cons_succ, List.set_cons_zero, List.set_cons_succ, List.length_cons, List.length_nil, g_ld_s, g_v_s, g_ob_s, g_ia_s, g_la_s, g_qa_s, g_al_s, t_i_s, t_a_r, t_a_n, t_a_q, t_l_s, true_and, and_true, and_self, true_or, or_true, Decidable.not_not, not_true_eq_false, not_false_eq_true, false_implies, true_implies, implies_true, j_ok1_s, j_isL, j_cat_i, j_cat_l, j_cat_r, j_cat_n, j_rf_cat, j_rf_some, j_rf_none, k_w8_0, k_w8_i, k_w8_r, k_w8_l, k_sum0, k_ints, k_nari, k_narz0, k_narz1, k_okv0, k_okv1, k_okv2, k_okv2n, k_okv3, Option.toList_some, Option.toList_none, List.cons_append, List.nil_append, List.append_nil, List.map_cons, List.map_nil, List.sum_cons, List.sum_nil, Nat.add_zero, Nat.zero_add, Nat.reduceAdd, Nat.reduceMul, Nat.reduceSub, Nat.reduceDiv, Nat.reduceMod, Nat.reduceLT, Nat.reduceLeDiff, Nat.reduceEqDiff, Nat.reduceBEq, Nat.reduceBNe, Nat.one_ne_zero, Nat.zero_ne_one, Nat.succ_ne_self, Nat.le_refl, Nat.sub_self, Nat.sub_zero, Nat.zero_le, reduceCtorEq, eq_self, Bool.false_eq_true, pk_mul, nI_add, k_in, nI_clamp, nI_eq, nI_ltI, nI_leI, k_upd, k_eq0, k_lt0, k_0le, k_0lt, k_le0, k_mod]
  refine j_runs [67] ok_Net_init 30 ?_
  simp (disch := first | omega | simp (disch := omega) only [sA_ne, sA_self]) only [st_Net_init, j_up_self, j_k, List.mem_cons, List.not_mem_nil, or_false, or_self, if_false, if_true, ↓reduceIte, List.getElem?_cons_zero, List.getElem?_cons_succ, List.set_cons_zero, List.set_cons_succ, List.length_cons, List.length_nil, g_ld_s, g_v_s, g_ob_s, g_ia_s, g_la_s, g_qa_s, g_al_s, t_i_s, t_a_r, t_a_n, t_a_q, t_l_s, true_and, and_true, and_self, true_or, or_true, Decidable.not_not, not_true_eq_false, not_false_eq_true, false_implies, true_implies, implies_true, j_ok1_s, j_isL, j_cat_i, j_cat_l, j_cat_r, j_cat_n, j_rf_cat, j_rf_some, j_rf_none, k_w8_0, k_w8_i, k_w8_r, k_w8_l, k_sum0, k_ints, k_nari, k_narz0, k_narz1, k_okv0, k_okv1, k_okv2, k_okv2n, k_okv3, Option.toList_some, Option.toList_none, List.cons_append, List.nil_append, List.append_nil, List.map_cons, List.map_nil, List.sum_cons, List.sum_nil, Nat.add_zero, Nat.zero_add, Nat.reduceAdd, Nat.reduceMul, Nat.reduceSub, Nat.reduceDiv, Nat.reduceMod, Nat.reduceLT, Nat.reduceLeDiff, Nat.reduceEqDiff, Nat.reduceBEq, Nat.reduceBNe, Nat.one_ne_zero, Nat.zero_ne_one, Nat.succ_ne_self, Nat.le_refl, Nat.sub_self, Nat.sub_zero, Nat.zero_le, reduceCtorEq, eq_self, Bool.false_eq_true, pk_mul, nI_add, k_in, nI_clamp, nI_eq, nI_ltI, nI_leI, k_upd, k_eq0, k_lt0, k_0le, k_0lt, k_le0, k_mod]
  intro q14 f14
  obtain ⟨n14, f14⟩ := fr1 f14
  refine g_calln (mc := 3) (ms := 28) (by decide) (by decide) (sp_Chart_init rfl (fun q15 q16 q17 f15 f16 f17 => ?_))
  obtain ⟨m15, f15⟩ := fr1 f15
  obtain ⟨n15, f15⟩ := fr1 f15
  obtain ⟨p1, f16⟩ := fr1 f16
  obtain ⟨m16, f16⟩ := fr1 f16
  obtain ⟨n16, f16⟩ := fr1 f16
  obtain ⟨p2, f17⟩ := fr1 f17
  obtain ⟨p3, f17⟩ := fr1 f17
  obtain ⟨m17, f17⟩ := fr1 f17
  obtain ⟨n17, f17⟩ := fr1 f17
  simp (disch := first | omega | simp (disch := omega) only [sA_ne, sA_self]) only [st_Net_init, j_up_ne _ _ n14, j_up_ne _ _ n15, j_up_ne _ _ n16, j_up_ne _ _ n17, j_up_self, j_up_5, j_k, List.mem_cons, List.not_mem_nil, or_false, or_self, if_false, if_true, ↓reduceIte, List.getElem?_cons_zero, List.getElem?_cons_succ, List.set_cons_zero, List.set_cons_succ, List.length_cons, List.length_nil, g_ld_s, g_v_s, g_ob_s, g_ia_s, g_la_s, g_qa_s, g_al_s, t_i_s, t_a_r, t_a_n, t_a_q, t_l_s, true_and, and_true, and_self, true_or, or_true, Decidable.not_not, not_true_eq_false, not_false_eq_true, false_implies, true_implies, implies_true, j_ok1_s, j_isL, j_cat_i, j_cat_l, j_cat_r, j_cat_n, j_rf_cat, j_rf_some, j_rf_none, k_w8_0, k_w8_i, k_w8_r, k_w8_l, k_sum0, k_ints, k_nari, k_narz0, k_narz1, k_okv0, k_okv1, k_okv2, k_okv2n, k_okv3, Option.toList_some, Option.toList_none, List.cons_append, List.nil_append, List.append_nil, List.map_cons, List.map_nil, List.sum_cons, List.sum_nil, Nat.add_zero, Nat.zero_add, Nat.reduceAdd, Nat.reduceMul, Nat.reduceSub, Nat.reduceDiv, Nat.reduceMod, Nat.reduceLT, Nat.reduceLeDiff, Nat.reduceEqDiff, Nat.reduceBEq, Nat.reduceBNe, Nat.one_ne_zero, Nat.zero_ne_one, Nat.succ_ne_self, Nat.le_refl, Nat.sub_self, Nat.sub_zero, Nat.zero_le, reduceCtorEq, eq_self, Bool.false_eq_true, pk_mul, nI_add, k_in, nI_clamp, nI_eq, nI_ltI, nI_leI, k_upd, k_eq0, k_lt0, k_0le, k_0lt, k_le0, k_mod]
  refine g_call0 (sp_Math_min ?_)
  simp (disch := first | omega | simp (disch := omega) only [sA_ne, sA_self]) only [st_Net_init, j_k, List.mem_cons, List.not_mem_nil, or_false, or_self, if_false, if_true, ↓reduceIte, List.getElem?_cons_zero, List.getElem?_cons_succ, List.set_cons_zero, List.set_cons_succ, List.length_cons, List.length_nil, g_ld_s, g_v_s, g_ob_s, g_ia_s, g_la_s, g_qa_s, g_al_s, t_i_s, t_a_r, t_a_n, t_a_q, t_l_s, true_and, and_true, and_self, true_or, or_true, Decidable.not_not, not_true_eq_false, not_false_eq_true, false_implies, true_implies, implies_true, j_ok1_s, j_isL, j_cat_i, j_cat_l, j_cat_r, j_cat_n, j_rf_cat, j_rf_some, j_rf_none, k_w8_0, k_w8_i, k_w8_r, k_w8_l, k_sum0, k_ints, k_nari, k_narz0, k_narz1, k_okv0, k_okv1, k_okv2, k_okv2n, k_okv3, Option.toList_some, Option.toList_none, List.cons_append, List.nil_append, List.append_nil, List.map_cons, List.map_nil, List.sum_cons, List.sum_nil, Nat.add_zero, Nat.zero_add, Nat.reduceAdd, Nat.reduceMul, Nat.reduceSub, Nat.reduceDiv, Nat.reduceMod, Nat.reduceLT, Nat.reduceLeDiff, Nat.reduceEqDiff, Nat.reduceBEq, Nat.reduceBNe, Nat.one_ne_zero, Nat.zero_ne_one, Nat.succ_ne_self, Nat.le_refl, Nat.sub_self, Nat.sub_zero, Nat.zero_le, reduceCtorEq, eq_self, Bool.false_eq_true, pk_mul, nI_add, k_in, nI_clamp, nI_eq, nI_ltI, nI_leI, k_upd, k_eq0, k_lt0, k_0le, k_0lt, k_le0, k_mod]
  refine g_call0 (sp_Math_max ?_)
  rw [lf_eq]
  simp (disch := first | omega | simp (disch := omega) only [sA_ne, sA_self]) only [st_Net_init, j_up_self, j_up_up, j_k, List.mem_cons, List.not_mem_nil, or_false, or_self, if_false, if_true, ↓reduceIte, List.getElem?_cons_zero, List.getElem?_cons_succ, List.set_cons_zero, List.set_cons_succ, List.length_cons, List.length_nil, g_ld_s, g_v_s, g_ob_s, g_ia_s, g_la_s, g_qa_s, g_al_s, t_i_s, t_a_r, t_a_n, t_a_q, t_l_s, true_and, and_true, and_self, true_or, or_true, Decidable.not_not, not_true_eq_false, not_false_eq_true, false_implies, true_implies, implies_true, j_ok1_s, j_isL, j_cat_i, j_cat_l, j_cat_r, j_cat_n, j_rf_cat, j_rf_some, j_rf_none, k_w8_0, k_w8_i, k_w8_r, k_w8_l, k_sum0, k_ints, k_nari, k_narz0, k_narz1, k_okv0, k_okv1, k_okv2, k_okv2n, k_okv3, Option.toList_some, Option.toList_none, List.cons_append, List.nil_append, List.append_nil, List.map_cons, List.map_nil, List.sum_cons, List.sum_nil, Nat.add_zero, Nat.zero_add, Nat.reduceAdd, Nat.reduceMul, Nat.reduceSub, Nat.reduceDiv, Nat.reduceMod, Nat.reduceLT, Nat.reduceLeDiff, Nat.reduceEqDiff, Nat.reduceBEq, Nat.reduceBNe, Nat.one_ne_zero, Nat.zero_ne_one, Nat.succ_ne_self, Nat.le_refl, Nat.sub_self, Nat.sub_zero, Nat.zero_le, reduceCtorEq, eq_self, Bool.false_eq_true, pk_mul, nI_add, k_in, nI_clamp, nI_eq, nI_ltI, nI_leI, k_upd, k_eq0, k_lt0, k_0le, k_0lt, k_le0, k_mod]
  have hN : (([(a0, .inr (0, [.int (nI (lf v)), .ref q1, .ref q5, .ref q9, .ref q12, .ref q14, .int 0, .int 0, .int 0])), (q14, .inr (5, [.ref q15, .ref q16, .ref q17])), (q17, .inl (1, 12, .inl (fun _ => 0))), (q16, .inl (0, 8, .inl (fun _ => 0))), (q15, .inl (0, 8, .inl (fun _ => 0))), (q12, .inl (6, 80, qA (fun _ => none))), (q9, .inl (5, 12, qA (fun _ => none))), (q5, .inl (4, 12, qA (fun _ => none))), (q1, .inl (3, 8, qA (fun _ => none)))] : List (Nat × jE)).map Prod.fst).Nodup := by
    refine List.nodup_cons.mpr ⟨?_, List.nodup_cons.mpr ⟨?_, List.nodup_cons.mpr ⟨?_, List.nodup_cons.mpr ⟨?_, List.nodup_cons.mpr ⟨?_, List.nodup_cons.mpr ⟨jl_nm (L := [(q9, .inl (5, 12, qA (fun _ => none))), (q5, .inl (4, 12, qA (fun _ => none))), (q1, .inl (3, 8, qA (fun _ => none)))]) f12, List.nodup_cons.mpr ⟨jl_nm (L := [(q5, .inl (4, 12, qA (fun _ => none))), (q1, .inl (3, 8, qA (fun _ => none)))]) f9, List.nodup_cons.mpr ⟨jl_nm (L := [(q1, .inl (3, 8, qA (fun _ => none)))]) f5, List.nodup_cons.mpr ⟨jl_nm (L := []) f1, List.nodup_nil⟩⟩⟩⟩⟩⟩⟩⟩⟩
    · simp only [List.map_cons, List.map_nil, List.mem_cons, List.not_mem_nil, or_false, not_or]
      exact ⟨n14, n17, n16, n15, n12, n9, n5, n1⟩
    · have g := jl_nm (L := [(q12, .inl (6, 80, qA (fun _ => none))), (q9, .inl (5, 12, qA (fun _ => none))), (q5, .inl (4, 12, qA (fun _ => none))), (q1, .inl (3, 8, qA (fun _ => none)))]) f14
      simp only [List.map_cons, List.map_nil, List.mem_cons, List.not_mem_nil, or_false, not_or] at g ⊢
      exact ⟨m17, m16, m15, g⟩
    · have g := jl_nm (L := [(q12, .inl (6, 80, qA (fun _ => none))), (q9, .inl (5, 12, qA (fun _ => none))), (q5, .inl (4, 12, qA (fun _ => none))), (q1, .inl (3, 8, qA (fun _ => none)))]) f17
      simp only [List.map_cons, List.map_nil, List.mem_cons, List.not_mem_nil, or_false, not_or] at g ⊢
      exact ⟨Ne.symm p2, Ne.symm p3, g⟩
    · have g := jl_nm (L := [(q12, .inl (6, 80, qA (fun _ => none))), (q9, .inl (5, 12, qA (fun _ => none))), (q5, .inl (4, 12, qA (fun _ => none))), (q1, .inl (3, 8, qA (fun _ => none)))]) f16
      simp only [List.map_cons, List.map_nil, List.mem_cons, List.not_mem_nil, or_false, not_or] at g ⊢
      exact ⟨Ne.symm p1, g⟩
    · exact jl_nm (L := [(q12, .inl (6, 80, qA (fun _ => none))), (q9, .inl (5, 12, qA (fun _ => none))), (q5, .inl (4, 12, qA (fun _ => none))), (q1, .inl (3, 8, qA (fun _ => none)))]) f15
  obtain ⟨ad, k1, k2, k3⟩ := iW_first (z := lf v) hN
  have := head 8 0 ad (by omega) k1 k2
  rw [← k3] at this
  exact this
