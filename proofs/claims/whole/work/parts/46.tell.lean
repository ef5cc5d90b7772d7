/-! THE CLASS: Arrays.copyOf, makeAdvert, tell -/
theorem st_cpy7 {post : Option Value → jW → Prop} {cut : List Nat} {n : Nat} {ls : jL} {w : jW} {cb sb a m : Nat} {f : Nat → Int32} {r : List Value} (hw : w a = some (.inl (0, m, .inl f))) : j_go (jmt 15) post cut (n + 1) 7 ls (.ref a :: r) w cb sb ↔ j_w8 r ∧ 1 ≤ cb ∧ m ≤ sb ∧ ∀ q, w q = none → j_k (jmt 15) post cut n 10 ls (.ref q :: r) (j_up w q (.inl (0, m, .inl f))) (cb - 1) (sb - m) := by
  refine (j_go_s rfl).trans ?_
  simp only [j_ex]
  rw [hw]
  rfl
theorem st_cpy10 {post : Option Value → jW → Prop} {cut : List Nat} {n : Nat} {ls : jL} {w : jW} {cb sb a m : Nat} {f : Nat → Int32} {r : List Value} (hw : w a = some (.inl (0, m, .inl f))) : j_go (jmt 15) post cut (n + 1) 10 ls (.ref a :: r) w cb sb ↔ j_k (jmt 15) post cut n 13 ls (.ref a :: r) w cb sb := by
  refine (j_go_s rfl).trans ?_
  simp only [j_ex]
  rw [hw]
  exact Iff.rfl
theorem st_cpy28 {post : Option Value → jW → Prop} {cut : List Nat} {k : Nat} {ls : jL} {w : jW} {cb sb a a0 n0 n1 : Nat} {f g : Nat → Int32} {sp dp n : Int32} {r : List Value} (hw0 : w a0 = some (.inl (0, n0, .inl f))) (hw : w a = some (.inl (0, n1, .inl g))) : j_go (jmt 15) post cut (k + 1) 28 ls (.int n :: .int dp :: .ref a :: .int sp :: .ref a0 :: r) w cb sb ↔ j_w8 r ∧ ¬ sp < 0 ∧ ¬ dp < 0 ∧ ¬ n < 0 ∧ sp.toNatClampNeg + n.toNatClampNeg ≤ n0 ∧ dp.toNatClampNeg + n.toNatClampNeg ≤ n1 ∧ j_k (jmt 15) post cut k 31 ls r (j_up w a (.inl (0, n1, .inl (va_cpy f g sp.toNatClampNeg dp.toNatClampNeg n.toNatClampNeg)))) cb sb := by
  refine (j_go_s rfl).trans ?_
  simp only [j_ex]
  rw [hw0, hw]
  rfl
set_option maxHeartbeats 4000000 in
set_option maxRecDepth 100000 in
theorem sp_Arrays_copyOf {w : jW} {a m k : Nat} {f : Nat → Int32} {post : Option Value → jW → Prop} (ha : w a = some (.inl (0, m, .inl f))) (hm : m ≤ 1000) (hk : k ≤ m) (hf : ∀ j, m ≤ j → f j = 0) (h : ∀ q, w q = none → post (some (.ref q)) (j_up w q (.inl (0, k, .inl (fun j => if j < k then f j else 0))))) : j_sem m_Arrays_copyOf [.ref a, .int (nI k)] w 1 m post := by
  refine j_sem_ofF (by decide +kernel) (Nat.le_of_ble_eq_true rfl) ?_
  show j_S _ _ 0 [some (.ref a), some (.int (nI k)), none] [] _ 1 m
  by_cases hkm : k = m
  · subst hkm
    have ef : (fun j => if j < k then f j else 0) = f := by
      funext j
      by_cases hj : j < k
      · rw [if_pos hj]
      · rw [if_neg hj, hf j (by omega)]
    rw [ef] at h
    refine j_runs [] ok_Arrays_copyOf 20 ?_
    simp (disch := first | omega | simp (disch := omega) only [sA_ne, sA_self]) only [st_Arrays_copyOf, k_len, ha, st_cpy7 ha, j_k, List.mem_cons, List.not_mem_nil, or_false, or_self, if_false, if_true, ↓reduceIte, List.getElem?_cons_zero, List.getElem?_cons_succ, List.set_cons_zero, List.set_cons_succ, List.length_cons, List.length_nil, g_ld_s, g_v_s, g_ob_s, g_ia_s, g_la_s, g_qa_s, g_al_s, t_i_s, t_a_r, t_a_n, t_a_q, t_l_s, true_and, and_true, and_self, true_or, or_true, Decidable.not_not, not_true_eq_false, not_false_eq_true, false_implies, true_implies, implies_true, j_ok1_s, j_isL, j_cat_i, j_cat_l, j_cat_r, j_cat_n, j_rf_cat, j_rf_some, j_rf_none, k_w8_0, k_w8_i, k_w8_r, k_w8_l, k_sum0, k_ints, k_nari, k_narz0, k_narz1, k_okv0, k_okv1, k_okv2, k_okv2n, k_okv3, Option.toList_some, Option.toList_none, List.cons_append, List.nil_append, List.append_nil, List.map_cons, List.map_nil, List.sum_cons, List.sum_nil, Nat.add_zero, Nat.zero_add, Nat.reduceAdd, Nat.reduceMul, Nat.reduceSub, Nat.reduceDiv, Nat.reduceMod, Nat.reduceLT, Nat.reduceLeDiff, Nat.reduceEqDiff, Nat.reduceBEq, Nat.reduceBNe, Nat.one_ne_zero, Nat.zero_ne_one, Nat.succ_ne_self, Nat.le_refl, Nat.sub_self, Nat.sub_zero, Nat.zero_le, reduceCtorEq, eq_self, Bool.false_eq_true, pk_mul, nI_add, k_in, nI_clamp, nI_eq, nI_ltI, nI_leI, k_upd, k_eq0, k_lt0, k_0le, k_0lt, k_le0, k_mod]
    intro q hq
    simp (disch := first | omega | simp (disch := omega) only [sA_ne, sA_self]) only [st_cpy10 (j_up_self _ _ _), st_Arrays_copyOf, j_k, List.mem_cons, List.not_mem_nil, or_false, or_self, if_false, if_true, ↓reduceIte, List.getElem?_cons_zero, List.getElem?_cons_succ, List.set_cons_zero, List.set_cons_succ, List.length_cons, List.length_nil, g_ld_s, g_v_s, g_ob_s, g_ia_s, g_la_s, g_qa_s, g_al_s, t_i_s, t_a_r, t_a_n, t_a_q, t_l_s, true_and, and_true, and_self, true_or, or_true, Decidable.not_not, not_true_eq_false, not_false_eq_true, false_implies, true_implies, implies_true, j_ok1_s, j_isL, j_cat_i, j_cat_l, j_cat_r, j_cat_n, j_rf_cat, j_rf_some, j_rf_none, k_w8_0, k_w8_i, k_w8_r, k_w8_l, k_sum0, k_ints, k_nari, k_narz0, k_narz1, k_okv0, k_okv1, k_okv2, k_okv2n, k_okv3, Option.toList_some, Option.toList_none, List.cons_append, List.nil_append, List.append_nil, List.map_cons, List.map_nil, List.sum_cons, List.sum_nil, Nat.add_zero, Nat.zero_add, Nat.reduceAdd, Nat.reduceMul, Nat.reduceSub, Nat.reduceDiv, Nat.reduceMod, Nat.reduceLT, Nat.reduceLeDiff, Nat.reduceEqDiff, Nat.reduceBEq, Nat.reduceBNe, Nat.one_ne_zero, Nat.zero_ne_one, Nat.succ_ne_self, Nat.le_refl, Nat.sub_self, Nat.sub_zero, Nat.zero_le, reduceCtorEq, eq_self, Bool.false_eq_true]
    exact h q hq
  · refine j_runs [] ok_Arrays_copyOf 30 ?_
    simp (disch := first | omega | simp (disch := omega) only [sA_ne, sA_self]) only [st_Arrays_copyOf, k_len, ha, j_k, List.mem_cons, List.not_mem_nil, or_false, or_self, if_false, if_true, ↓reduceIte, List.getElem?_cons_zero, List.getElem?_cons_succ, List.set_cons_zero, List.set_cons_succ, List.length_cons, List.length_nil, g_ld_s, g_v_s, g_ob_s, g_ia_s, g_la_s, g_qa_s, g_al_s, t_i_s, t_a_r, t_a_n, t_a_q, t_l_s, true_and, and_true, and_self, true_or, or_true, Decidable.not_not, not_true_eq_false, not_false_eq_true, false_implies, true_implies, implies_true, j_ok1_s, j_isL, j_cat_i, j_cat_l, j_cat_r, j_cat_n, j_rf_cat, j_rf_some, j_rf_none, k_w8_0, k_w8_i, k_w8_r, k_w8_l, k_sum0, k_ints, k_nari, k_narz0, k_narz1, k_okv0, k_okv1, k_okv2, k_okv2n, k_okv3, Option.toList_some, Option.toList_none, List.cons_append, List.nil_append, List.append_nil, List.map_cons, List.map_nil, List.sum_cons, List.sum_nil, Nat.add_zero, Nat.zero_add, Nat.reduceAdd, Nat.reduceMul, Nat.reduceSub, Nat.reduceDiv, Nat.reduceMod, Nat.reduceLT, Nat.reduceLeDiff, Nat.reduceEqDiff, Nat.reduceBEq, Nat.reduceBNe, Nat.one_ne_zero, Nat.zero_ne_one, Nat.succ_ne_self, Nat.le_refl, Nat.sub_self, Nat.sub_zero, Nat.zero_le, reduceCtorEq, eq_self, Bool.false_eq_true, pk_mul, nI_add, k_in, nI_clamp, nI_eq, nI_ltI, nI_leI, k_upd, k_eq0, k_lt0, k_0le, k_0lt, k_le0, k_mod, hkm]
    refine ⟨by omega, by omega, fun q hq => ?_⟩
    have hqa : a ≠ q := by rintro rfl; rw [ha] at hq; cases hq
    simp (disch := first | omega | simp (disch := omega) only [sA_ne, sA_self]) only [st_Arrays_copyOf, j_up_ne _ _ hqa, k_len, ha, j_k, List.mem_cons, List.not_mem_nil, or_false, or_self, if_false, if_true, ↓reduceIte, List.getElem?_cons_zero, List.getElem?_cons_succ, List.set_cons_zero, List.set_cons_succ, List.length_cons, List.length_nil, g_ld_s, g_v_s, g_ob_s, g_ia_s, g_la_s, g_qa_s, g_al_s, t_i_s, t_a_r, t_a_n, t_a_q, t_l_s, true_and, and_true, and_self, true_or, or_true, Decidable.not_not, not_true_eq_false, not_false_eq_true, false_implies, true_implies, implies_true, j_ok1_s, j_isL, j_cat_i, j_cat_l, j_cat_r, j_cat_n, j_rf_cat, j_rf_some, j_rf_none, k_w8_0, k_w8_i, k_w8_r, k_w8_l, k_sum0, k_ints, k_nari, k_narz0, k_narz1, k_okv0, k_okv1, k_okv2, k_okv2n, k_okv3, Option.toList_some, Option.toList_none, List.cons_append, List.nil_append, List.append_nil, List.map_cons, List.map_nil, List.sum_cons, List.sum_nil, Nat.add_zero, Nat.zero_add, Nat.reduceAdd, Nat.reduceMul, Nat.reduceSub, Nat.reduceDiv, Nat.reduceMod, Nat.reduceLT, Nat.reduceLeDiff, Nat.reduceEqDiff, Nat.reduceBEq, Nat.reduceBNe, Nat.one_ne_zero, Nat.zero_ne_one, Nat.succ_ne_self, Nat.le_refl, Nat.sub_self, Nat.sub_zero, Nat.zero_le, reduceCtorEq, eq_self, Bool.false_eq_true, pk_mul, nI_add, k_in, nI_clamp, nI_eq, nI_ltI, nI_leI, k_upd, k_eq0, k_lt0, k_0le, k_0lt, k_le0, k_mod]
    refine g_call0 (sp_Math_min ?_)
    have e : (if nI k < nI m then nI k else nI m) = nI k := if_pos ((nI_ltI (by omega) (by omega)).mpr (by omega))
    rw [e]
    simp (disch := first | omega | simp (disch := omega) only [sA_ne, sA_self]) only [j_k, List.mem_cons, List.not_mem_nil, or_false, or_self, if_false, if_true, ↓reduceIte, List.getElem?_cons_zero, List.getElem?_cons_succ, List.set_cons_zero, List.set_cons_succ, List.length_cons, List.length_nil, g_ld_s, g_v_s, g_ob_s, g_ia_s, g_la_s, g_qa_s, g_al_s, t_i_s, t_a_r, t_a_n, t_a_q, t_l_s, true_and, and_true, and_self, true_or, or_true, Decidable.not_not, not_true_eq_false, not_false_eq_true, false_implies, true_implies, implies_true, j_ok1_s, j_isL, j_cat_i, j_cat_l, j_cat_r, j_cat_n, j_rf_cat, j_rf_some, j_rf_none, k_w8_0, k_w8_i, k_w8_r, k_w8_l, k_sum0, k_ints, k_nari, k_narz0, k_narz1, k_okv0, k_okv1, k_okv2, k_okv2n, k_okv3, Option.toList_some, Option.toList_none, List.cons_append, List.nil_append, List.append_nil, List.map_cons, List.map_nil, List.sum_cons, List.sum_nil, Nat.add_zero, Nat.zero_add, Nat.reduceAdd, Nat.reduceMul, Nat.reduceSub, Nat.reduceDiv, Nat.reduceMod, Nat.reduceLT, Nat.reduceLeDiff, Nat.reduceEqDiff, Nat.reduceBEq, Nat.reduceBNe, Nat.one_ne_zero, Nat.zero_ne_one, Nat.succ_ne_self, Nat.le_refl, Nat.sub_self, Nat.sub_zero, Nat.zero_le, reduceCtorEq, eq_self, Bool.false_eq_true]
    rw [st_cpy28 ((j_up_ne _ _ hqa).trans ha) (j_up_self _ _ _)]
    have n0 : ¬ nI k < 0 := nI_pos (by omega)
    have n1 : (nI 0).toNatClampNeg = 0 := by decide
    have n2 : ¬ nI 0 < 0 := by decide
    simp (disch := first | omega | simp (disch := omega) only [sA_ne, sA_self]) only [st_Arrays_copyOf, n0, n1, n2, j_up_up, j_k, List.mem_cons, List.not_mem_nil, or_false, or_self, if_false, if_true, ↓reduceIte, List.getElem?_cons_zero, List.getElem?_cons_succ, List.set_cons_zero, List.set_cons_succ, List.length_cons, List.length_nil, g_ld_s, g_v_s, g_ob_s, g_ia_s, g_la_s, g_qa_s, g_al_s, t_i_s, t_a_r, t_a_n, t_a_q, t_l_s, true_and, and_true, and_self, true_or, or_true, Decidable.not_not, not_true_eq_false, not_false_eq_true, false_implies, true_implies, implies_true, j_ok1_s, j_isL, j_cat_i, j_cat_l, j_cat_r, j_cat_n, j_rf_cat, j_rf_some, j_rf_none, k_w8_0, k_w8_i, k_w8_r, k_w8_l, k_sum0, k_ints, k_nari, k_narz0, k_narz1, k_okv0, k_okv1, k_okv2, k_okv2n, k_okv3, Option.toList_some, Option.toList_none, List.cons_append, List.nil_append, List.append_nil, List.map_cons, List.map_nil, List.sum_cons, List.sum_nil, Nat.add_zero, Nat.zero_add, Nat.reduceAdd, Nat.reduceMul, Nat.reduceSub, Nat.reduceDiv, Nat.reduceMod, Nat.reduceLT, Nat.reduceLeDiff, Nat.reduceEqDiff, Nat.reduceBEq, Nat.reduceBNe, Nat.one_ne_zero, Nat.zero_ne_one, Nat.succ_ne_self, Nat.le_refl, Nat.sub_self, Nat.sub_zero, Nat.zero_le, reduceCtorEq, eq_self, Bool.false_eq_true, pk_mul, nI_add, k_in, nI_clamp, nI_eq, nI_ltI, nI_leI, k_upd, k_eq0, k_lt0, k_0le, k_0lt, k_le0, k_mod]
    have ef : va_cpy f (fun _ => 0) 0 0 k = fun j => if j < k then f j else 0 := by
      funext j
      unfold va_cpy
      simp only [Nat.zero_le, true_and, Nat.zero_add, Nat.sub_zero]
    rw [ef]
    first
      | exact ⟨by omega, h q hq⟩
      | exact h q hq
theorem n_inj_ext {al : Nat → Nat → Prop} {ad : Nat → Nat → Nat} {k i : Nat} (hI : n_inj al ad) (h : ∀ a b, al a b → ad a b ≠ ad k i) : n_inj (fun a b => al a b ∨ (a = k ∧ b = i)) ad := by
  rintro a b a' b' (h1 | ⟨rfl, rfl⟩) (h2 | ⟨rfl, rfl⟩) e
  · exact hI _ _ _ _ h1 h2 e
  · exact absurd e (h _ _ h1)
  · exact absurd e.symm (h _ _ h2)
  · exact ⟨rfl, rfl⟩
theorem j_up_3 (w : jW) {a b : Nat} (e f g : jE) : j_up (j_up (j_up w a e) b f) a g = j_up (j_up w b f) a g := by
  funext q
  by_cases h1 : q = a
  · subst h1
    rw [j_up_self, j_up_self]
  · rw [j_up_ne _ _ h1, j_up_ne _ _ h1]
    by_cases h2 : q = b
    · subst h2
      rw [j_up_self, j_up_self]
    · rw [j_up_ne _ _ h2, j_up_ne _ _ h2, j_up_ne _ _ h1]
theorem rPre_3 {S : Nat → Nat → Nat} {r i : Nat} : rPre S r 3 i = if 3 * rX S ≤ i ∧ i < 3 * rX S + 3 then S 7 (3 * r + (i - 3 * rX S)) else S 13 i := by
  show va_up (va_up (va_up (S 13) (3 * rX S + 0) (S 7 (3 * r + 0))) (3 * rX S + 1) (S 7 (3 * r + 1))) (3 * rX S + 2) (S 7 (3 * r + 2)) i = _
  unfold va_up
  by_cases h2 : i = 3 * rX S + 2
  · rw [if_pos h2, if_pos (by omega), h2, show 3 * rX S + 2 - 3 * rX S = 2 by omega]
  · rw [if_neg h2]
    by_cases h1 : i = 3 * rX S + 1
    · rw [if_pos h1, if_pos (by omega), h1, show 3 * rX S + 1 - 3 * rX S = 1 by omega]
    · rw [if_neg h1]
      by_cases h0 : i = 3 * rX S + 0
      · rw [if_pos h0, if_pos (by omega), h0, show 3 * rX S + 0 - 3 * rX S = 0 by omega]
      · rw [if_neg h0, if_neg (by omega)]
/-- a new advert in the class's world -/
theorem cW_advert {S X : Nat → Nat → Nat} {B : Nat → Nat → Int64} {A : Nat → Nat → Int32} {ad : Nat → Nat → Nat} {r q1 q2 : Nat} (hI : n_inj (cAl S) ad) (hS : rOK S) (hC : cI S X) (h1 : cW (sA S 14 (va_up (S 14) r (S 14 r + 1))) X B A ad q1 = none) (h2 : cW (sA S 14 (va_up (S 14) r (S 14 r + 1))) X B A ad q2 = none) (h12 : q2 ≠ q1) : ∃ ad', n_inj (cAl (rT7 S r 3)) ad' ∧ (∀ k i, cAl S k i → ad' k i = ad k i) ∧ ad' 18 (rX S) = q1 ∧
    j_up (j_up (cW (sA S 14 (va_up (S 14) r (S 14 r + 1))) X B A ad) q2 (.inl (0, S 6 r, .inl (fun j => if j < S 6 r then cPre 3 (fun j => S 7 (3 * r + j)) j else 0)))) q1 (.inr (4, [.int (nI r), .int (nI (S 14 r + 1)), .int (nI (rMask S r (S 1 0))), .ref q2])) = cW (rT7 S r 3) X B A ad' := by
  have h3 : S 6 r ≤ 3 := hS 6 r
  have eal : cAl (sA S 14 (va_up (S 14) r (S 14 r + 1))) = cAl S := (cAl_eq rfl rfl rfl rfl).symm
  have n1 := nW_none.mp h1
  have n2 := nW_none.mp h2
  rw [eal] at n1 n2
  let ad' : Nat → Nat → Nat := n_up (n_up ad 18 (rX S) q1) 19 (rX S) q2
  have dead18 : ¬ cAl S 18 (rX S) := fun q => by
    have q2 : rX S ≤ S 8 0 := q.2
    unfold rX at q2
    omega
  have dead19 : ¬ cAl S 19 (rX S) := fun q => by
    have q2 : rX S ≤ S 8 0 := q.2
    unfold rX at q2
    omega
  have a18 : ad' 18 (rX S) = q1 := by
    show n_up (n_up ad 18 (rX S) q1) 19 (rX S) q2 18 (rX S) = q1
    rw [n_up_ne _ _ (by omega), n_up_self]
  have a19 : ad' 19 (rX S) = q2 := n_up_self _ _ _ _
  have aad : ∀ k i, cAl S k i → ad' k i = ad k i := by
    intro k i hk
    show n_up (n_up ad 18 (rX S) q1) 19 (rX S) q2 k i = ad k i
    rw [n_up_ne, n_up_ne]
    · rintro ⟨rfl, rfl⟩; exact dead18 hk
    · rintro ⟨rfl, rfl⟩; exact dead19 hk
  obtain ⟨hI', ew⟩ := cW_ad (S := sA S 14 (va_up (S 14) r (S 14 r + 1))) (X := X) (B := B) (A := A) (ad := ad) (ad' := ad') (by rw [eal]; exact hI) hC.2.2.2.1 hC.2.2.1 (by rw [eal]; exact aad)
  have i1 : n_inj (fun a b => cAl (sA S 14 (va_up (S 14) r (S 14 r + 1))) a b ∨ (a = 19 ∧ b = rX S)) ad' := by
    refine n_inj_ext hI' (fun a b hab => ?_)
    rw [eal] at hab
    rw [aad a b hab, a19]
    exact n2 a b hab
  have i2 : n_inj (fun a b => (cAl (sA S 14 (va_up (S 14) r (S 14 r + 1))) a b ∨ (a = 19 ∧ b = rX S)) ∨ (a = 18 ∧ b = rX S)) ad' := by
    refine n_inj_ext i1 (fun a b hab => ?_)
    rw [eal] at hab
    rcases hab with hab | ⟨rfl, rfl⟩
    · rw [aad a b hab, a18]
      exact n1 a b hab
    · rw [a19, a18]
      exact h12
  have hal : ∀ k i, ((cAl (sA S 14 (va_up (S 14) r (S 14 r + 1))) k i ∨ (k = 19 ∧ i = rX S)) ∨ (k = 18 ∧ i = rX S)) ↔ cAl (rT7 S r 3) k i := by
    intro k i
    rw [eal]
    have e8 : rT7 S r 3 8 0 = S 8 0 + 1 := rfl
    by_cases k18 : k = 18
    · subst k18
      show (((1 ≤ i ∧ i ≤ S 8 0) ∨ (18 = 19 ∧ i = rX S)) ∨ (18 = 18 ∧ i = rX S)) ↔ (1 ≤ i ∧ i ≤ rT7 S r 3 8 0)
      rw [e8]
      unfold rX
      omega
    · by_cases k19 : k = 19
      · subst k19
        show (((1 ≤ i ∧ i ≤ S 8 0) ∨ (19 = 19 ∧ i = rX S)) ∨ (19 = 18 ∧ i = rX S)) ↔ (1 ≤ i ∧ i ≤ rT7 S r 3 8 0)
        rw [e8]
        unfold rX
        omega
      · have : cAl S k i ↔ cAl (rT7 S r 3) k i := by
          unfold cAl
          split <;> first | exact Iff.rfl | exact absurd rfl k18 | exact absurd rfl k19
        rw [← this]
        exact ⟨fun q => q.elim (fun q => q.elim id (fun q => absurd q.1 k19)) (fun q => absurd q.1 k18), fun q => Or.inl (Or.inl q)⟩
  refine ⟨ad', n_inj_congr (fun k i hk => (hal k i).mpr hk) i2, aad, a18, ?_⟩
  rw [ew]
  unfold cW
  rw [← a19, ← a18, nW_up _ i1, nW_up _ i2]
  refine nW_congr i2 hal (fun _ _ _ => rfl) (fun k i hk => ?_)
  by_cases c18 : k = 18 ∧ i = rX S
  · obtain ⟨rfl, rfl⟩ := c18
    rw [n_up_self]
    have e9 : rT7 S r 3 9 (rX S) = r := va_up_self _ _ _
    have e10 : rT7 S r 3 10 (rX S) = S 14 r + 1 := va_up_self _ _ _
    have e11 : rT7 S r 3 11 (rX S) = rMask S r (S 1 0) := va_up_self _ _ _
    show _ = (Sum.inr (4, [.int (nI (rT7 S r 3 9 (rX S))), .int (nI (rT7 S r 3 10 (rX S))), .int (nI (rT7 S r 3 11 (rX S))), .ref (ad' 19 (rX S))]) : jE)
    rw [e9, e10, e11]
  · rw [n_up_ne _ _ c18]
    by_cases c19 : k = 19 ∧ i = rX S
    · obtain ⟨rfl, rfl⟩ := c19
      rw [n_up_self]
      have e12 : rT7 S r 3 12 (rX S) = S 6 r := va_up_self _ _ _
      have e13 : rT7 S r 3 13 = rPre S r 3 := rfl
      show _ = (Sum.inl (0, rT7 S r 3 12 (rX S), Sum.inl (cPre (rT7 S r 3 12 (rX S)) (fun j => rT7 S r 3 13 (3 * rX S + j)))) : jE)
      rw [e12, e13]
      congr 4
      funext j
      unfold cPre
      dsimp only
      by_cases hj : j < S 6 r
      · rw [if_pos hj, if_pos hj, if_pos (by omega), rPre_3, if_pos (by omega), Nat.add_sub_cancel_left]
      · rw [if_neg hj, if_neg hj]
    · rw [n_up_ne _ _ c19]
      unfold cCt
      split <;> first | rfl | skip
      · have hne : i ≠ rX S := fun e => c18 ⟨rfl, e⟩
        have e9 : rT7 S r 3 9 i = S 9 i := va_up_ne _ _ hne
        have e10 : rT7 S r 3 10 i = S 10 i := va_up_ne _ _ hne
        have e11 : rT7 S r 3 11 i = S 11 i := va_up_ne _ _ hne
        rw [e9, e10, e11]
        rfl
      · rename_i g0 g1 g2 g3 g4 g5 g6 g7 g8 g9 g10 g11 g12 g13 g14 g15 g16 g17 g18
        have k19 : k = 19 := by
          rcases hk with (hk | hk) | hk
          · unfold cAl at hk
            split at hk <;> first | rfl | (exfalso; first | exact g0 rfl | exact g1 rfl | exact g2 rfl | exact g3 rfl | exact g4 rfl | exact g5 rfl | exact g6 rfl | exact g7 rfl | exact g8 rfl | exact g9 rfl | exact g10 rfl | exact g11 rfl | exact g12 rfl | exact g13 rfl | exact g14 rfl | exact g15 rfl | exact g16 rfl | exact g17 rfl | exact g18 rfl | exact hk)
          · exact hk.1
          · exact absurd hk.1 g18
        have hne : i ≠ rX S := fun e => c19 ⟨k19, e⟩
        have e12 : rT7 S r 3 12 i = S 12 i := va_up_ne _ _ hne
        have b12 : S 12 i ≤ 3 := hS 12 i
        rw [e12]
        show (Sum.inl (0, S 12 i, Sum.inl (cPre (S 12 i) fun j => S 13 (3 * i + j))) : jE) = Sum.inl (0, S 12 i, Sum.inl (cPre (S 12 i) fun j => rPre S r 3 (3 * i + j)))
        congr 4
        funext j
        unfold cPre
        dsimp only
        by_cases hj : j < S 12 i
        · rw [if_pos hj, if_pos hj, rPre_3, if_neg (by omega)]
        · rw [if_neg hj, if_neg hj]
set_option maxHeartbeats 4000000 in
set_option maxRecDepth 100000 in
theorem sp_Router_makeAdvert {S X : Nat → Nat → Nat} {B : Nat → Nat → Int64} {A : Nat → Nat → Int32} {ad : Nat → Nat → Nat} {r : Nat} {post : Option Value → jW → Prop} (hI : n_inj (cAl S) ad) (hS : rOK S) (hC : cI S X) (hr : r < 8) (h : ∀ ad', n_inj (cAl (rT7 S r 3)) ad' → (∀ k i, cAl S k i → ad' k i = ad k i) → post (some (.ref (ad' 18 (rX S)))) (cW (rT7 S r 3) X B A ad')) : j_sem m_Router_makeAdvert [.ref (ad 2 r), .int (nI r), .int (nI (rMask S r (S 1 0)))] (cW S X B A ad) 2 7 post := by
  refine j_sem_of (by decide +kernel) (Nat.le_of_ble_eq_true rfl) ?_
  show j_S _ _ 0 [some (.ref (ad 2 r)), some (.int (nI r)), some (.int (nI (rMask S r (S 1 0))))] [] _ 2 7
  have h3 : S 6 r ≤ 3 := hS 6 r
  have hI1 : n_inj (cAl (sA S 14 (va_up (S 14) r (S 14 r + 1)))) ad := cInj rfl rfl rfl rfl hI
  have g2 := cg2 (X := X) (B := B) (A := A) hI1 hr
  have g3 := cg3 (X := X) (B := B) (A := A) hI1 hr
  have e6 : (sA S 14 (va_up (S 14) r (S 14 r + 1))) 6 = S 6 := rfl
  have e7 : (sA S 14 (va_up (S 14) r (S 14 r + 1))) 7 = S 7 := rfl
  have e14 : (sA S 14 (va_up (S 14) r (S 14 r + 1))) 14 r = S 14 r + 1 := va_up_self _ _ _
  rw [e6, e14] at g2
  rw [e7] at g3
  refine j_runs [] ok_Router_makeAdvert 40 ?_
  simp (disch := first | omega | simp (disch := omega) only [sA_ne, sA_self]) only [st_Router_makeAdvert, cg2 hI hr, cp_told hI hr, j_k, List.mem_cons, List.not_mem_nil, or_false, or_self, if_false, if_true, ↓reduceIte, List.getElem?_cons_zero, List.getElem?_cons_succ, List.set_cons_zero, List.set_cons_succ, List.length_cons, List.length_nil, g_ld_s, g_v_s, g_ob_s, g_ia_s, g_la_s, g_qa_s, g_al_s, t_i_s, t_a_r, t_a_n, t_a_q, t_l_s, true_and, and_true, and_self, true_or, or_true, Decidable.not_not, not_true_eq_false, not_false_eq_true, false_implies, true_implies, implies_true, j_ok1_s, j_isL, j_cat_i, j_cat_l, j_cat_r, j_cat_n, j_rf_cat, j_rf_some, j_rf_none, k_w8_0, k_w8_i, k_w8_r, k_w8_l, k_sum0, k_ints, k_nari, k_narz0, k_narz1, k_okv0, k_okv1, k_okv2, k_okv2n, k_okv3, Option.toList_some, Option.toList_none, List.cons_append, List.nil_append, List.append_nil, List.map_cons, List.map_nil, List.sum_cons, List.sum_nil, Nat.add_zero, Nat.zero_add, Nat.reduceAdd, Nat.reduceMul, Nat.reduceSub, Nat.reduceDiv, Nat.reduceMod, Nat.reduceLT, Nat.reduceLeDiff, Nat.reduceEqDiff, Nat.reduceBEq, Nat.reduceBNe, Nat.one_ne_zero, Nat.zero_ne_one, Nat.succ_ne_self, Nat.le_refl, Nat.sub_self, Nat.sub_zero, Nat.zero_le, reduceCtorEq, eq_self, Bool.false_eq_true, pk_mul, nI_add, k_in, nI_clamp, nI_eq, nI_ltI, nI_leI, k_upd, k_eq0, k_lt0, k_0le, k_0lt, k_le0, k_mod]
  intro q1 hq1
  have n1 : ad 2 r ≠ q1 := by
    intro e
    rw [← e, g2] at hq1
    cases hq1
  have n3 : ad 3 r ≠ q1 := by
    intro e
    rw [← e, g3] at hq1
    cases hq1
  simp (disch := first | omega | simp (disch := omega) only [sA_ne, sA_self]) only [st_Router_makeAdvert, j_up_ne _ _ n1, g2, j_k, List.mem_cons, List.not_mem_nil, or_false, or_self, if_false, if_true, ↓reduceIte, List.getElem?_cons_zero, List.getElem?_cons_succ, List.set_cons_zero, List.set_cons_succ, List.length_cons, List.length_nil, g_ld_s, g_v_s, g_ob_s, g_ia_s, g_la_s, g_qa_s, g_al_s, t_i_s, t_a_r, t_a_n, t_a_q, t_l_s, true_and, and_true, and_self, true_or, or_true, Decidable.not_not, not_true_eq_false, not_false_eq_true, false_implies, true_implies, implies_true, j_ok1_s, j_isL, j_cat_i, j_cat_l, j_cat_r, j_cat_n, j_rf_cat, j_rf_some, j_rf_none, k_w8_0, k_w8_i, k_w8_r, k_w8_l, k_sum0, k_ints, k_nari, k_narz0, k_narz1, k_okv0, k_okv1, k_okv2, k_okv2n, k_okv3, Option.toList_some, Option.toList_none, List.cons_append, List.nil_append, List.append_nil, List.map_cons, List.map_nil, List.sum_cons, List.sum_nil, Nat.add_zero, Nat.zero_add, Nat.reduceAdd, Nat.reduceMul, Nat.reduceSub, Nat.reduceDiv, Nat.reduceMod, Nat.reduceLT, Nat.reduceLeDiff, Nat.reduceEqDiff, Nat.reduceBEq, Nat.reduceBNe, Nat.one_ne_zero, Nat.zero_ne_one, Nat.succ_ne_self, Nat.le_refl, Nat.sub_self, Nat.sub_zero, Nat.zero_le, reduceCtorEq, eq_self, Bool.false_eq_true, pk_mul, nI_add, k_in, nI_clamp, nI_eq, nI_ltI, nI_leI, k_upd, k_eq0, k_lt0, k_0le, k_0lt, k_le0, k_mod]
  refine g_calln (mc := 1) (ms := 3) (by decide) (by decide) (sp_Arrays_copyOf ((j_up_ne _ _ n3).trans g3) (by decide) h3 (fun j hj => if_neg (by omega)) (fun q2 hq2 => ?_))
  have n12 : q2 ≠ q1 := by
    rintro rfl
    rw [j_up_self] at hq2
    cases hq2
  rw [j_up_ne _ _ n12] at hq2
  simp (disch := first | omega | simp (disch := omega) only [sA_ne, sA_self]) only [st_Router_makeAdvert, j_k, List.mem_cons, List.not_mem_nil, or_false, or_self, if_false, if_true, ↓reduceIte, List.getElem?_cons_zero, List.getElem?_cons_succ, List.set_cons_zero, List.set_cons_succ, List.length_cons, List.length_nil, g_ld_s, g_v_s, g_ob_s, g_ia_s, g_la_s, g_qa_s, g_al_s, t_i_s, t_a_r, t_a_n, t_a_q, t_l_s, true_and, and_true, and_self, true_or, or_true, Decidable.not_not, not_true_eq_false, not_false_eq_true, false_implies, true_implies, implies_true, j_ok1_s, j_isL, j_cat_i, j_cat_l, j_cat_r, j_cat_n, j_rf_cat, j_rf_some, j_rf_none, k_w8_0, k_w8_i, k_w8_r, k_w8_l, k_sum0, k_ints, k_nari, k_narz0, k_narz1, k_okv0, k_okv1, k_okv2, k_okv2n, k_okv3, Option.toList_some, Option.toList_none, List.cons_append, List.nil_append, List.append_nil, List.map_cons, List.map_nil, List.sum_cons, List.sum_nil, Nat.add_zero, Nat.zero_add, Nat.reduceAdd, Nat.reduceMul, Nat.reduceSub, Nat.reduceDiv, Nat.reduceMod, Nat.reduceLT, Nat.reduceLeDiff, Nat.reduceEqDiff, Nat.reduceBEq, Nat.reduceBNe, Nat.one_ne_zero, Nat.zero_ne_one, Nat.succ_ne_self, Nat.le_refl, Nat.sub_self, Nat.sub_zero, Nat.zero_le, reduceCtorEq, eq_self, Bool.false_eq_true, pk_mul, nI_add, k_in, nI_clamp, nI_eq, nI_ltI, nI_leI, k_upd, k_eq0, k_lt0, k_0le, k_0lt, k_le0, k_mod]
  refine g_call0 (sp_Advert_init ((j_up_ne _ _ (Ne.symm n12)).trans (j_up_self _ _ _)) ?_)
  simp (disch := first | omega | simp (disch := omega) only [sA_ne, sA_self]) only [st_Router_makeAdvert, j_k, List.mem_cons, List.not_mem_nil, or_false, or_self, if_false, if_true, ↓reduceIte, List.getElem?_cons_zero, List.getElem?_cons_succ, List.set_cons_zero, List.set_cons_succ, List.length_cons, List.length_nil, g_ld_s, g_v_s, g_ob_s, g_ia_s, g_la_s, g_qa_s, g_al_s, t_i_s, t_a_r, t_a_n, t_a_q, t_l_s, true_and, and_true, and_self, true_or, or_true, Decidable.not_not, not_true_eq_false, not_false_eq_true, false_implies, true_implies, implies_true, j_ok1_s, j_isL, j_cat_i, j_cat_l, j_cat_r, j_cat_n, j_rf_cat, j_rf_some, j_rf_none, k_w8_0, k_w8_i, k_w8_r, k_w8_l, k_sum0, k_ints, k_nari, k_narz0, k_narz1, k_okv0, k_okv1, k_okv2, k_okv2n, k_okv3, Option.toList_some, Option.toList_none, List.cons_append, List.nil_append, List.append_nil, List.map_cons, List.map_nil, List.sum_cons, List.sum_nil, Nat.add_zero, Nat.zero_add, Nat.reduceAdd, Nat.reduceMul, Nat.reduceSub, Nat.reduceDiv, Nat.reduceMod, Nat.reduceLT, Nat.reduceLeDiff, Nat.reduceEqDiff, Nat.reduceBEq, Nat.reduceBNe, Nat.one_ne_zero, Nat.zero_ne_one, Nat.succ_ne_self, Nat.le_refl, Nat.sub_self, Nat.sub_zero, Nat.zero_le, reduceCtorEq, eq_self, Bool.false_eq_true, pk_mul, nI_add, k_in, nI_clamp, nI_eq, nI_ltI, nI_leI, k_upd, k_eq0, k_lt0, k_0le, k_0lt, k_le0, k_mod, j_up_3]
  obtain ⟨ad', i1, i2, i3, i4⟩ := cW_advert (X := X) (B := B) (A := A) hI hS hC hq1 hq2 n12
  rw [i4, ← i3]
  exact h ad' i1 i2
theorem cI.tell {S X : Nat → Nat → Nat} {r : Nat} (h : cI S X) : cI (rT8 S r) X := by
  obtain ⟨h1, h2, h3, h4, h5, h6⟩ := h
  refine ⟨h1, h2, fun i => Nat.le_succ_of_le (h3 i), fun i => ?_, h5, h6⟩
  show va_up (S 15) (8 * r + r) (rX S) i ≤ S 8 0 + 1
  unfold va_up rX
  split
  · exact Nat.le_refl _
  · exact Nat.le_succ_of_le (h4 i)
theorem rT8_keep {S : Nat → Nat → Nat} {r : Nat} : rT8 S r 1 = S 1 ∧ rT8 S r 2 = S 2 ∧ rT8 S r 3 = S 3 ∧ rT8 S r 4 = S 4 ∧ rT8 S r 5 = S 5 ∧ rT8 S r 6 = S 6 ∧ rT8 S r 7 = S 7 ∧ rT8 S r 8 0 = S 8 0 + 1 ∧ rT8 S r 16 = S 16 ∧ rT8 S r 17 = S 17 ∧ rT8 S r 18 = S 18 ∧ rT8 S r 22 = S 22 := ⟨rfl, rfl, rfl, rfl, rfl, rfl, rfl, rfl, rfl, rfl, rfl, rfl⟩
theorem rTell_keep {S : Nat → Nat → Nat} {r z : Nat} (h : z = 0 ∨ z = 1 ∨ z = 2 ∨ z = 3 ∨ z = 4 ∨ z = 5 ∨ z = 6 ∨ z = 7 ∨ z = 18 ∨ z = 19 ∨ z = 20 ∨ z = 21 ∨ z = 22 ∨ z = 23) : rTell S r z = S z := by
  unfold rTell
  rcases h with rfl | rfl | rfl | rfl | rfl | rfl | rfl | rfl | rfl | rfl | rfl | rfl | rfl | rfl <;> (rw [rSpr_keeps (by decide) (by decide)]; rfl)
theorem rTell_80 {S : Nat → Nat → Nat} {r : Nat} : rTell S r 8 0 = S 8 0 + 1 := by
  unfold rTell
  rw [rSpr_keeps (by decide) (by decide)]
  rfl
theorem cAl_mono {S S' : Nat → Nat → Nat} (h1 : S 1 0 ≤ S' 1 0) (h8 : S 8 0 ≤ S' 8 0) (h18 : S 18 0 ≤ S' 18 0) (h22 : S 22 0 ≤ S' 22 0) : ∀ k i, cAl S k i → cAl S' k i
  | 0, _, h => h
  | 1, _, h => h
  | 2, _, h => h
  | 3, _, h => h
  | 4, _, h => h
  | 5, _, h => h
  | 6, _, h => Nat.lt_of_lt_of_le h h1
  | 7, _, h => Nat.lt_of_lt_of_le h (Nat.mul_le_mul_left 2 h1)
  | 8, _, h => Nat.lt_of_lt_of_le h (Nat.mul_le_mul_left 2 h1)
  | 9, _, h => h
  | 10, _, h => Nat.lt_of_lt_of_le h h18
  | 11, _, h => Nat.lt_of_lt_of_le h h18
  | 12, _, h => h
  | 13, _, h => Nat.lt_of_lt_of_le h h22
  | 14, _, h => h
  | 15, _, h => h
  | 16, _, h => h
  | 17, _, h => h
  | 18, _, h => ⟨h.1, Nat.le_trans h.2 h8⟩
  | 19, _, h => ⟨h.1, Nat.le_trans h.2 h8⟩
  | _ + 20, _, h => h.elim
theorem cAl_tell {S : Nat → Nat → Nat} {r : Nat} {k i : Nat} (h : cAl S k i) : cAl (rTell S r) k i := cAl_mono (by rw [rTell_keep (by decide)]; exact Nat.le_refl _) (by rw [rTell_80]; omega) (by rw [rTell_keep (by decide)]; exact Nat.le_refl _) (by rw [rTell_keep (by decide)]; exact Nat.le_refl _) k i h
set_option maxHeartbeats 4000000 in
set_option maxRecDepth 100000 in
theorem sp_Net_tell {S X : Nat → Nat → Nat} {B : Nat → Nat → Int64} {A : Nat → Nat → Int32} {ad : Nat → Nat → Nat} {r : Nat} {post : Option Value → jW → Prop} (hI : n_inj (cAl S) ad) (hT : rTok S r) (hC : cI S X) (h : ∀ X' ad', cI (rTell S r) X' → n_inj (cAl (rTell S r)) ad' → (∀ k i, cAl S k i → ad' k i = ad k i) → post none (cW (rTell S r) X' B A ad')) : j_sem m_Net_tell [.ref (ad 0 0), .int (nI r)] (cW S X B A ad) 2 7 post := by
  refine j_sem_of (by decide +kernel) (Nat.le_of_ble_eq_true rfl) ?_
  show j_S _ _ 0 [some (.ref (ad 0 0)), some (.int (nI r)), none] [] _ 2 7
  have hS := hT.1
  obtain ⟨-, h8, hr, h14, h11⟩ := id hT
  refine j_runs [] ok_Net_tell 40 ?_
  simp (disch := first | omega | simp (disch := omega) only [sA_ne, sA_self]) only [st_Net_tell, cg0 hI, cg1 hI, cRow_lt, j_k, List.mem_cons, List.not_mem_nil, or_false, or_self, if_false, if_true, ↓reduceIte, List.getElem?_cons_zero, List.getElem?_cons_succ, List.set_cons_zero, List.set_cons_succ, List.length_cons, List.length_nil, g_ld_s, g_v_s, g_ob_s, g_ia_s, g_la_s, g_qa_s, g_al_s, t_i_s, t_a_r, t_a_n, t_a_q, t_l_s, true_and, and_true, and_self, true_or, or_true, Decidable.not_not, not_true_eq_false, not_false_eq_true, false_implies, true_implies, implies_true, j_ok1_s, j_isL, j_cat_i, j_cat_l, j_cat_r, j_cat_n, j_rf_cat, j_rf_some, j_rf_none, k_w8_0, k_w8_i, k_w8_r, k_w8_l, k_sum0, k_ints, k_nari, k_narz0, k_narz1, k_okv0, k_okv1, k_okv2, k_okv2n, k_okv3, Option.toList_some, Option.toList_none, List.cons_append, List.nil_append, List.append_nil, List.map_cons, List.map_nil, List.sum_cons, List.sum_nil, Nat.add_zero, Nat.zero_add, Nat.reduceAdd, Nat.reduceMul, Nat.reduceSub, Nat.reduceDiv, Nat.reduceMod, Nat.reduceLT, Nat.reduceLeDiff, Nat.reduceEqDiff, Nat.reduceBEq, Nat.reduceBNe, Nat.one_ne_zero, Nat.zero_ne_one, Nat.succ_ne_self, Nat.le_refl, Nat.sub_self, Nat.sub_zero, Nat.zero_le, reduceCtorEq, eq_self, Bool.false_eq_true, pk_mul, nI_add, k_in, nI_clamp, nI_eq, nI_ltI, nI_leI, k_upd, k_eq0, k_lt0, k_0le, k_0lt, k_le0, k_mod]
  refine g_call0 (sp_Net_upLinksOf hI hS hr ?_)
  simp (disch := first | omega | simp (disch := omega) only [sA_ne, sA_self]) only [st_Net_tell, cg2 hI hr, j_k, List.mem_cons, List.not_mem_nil, or_false, or_self, if_false, if_true, ↓reduceIte, List.getElem?_cons_zero, List.getElem?_cons_succ, List.set_cons_zero, List.set_cons_succ, List.length_cons, List.length_nil, g_ld_s, g_v_s, g_ob_s, g_ia_s, g_la_s, g_qa_s, g_al_s, t_i_s, t_a_r, t_a_n, t_a_q, t_l_s, true_and, and_true, and_self, true_or, or_true, Decidable.not_not, not_true_eq_false, not_false_eq_true, false_implies, true_implies, implies_true, j_ok1_s, j_isL, j_cat_i, j_cat_l, j_cat_r, j_cat_n, j_rf_cat, j_rf_some, j_rf_none, k_w8_0, k_w8_i, k_w8_r, k_w8_l, k_sum0, k_ints, k_nari, k_narz0, k_narz1, k_okv0, k_okv1, k_okv2, k_okv2n, k_okv3, Option.toList_some, Option.toList_none, List.cons_append, List.nil_append, List.append_nil, List.map_cons, List.map_nil, List.sum_cons, List.sum_nil, Nat.add_zero, Nat.zero_add, Nat.reduceAdd, Nat.reduceMul, Nat.reduceSub, Nat.reduceDiv, Nat.reduceMod, Nat.reduceLT, Nat.reduceLeDiff, Nat.reduceEqDiff, Nat.reduceBEq, Nat.reduceBNe, Nat.one_ne_zero, Nat.zero_ne_one, Nat.succ_ne_self, Nat.le_refl, Nat.sub_self, Nat.sub_zero, Nat.zero_le, reduceCtorEq, eq_self, Bool.false_eq_true, pk_mul, nI_add, k_in, nI_clamp, nI_eq, nI_ltI, nI_leI, k_upd, k_eq0, k_lt0, k_0le, k_0lt, k_le0, k_mod]
  refine g_calln (mc := 2) (ms := 7) (by decide) (by decide) (sp_Router_makeAdvert hI hS hC hr (fun ad' i1 i2 => ?_))
  have a0 : ad 0 0 = ad' 0 0 := (i2 0 0 rfl).symm
  rw [a0]
  have p4 := cp_adv (X := X) (B := B) (A := A) (k := r) (v := rX S) i1 hr hr (by unfold rX; omega)
  have e15 : rT7 S r 3 15 = S 15 := rfl
  have g4 := cg4 (X := X) (B := B) (A := A) i1 hr
  have g18 := cg18 (X := X) (B := B) (A := A) (i := rX S) i1 (by unfold rX; omega) (Nat.le_refl _)
  rw [e15] at p4 g4
  simp (disch := first | omega | simp (disch := omega) only [sA_ne, sA_self]) only [st_Net_tell, cg0 i1, cg1 i1, cg2 i1 hr, g4, g18, p4, cRow_lt, j_k, List.mem_cons, List.not_mem_nil, or_false, or_self, if_false, if_true, ↓reduceIte, List.getElem?_cons_zero, List.getElem?_cons_succ, List.set_cons_zero, List.set_cons_succ, List.length_cons, List.length_nil, g_ld_s, g_v_s, g_ob_s, g_ia_s, g_la_s, g_qa_s, g_al_s, t_i_s, t_a_r, t_a_n, t_a_q, t_l_s, true_and, and_true, and_self, true_or, or_true, Decidable.not_not, not_true_eq_false, not_false_eq_true, false_implies, true_implies, implies_true, j_ok1_s, j_isL, j_cat_i, j_cat_l, j_cat_r, j_cat_n, j_rf_cat, j_rf_some, j_rf_none, k_w8_0, k_w8_i, k_w8_r, k_w8_l, k_sum0, k_ints, k_nari, k_narz0, k_narz1, k_okv0, k_okv1, k_okv2, k_okv2n, k_okv3, Option.toList_some, Option.toList_none, List.cons_append, List.nil_append, List.append_nil, List.map_cons, List.map_nil, List.sum_cons, List.sum_nil, Nat.add_zero, Nat.zero_add, Nat.reduceAdd, Nat.reduceMul, Nat.reduceSub, Nat.reduceDiv, Nat.reduceMod, Nat.reduceLT, Nat.reduceLeDiff, Nat.reduceEqDiff, Nat.reduceBEq, Nat.reduceBNe, Nat.one_ne_zero, Nat.zero_ne_one, Nat.succ_ne_self, Nat.le_refl, Nat.sub_self, Nat.sub_zero, Nat.zero_le, reduceCtorEq, eq_self, Bool.false_eq_true, pk_mul, nI_add, k_in, nI_clamp, nI_eq, nI_ltI, nI_leI, k_upd, k_eq0, k_lt0, k_0le, k_0lt, k_le0, k_mod]
  have i8 : n_inj (cAl (rT8 S r)) ad' := cInj rfl rfl rfl rfl i1
  have er : sA (rT7 S r 3) 15 (va_up (S 15) (8 * r + r) (rX S)) = rT8 S r := rfl
  rw [er, cg0 i8]
  refine ⟨⟨rfl, trivial⟩, ?_⟩
  refine g_call0 (sp_Net_flood (S := rT8 S r) (a := rX S) (b := 1000) i8 (rT8_ok hT) hC.tell (Nat.le_add_left 1 (S 8 0)) (Nat.le_refl _) hr (fun l hl => ⟨fun q => ?_, fun q => by omega⟩) (fun X' hX' => ?_))
  · exfalso
    have := congrArg Int32.toInt q
    rw [nI_toInt (by omega)] at this
    have e : ((-1 : Int32)).toInt = -1 := by decide
    omega
  · simp (disch := first | omega | simp (disch := omega) only [sA_ne, sA_self]) only [st_Net_tell, j_k, List.mem_cons, List.not_mem_nil, or_false, or_self, if_false, if_true, ↓reduceIte, List.getElem?_cons_zero, List.getElem?_cons_succ, List.set_cons_zero, List.set_cons_succ, List.length_cons, List.length_nil, g_ld_s, g_v_s, g_ob_s, g_ia_s, g_la_s, g_qa_s, g_al_s, t_i_s, t_a_r, t_a_n, t_a_q, t_l_s, true_and, and_true, and_self, true_or, or_true, Decidable.not_not, not_true_eq_false, not_false_eq_true, false_implies, true_implies, implies_true, j_ok1_s, j_isL, j_cat_i, j_cat_l, j_cat_r, j_cat_n, j_rf_cat, j_rf_some, j_rf_none, k_w8_0, k_w8_i, k_w8_r, k_w8_l, k_sum0, k_ints, k_nari, k_narz0, k_narz1, k_okv0, k_okv1, k_okv2, k_okv2n, k_okv3, Option.toList_some, Option.toList_none, List.cons_append, List.nil_append, List.append_nil, List.map_cons, List.map_nil, List.sum_cons, List.sum_nil, Nat.add_zero, Nat.zero_add, Nat.reduceAdd, Nat.reduceMul, Nat.reduceSub, Nat.reduceDiv, Nat.reduceMod, Nat.reduceLT, Nat.reduceLeDiff, Nat.reduceEqDiff, Nat.reduceBEq, Nat.reduceBNe, Nat.one_ne_zero, Nat.zero_ne_one, Nat.succ_ne_self, Nat.le_refl, Nat.sub_self, Nat.sub_zero, Nat.zero_le, reduceCtorEq, eq_self, Bool.false_eq_true, pk_mul, nI_add, k_in, nI_clamp, nI_eq, nI_ltI, nI_leI, k_upd, k_eq0, k_lt0, k_0le, k_0lt, k_le0, k_mod]
    refine h X' ad' hX' (cInj ?_ ?_ ?_ ?_ i8) i2
    · rw [rTell_keep (by decide)]; rfl
    · rw [rTell_80]; rfl
    · rw [rTell_keep (by decide)]; rfl
    · rw [rTell_keep (by decide)]; rfl
