/-! THE CLASS: split, cross -/
theorem rSplt_5 {S : Nat → Nat → Nat} {pk fi n st li to q : Nat} : ∀ i, rSplt S pk fi n st li to i 23 (6 * q + 5) = S 23 (6 * q + 5)
  | 0 => rfl
  | i + 1 => by
    unfold rSplt rAdd
    rw [sA_self, va_up_ne _ _ (by omega), va_up_ne _ _ (by omega), va_up_ne _ _ (by omega), va_up_ne _ _ (by omega), va_up_ne _ _ (by omega)]
    exact rSplt_5 i
theorem va_up_cm {α : Type} (f : Nat → α) {i j : Nat} (a b : α) (h : i ≠ j) : va_up (va_up f i a) j b = va_up (va_up f j b) i a := by
  funext k
  rw [va_up_c, va_up_c, va_up_c, va_up_c]
  by_cases h1 : k = i
  · by_cases h2 : k = j
    · exact absurd (h1.symm.trans h2) h
    · rw [if_neg h2, if_pos h1, if_pos h1]
  · by_cases h2 : k = j
    · rw [if_pos h2, if_neg h1, if_pos h2]
    · rw [if_neg h2, if_neg h1, if_neg h1, if_neg h2]
theorem rAdd_cm {S : Nat → Nat → Nat} {a b c d e j v : Nat} (hj : j < 6 * (S 22 0 + 1)) : rAdd (sA S 23 (va_up (S 23) j v)) a b c d e = sA (rAdd S a b c d e) 23 (va_up (rAdd S a b c d e 23) j v) := by
  have e22 : sA S 23 (va_up (S 23) j v) 22 0 = S 22 0 := rfl
  have e23 : sA S 23 (va_up (S 23) j v) 23 = va_up (S 23) j v := rfl
  unfold rAdd
  rw [e22, e23, sA_self, sA_sA]
  rw [va_up_cm (S 23) _ _ (show j ≠ 6 * (S 22 0 + 1) by omega), va_up_cm _ _ _ (show j ≠ 6 * (S 22 0 + 1) + 1 by omega), va_up_cm _ _ _ (show j ≠ 6 * (S 22 0 + 1) + 2 by omega), va_up_cm _ _ _ (show j ≠ 6 * (S 22 0 + 1) + 3 by omega), va_up_cm _ _ _ (show j ≠ 6 * (S 22 0 + 1) + 4 by omega)]
  funext z
  by_cases h23 : z = 23
  · subst h23
    rw [sA_self, sA_self]
  · rw [sA_ne _ _ h23, sA_ne _ _ h23]
    by_cases h22 : z = 22
    · subst h22
      rw [sA_self, sA_self]
    · rw [sA_ne _ _ h22, sA_ne _ _ h22, sA_ne _ _ h23]
theorem rSplt_cm {S : Nat → Nat → Nat} {pk fi n st li to j v : Nat} (hj : j < 6 * (S 22 0 + 1)) : ∀ i, rSplt (sA S 23 (va_up (S 23) j v)) pk fi n st li to i = sA (rSplt S pk fi n st li to i) 23 (va_up (rSplt S pk fi n st li to i 23) j v)
  | 0 => rfl
  | i + 1 => by
    conv => lhs; unfold rSplt
    rw [rSplt_cm hj i, rAdd_cm (by rw [rSplt_22]; omega)]
    rfl
set_option maxHeartbeats 4000000 in
set_option maxRecDepth 100000 in
theorem sp_Net_split {S X : Nat → Nat → Nat} {B : Nat → Nat → Int64} {A : Nat → Nat → Int32} {ad : Nat → Nat → Nat} {i st c : Nat} {post : Option Value → jW → Prop} (hI : n_inj (cAl S) ad) (hC : cI S X) (h5 : ∀ q, S 22 0 < q → S 23 (6 * q + 5) = 0) (hi : i < S 22 0) (b1 : S 23 (6 * (i + 1) + 1) + S 23 (6 * (i + 1) + 2) ≤ 500) (hst : st ≤ 500) (hc : S 22 0 + c ≤ 80) (hcn : c * st < S 23 (6 * (i + 1) + 2)) (h : ∀ ad', n_inj (cAl (rSplt S (S 23 (6 * (i + 1))) (S 23 (6 * (i + 1) + 1)) (S 23 (6 * (i + 1) + 2)) st (S 23 (6 * (i + 1) + 3)) (S 23 (6 * (i + 1) + 4)) c)) ad' → ad' 0 0 = ad 0 0 → ad' 13 i = ad 13 i → post none (cW (sA (rSplt S (S 23 (6 * (i + 1))) (S 23 (6 * (i + 1) + 1)) (S 23 (6 * (i + 1) + 2)) st (S 23 (6 * (i + 1) + 3)) (S 23 (6 * (i + 1) + 4)) c) 23 (va_up (rSplt S (S 23 (6 * (i + 1))) (S 23 (6 * (i + 1) + 1)) (S 23 (6 * (i + 1) + 2)) st (S 23 (6 * (i + 1) + 3)) (S 23 (6 * (i + 1) + 4)) c 23) (6 * (i + 1) + 2) st)) X B A ad')) : j_sem m_Net_split [.ref (ad 0 0), .ref (ad 13 i), .int (nI st), .int (nI c)] (cW S X B A ad) c (6 * c) post := by
  refine j_sem_of (by decide +kernel) (Nat.le_of_ble_eq_true rfl) ?_
  show j_S _ _ 0 [some (.ref (ad 0 0)), some (.ref (ad 13 i)), some (.int (nI st)), some (.int (nI c)), none, none, none] [] _ c (6 * c)
  obtain ⟨T, eT⟩ : ∃ T : Nat → Nat → Nat → Nat, T = rSplt S (S 23 (6 * (i + 1))) (S 23 (6 * (i + 1) + 1)) (S 23 (6 * (i + 1) + 2)) st (S 23 (6 * (i + 1) + 3)) (S 23 (6 * (i + 1) + 4)) := ⟨_, rfl⟩
  rw [← eT] at h
  have t22 : ∀ k, T k 22 0 = S 22 0 + k := by rw [eT]; exact rSplt_22
  have tk : ∀ z, z ≠ 22 → z ≠ 23 → ∀ k, T k z = S z := by rw [eT]; exact fun z h1 h2 k => rSplt_keeps h1 h2 k
  have tlo : ∀ j, j < 6 * (S 22 0 + 1) → ∀ k, T k 23 j = S 23 j := by rw [eT]; exact fun j hj k => rSplt_lo hj k
  have t5 : ∀ q k, T k 23 (6 * q + 5) = S 23 (6 * q + 5) := by rw [eT]; exact fun q k => rSplt_5 k
  have ts : ∀ k, T (k + 1) = rAdd (T k) (S 23 (6 * (i + 1))) (S 23 (6 * (i + 1) + 1) + (k + 1) * st) (if S 23 (6 * (i + 1) + 2) - (k + 1) * st < st then S 23 (6 * (i + 1) + 2) - (k + 1) * st else st) (S 23 (6 * (i + 1) + 3)) (S 23 (6 * (i + 1) + 4)) := by rw [eT]; exact fun k => rfl
  have t0 : T 0 = S := by rw [eT]; rfl
  have head : ∀ d k ad' Y, k + d = c → n_inj (cAl (T k)) ad' → ad' 0 0 = ad 0 0 → ad' 13 i = ad 13 i → j_S m_Net_split post 14 [some (.ref (ad 0 0)), some (.ref (ad 13 i)), some (.int (nI st)), some (.int (nI c)), some (.int (nI (S 23 (6 * (i + 1) + 1) + S 23 (6 * (i + 1) + 2)))), some (.int (nI (k + 1))), Y] [] (cW (T k) X B A ad') d (6 * d) := by
    intro d
    induction d with
    | zero =>
      intro k ad' Y e hI' a0 a13
      have ek : k = c := by omega
      subst ek
      have hi' : i < T k 22 0 := by rw [t22]; omega
      rw [← a0, ← a13]
      refine j_runs [] ok_Net_split 12 ?_
      simp (disch := first | omega | simp (disch := omega) only [sA_ne, sA_self]) only [st_Net_split, cg13 hI' hi', cp_bytes hI' hi', j_k, List.mem_cons, List.not_mem_nil, or_false, or_self, if_false, if_true, ↓reduceIte, List.getElem?_cons_zero, List.getElem?_cons_succ, List.set_cons_zero, List.set_cons_succ, List.length_cons, List.length_nil, g_ld_s, g_v_s, g_ob_s, g_ia_s, g_la_s, g_qa_s, g_al_s, t_i_s, t_a_r, t_a_n, t_a_q, t_l_s, true_and, and_true, and_self, true_or, or_true, Decidable.not_not, not_true_eq_false, not_false_eq_true, false_implies, true_implies, implies_true, j_ok1_s, j_isL, j_cat_i, j_cat_l, j_cat_r, j_cat_n, j_rf_cat, j_rf_some, j_rf_none, k_w8_0, k_w8_i, k_w8_r, k_w8_l, k_sum0, k_ints, k_nari, k_narz0, k_narz1, k_okv0, k_okv1, k_okv2, k_okv2n, k_okv3, Option.toList_some, Option.toList_none, List.cons_append, List.nil_append, List.append_nil, List.map_cons, List.map_nil, List.sum_cons, List.sum_nil, Nat.add_zero, Nat.zero_add, Nat.reduceAdd, Nat.reduceMul, Nat.reduceSub, Nat.reduceDiv, Nat.reduceMod, Nat.reduceLT, Nat.reduceLeDiff, Nat.reduceEqDiff, Nat.reduceBEq, Nat.reduceBNe, Nat.one_ne_zero, Nat.zero_ne_one, Nat.succ_ne_self, Nat.le_refl, Nat.sub_self, Nat.sub_zero, Nat.zero_le, reduceCtorEq, eq_self, Bool.false_eq_true, pk_mul, nI_add, k_in, nI_clamp, nI_eq, nI_ltI, nI_leI, k_upd, k_eq0, k_lt0, k_0le, k_0lt, k_le0, k_mod]
      refine ⟨fun _ => h ad' hI' a0 a13, fun c => absurd (by omega) c⟩
    | succ d ih =>
      intro k ad' Y e hI' a0 a13
      have hi' : i < T k 22 0 := by rw [t22]; omega
      have hk : (k + 1) * st ≤ c * st := Nat.mul_le_mul_right st (by omega)
      have g13 := cg13 (X := X) (B := B) (A := A) hI' hi'
      rw [tlo _ (by omega), tlo _ (by omega), tlo _ (by omega), tlo _ (by omega), tlo _ (by omega), tlo _ (by omega)] at g13
      have g0 := cg0 (X := X) (B := B) (A := A) hI'
      have g12 := cg12 (X := X) (B := B) (A := A) hI'
      rw [← a0, ← a13]
      refine j_runs [14] ok_Net_split 40 ?_
      simp (disch := first | omega | simp (disch := omega) only [sA_ne, sA_self]) only [st_Net_split, g13, j_k, List.mem_cons, List.not_mem_nil, or_false, or_self, if_false, if_true, ↓reduceIte, List.getElem?_cons_zero, List.getElem?_cons_succ, List.set_cons_zero, List.set_cons_succ, List.length_cons, List.length_nil, g_ld_s, g_v_s, g_ob_s, g_ia_s, g_la_s, g_qa_s, g_al_s, t_i_s, t_a_r, t_a_n, t_a_q, t_l_s, true_and, and_true, and_self, true_or, or_true, Decidable.not_not, not_true_eq_false, not_false_eq_true, false_implies, true_implies, implies_true, j_ok1_s, j_isL, j_cat_i, j_cat_l, j_cat_r, j_cat_n, j_rf_cat, j_rf_some, j_rf_none, k_w8_0, k_w8_i, k_w8_r, k_w8_l, k_sum0, k_ints, k_nari, k_narz0, k_narz1, k_okv0, k_okv1, k_okv2, k_okv2n, k_okv3, Option.toList_some, Option.toList_none, List.cons_append, List.nil_append, List.append_nil, List.map_cons, List.map_nil, List.sum_cons, List.sum_nil, Nat.add_zero, Nat.zero_add, Nat.reduceAdd, Nat.reduceMul, Nat.reduceSub, Nat.reduceDiv, Nat.reduceMod, Nat.reduceLT, Nat.reduceLeDiff, Nat.reduceEqDiff, Nat.reduceBEq, Nat.reduceBNe, Nat.one_ne_zero, Nat.zero_ne_one, Nat.succ_ne_self, Nat.le_refl, Nat.sub_self, Nat.sub_zero, Nat.zero_le, reduceCtorEq, eq_self, Bool.false_eq_true, pk_mul, nI_add, k_in, nI_clamp, nI_eq, nI_ltI, nI_leI, k_upd, k_eq0, k_lt0, k_0le, k_0lt, k_le0, k_mod]
      refine ⟨fun c => absurd c (by omega), fun _ => ?_⟩
      have es : nI (S 23 (6 * (i + 1) + 1) + S 23 (6 * (i + 1) + 2)) - nI (S 23 (6 * (i + 1) + 1) + (k + 1) * st) = nI (S 23 (6 * (i + 1) + 2) - (k + 1) * st) := by
        rw [pk_sub (by omega)]
        congr 1
        omega
      rw [es]
      refine g_call0 (sp_Math_min ?_)
      have em : (if nI (S 23 (6 * (i + 1) + 2) - (k + 1) * st) < nI st then nI (S 23 (6 * (i + 1) + 2) - (k + 1) * st) else nI st) = nI (if S 23 (6 * (i + 1) + 2) - (k + 1) * st < st then S 23 (6 * (i + 1) + 2) - (k + 1) * st else st) := nI_min (by omega) (by omega)
      rw [em]
      simp (disch := first | omega | simp (disch := omega) only [sA_ne, sA_self]) only [st_Net_split, g13, j_k, List.mem_cons, List.not_mem_nil, or_false, or_self, if_false, if_true, ↓reduceIte, List.getElem?_cons_zero, List.getElem?_cons_succ, List.set_cons_zero, List.set_cons_succ, List.length_cons, List.length_nil, g_ld_s, g_v_s, g_ob_s, g_ia_s, g_la_s, g_qa_s, g_al_s, t_i_s, t_a_r, t_a_n, t_a_q, t_l_s, true_and, and_true, and_self, true_or, or_true, Decidable.not_not, not_true_eq_false, not_false_eq_true, false_implies, true_implies, implies_true, j_ok1_s, j_isL, j_cat_i, j_cat_l, j_cat_r, j_cat_n, j_rf_cat, j_rf_some, j_rf_none, k_w8_0, k_w8_i, k_w8_r, k_w8_l, k_sum0, k_ints, k_nari, k_narz0, k_narz1, k_okv0, k_okv1, k_okv2, k_okv2n, k_okv3, Option.toList_some, Option.toList_none, List.cons_append, List.nil_append, List.append_nil, List.map_cons, List.map_nil, List.sum_cons, List.sum_nil, Nat.add_zero, Nat.zero_add, Nat.reduceAdd, Nat.reduceMul, Nat.reduceSub, Nat.reduceDiv, Nat.reduceMod, Nat.reduceLT, Nat.reduceLeDiff, Nat.reduceEqDiff, Nat.reduceBEq, Nat.reduceBNe, Nat.one_ne_zero, Nat.zero_ne_one, Nat.succ_ne_self, Nat.le_refl, Nat.sub_self, Nat.sub_zero, Nat.zero_le, reduceCtorEq, eq_self, Bool.false_eq_true, pk_mul, nI_add, k_in, nI_clamp, nI_eq, nI_ltI, nI_leI, k_upd, k_eq0, k_lt0, k_0le, k_0lt, k_le0, k_mod]
      refine g_calln (mc := 1) (ms := 6) (by omega) (by omega) (sp_Piece_part g13 (fun q hq => ?_))
      have hC' : cI (T k) X := hC.congr (tk 1 (by decide) (by decide) k) (tk 5 (by decide) (by decide) k) (tk 8 (by decide) (by decide) k) (tk 15 (by decide) (by decide) k) (tk 16 (by decide) (by decide) k) (tk 17 (by decide) (by decide) k)
      obtain ⟨ad2, k1, k2, k3⟩ := cW_piece (a := S 23 (6 * (i + 1))) (b := S 23 (6 * (i + 1) + 1) + (k + 1) * st) (c := if S 23 (6 * (i + 1) + 2) - (k + 1) * st < st then S 23 (6 * (i + 1) + 2) - (k + 1) * st else st) (d := S 23 (6 * (i + 1) + 3)) (e := S 23 (6 * (i + 1) + 4)) hI' hC' (by rw [t5]; exact h5 _ (by rw [t22]; omega)) hq
      have ne0 : ad' 0 0 ≠ q := by rintro rfl; rw [g0] at hq; cases hq
      have ne12 : ad' 12 0 ≠ q := by rintro rfl; rw [g12] at hq; cases hq
      simp (disch := first | omega | simp (disch := omega) only [sA_ne, sA_self]) only [st_Net_split, j_up_ne _ _ ne0, g0, j_k, List.mem_cons, List.not_mem_nil, or_false, or_self, if_false, if_true, ↓reduceIte, List.getElem?_cons_zero, List.getElem?_cons_succ, List.set_cons_zero, List.set_cons_succ, List.length_cons, List.length_nil, g_ld_s, g_v_s, g_ob_s, g_ia_s, g_la_s, g_qa_s, g_al_s, t_i_s, t_a_r, t_a_n, t_a_q, t_l_s, true_and, and_true, and_self, true_or, or_true, Decidable.not_not, not_true_eq_false, not_false_eq_true, false_implies, true_implies, implies_true, j_ok1_s, j_isL, j_cat_i, j_cat_l, j_cat_r, j_cat_n, j_rf_cat, j_rf_some, j_rf_none, k_w8_0, k_w8_i, k_w8_r, k_w8_l, k_sum0, k_ints, k_nari, k_narz0, k_narz1, k_okv0, k_okv1, k_okv2, k_okv2n, k_okv3, Option.toList_some, Option.toList_none, List.cons_append, List.nil_append, List.append_nil, List.map_cons, List.map_nil, List.sum_cons, List.sum_nil, Nat.add_zero, Nat.zero_add, Nat.reduceAdd, Nat.reduceMul, Nat.reduceSub, Nat.reduceDiv, Nat.reduceMod, Nat.reduceLT, Nat.reduceLeDiff, Nat.reduceEqDiff, Nat.reduceBEq, Nat.reduceBNe, Nat.one_ne_zero, Nat.zero_ne_one, Nat.succ_ne_self, Nat.le_refl, Nat.sub_self, Nat.sub_zero, Nat.zero_le, reduceCtorEq, eq_self, Bool.false_eq_true, pk_mul, nI_add, k_in, nI_clamp, nI_eq, nI_ltI, nI_leI, k_upd, k_eq0, k_lt0, k_0le, k_0lt, k_le0, k_mod]
      refine g_call0 (sp_Net_addPiece ((j_up_ne _ _ ne0).trans g0) ((j_up_ne _ _ ne12).trans g12) (j_up_self _ _ _) (by rw [t22]; omega) ?_)
      rw [← ts k] at k3 k1
      rw [k3]
      simp (disch := first | omega | simp (disch := omega) only [sA_ne, sA_self]) only [st_Net_split, j_k, List.mem_cons, List.not_mem_nil, or_false, or_self, if_false, if_true, ↓reduceIte, List.getElem?_cons_zero, List.getElem?_cons_succ, List.set_cons_zero, List.set_cons_succ, List.length_cons, List.length_nil, g_ld_s, g_v_s, g_ob_s, g_ia_s, g_la_s, g_qa_s, g_al_s, t_i_s, t_a_r, t_a_n, t_a_q, t_l_s, true_and, and_true, and_self, true_or, or_true, Decidable.not_not, not_true_eq_false, not_false_eq_true, false_implies, true_implies, implies_true, j_ok1_s, j_isL, j_cat_i, j_cat_l, j_cat_r, j_cat_n, j_rf_cat, j_rf_some, j_rf_none, k_w8_0, k_w8_i, k_w8_r, k_w8_l, k_sum0, k_ints, k_nari, k_narz0, k_narz1, k_okv0, k_okv1, k_okv2, k_okv2n, k_okv3, Option.toList_some, Option.toList_none, List.cons_append, List.nil_append, List.append_nil, List.map_cons, List.map_nil, List.sum_cons, List.sum_nil, Nat.add_zero, Nat.zero_add, Nat.reduceAdd, Nat.reduceMul, Nat.reduceSub, Nat.reduceDiv, Nat.reduceMod, Nat.reduceLT, Nat.reduceLeDiff, Nat.reduceEqDiff, Nat.reduceBEq, Nat.reduceBNe, Nat.one_ne_zero, Nat.zero_ne_one, Nat.succ_ne_self, Nat.le_refl, Nat.sub_self, Nat.sub_zero, Nat.zero_le, reduceCtorEq, eq_self, Bool.false_eq_true, pk_mul, nI_add, k_in, nI_clamp, nI_eq, nI_ltI, nI_leI, k_upd, k_eq0, k_lt0, k_0le, k_0lt, k_le0, k_mod]
      have := ih (k + 1) ad2 (some (.int (nI (S 23 (6 * (i + 1) + 1) + (k + 1) * st)))) (by omega) k1 ((k2 0 0 rfl).trans a0) ((k2 13 i hi').trans a13)
      rw [← a0, ← a13] at this
      rw [show d + 1 - 1 = d by omega, show 6 * (d + 1) - 6 = 6 * d by omega]
      exact this
  have g13 := cg13 (X := X) (B := B) (A := A) hI hi
  refine j_runs [14] ok_Net_split 20 ?_
  simp (disch := first | omega | simp (disch := omega) only [sA_ne, sA_self]) only [st_Net_split, g13, j_k, List.mem_cons, List.not_mem_nil, or_false, or_self, if_false, if_true, ↓reduceIte, List.getElem?_cons_zero, List.getElem?_cons_succ, List.set_cons_zero, List.set_cons_succ, List.length_cons, List.length_nil, g_ld_s, g_v_s, g_ob_s, g_ia_s, g_la_s, g_qa_s, g_al_s, t_i_s, t_a_r, t_a_n, t_a_q, t_l_s, true_and, and_true, and_self, true_or, or_true, Decidable.not_not, not_true_eq_false, not_false_eq_true, false_implies, true_implies, implies_true, j_ok1_s, j_isL, j_cat_i, j_cat_l, j_cat_r, j_cat_n, j_rf_cat, j_rf_some, j_rf_none, k_w8_0, k_w8_i, k_w8_r, k_w8_l, k_sum0, k_ints, k_nari, k_narz0, k_narz1, k_okv0, k_okv1, k_okv2, k_okv2n, k_okv3, Option.toList_some, Option.toList_none, List.cons_append, List.nil_append, List.append_nil, List.map_cons, List.map_nil, List.sum_cons, List.sum_nil, Nat.add_zero, Nat.zero_add, Nat.reduceAdd, Nat.reduceMul, Nat.reduceSub, Nat.reduceDiv, Nat.reduceMod, Nat.reduceLT, Nat.reduceLeDiff, Nat.reduceEqDiff, Nat.reduceBEq, Nat.reduceBNe, Nat.one_ne_zero, Nat.zero_ne_one, Nat.succ_ne_self, Nat.le_refl, Nat.sub_self, Nat.sub_zero, Nat.zero_le, reduceCtorEq, eq_self, Bool.false_eq_true, pk_mul, nI_add, k_in, nI_clamp, nI_eq, nI_ltI, nI_leI, k_upd, k_eq0, k_lt0, k_0le, k_0lt, k_le0, k_mod]
  have := head c 0 ad none (by omega) (by rw [t0]; exact hI) rfl rfl
  rw [t0] at this
  exact this
