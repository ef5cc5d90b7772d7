/-! THE CLASS'S CHART: Arrays.fill, hasLink, longestMatch, shorten -/
set_option maxHeartbeats 4000000 in
set_option maxRecDepth 100000 in
theorem sp_Arrays_fill {w : jW} {a m : Nat} {f : Nat → Int32} {v : Int32} {post : Option Value → jW → Prop} (ha : w a = some (.inl (0, m, .inl f))) (hm : m ≤ 1000) (h : ∀ g, (∀ j, j < m → g j = v) → post none (j_up w a (.inl (0, m, .inl g)))) : j_sem m_Arrays_fill [.ref a, .int v] w 0 0 post := by
  refine j_sem_ofF (by decide +kernel) (Nat.le_of_ble_eq_true rfl) ?_
  show j_S _ _ 0 [some (.ref a), some (.int v), none, none] [] _ 0 0
  have head : ∀ d i g, i + d = m → (∀ j, j < i → g j = v) → j_S m_Arrays_fill post 5 [some (.ref a), some (.int v), some (.int (nI i)), some (.int (nI m))] [] (j_up w a (.inl (0, m, .inl g))) 0 0 := by
    intro d
    induction d with
    | zero =>
      intro i g e hg
      refine j_runs [5] ok_Arrays_fill 8 ?_
      simp (disch := first | omega | simp (disch := omega) only [sA_ne, sA_self]) only [st_Arrays_fill, j_k, List.mem_cons, List.not_mem_nil, or_false, or_self, if_false, if_true, ↓reduceIte, List.getElem?_cons_zero, List.getElem?_cons_succ, List.set_cons_zero, List.set_cons_succ, List.length_cons, List.length_nil, g_ld_s, g_v_s, g_ob_s, g_ia_s, g_la_s, g_qa_s, g_al_s, t_i_s, t_a_r, t_a_n, t_a_q, t_l_s, true_and, and_true, and_self, true_or, or_true, Decidable.not_not, not_true_eq_false, not_false_eq_true, false_implies, true_implies, implies_true, j_ok1_s, j_isL, j_cat_i, j_cat_l, j_cat_r, j_cat_n, j_rf_cat, j_rf_some, j_rf_none, k_w8_0, k_w8_i, k_w8_r, k_w8_l, k_sum0, k_ints, k_nari, k_narz0, k_narz1, k_okv0, k_okv1, k_okv2, k_okv2n, k_okv3, Option.toList_some, Option.toList_none, List.cons_append, List.nil_append, List.append_nil, List.map_cons, List.map_nil, List.sum_cons, List.sum_nil, Nat.add_zero, Nat.zero_add, Nat.reduceAdd, Nat.reduceMul, Nat.reduceSub, Nat.reduceDiv, Nat.reduceMod, Nat.reduceLT, Nat.reduceLeDiff, Nat.reduceEqDiff, Nat.reduceBEq, Nat.reduceBNe, Nat.one_ne_zero, Nat.zero_ne_one, Nat.succ_ne_self, Nat.le_refl, Nat.sub_self, Nat.sub_zero, Nat.zero_le, reduceCtorEq, eq_self, Bool.false_eq_true, pk_mul, nI_add, k_in, nI_clamp, nI_eq, nI_ltI, nI_leI, k_upd, k_eq0, k_lt0, k_0le, k_0lt, k_le0, k_mod]
      refine ⟨fun _ => ?_, fun c => absurd (by omega) c⟩
      exact h g (fun j hj => hg j (by omega))
    | succ d ih =>
      intro i g e hg
      refine j_runs [5] ok_Arrays_fill 16 ?_
      simp (disch := first | omega | simp (disch := omega) only [sA_ne, sA_self]) only [st_Arrays_fill, j_up_self, j_up_up, j_k, List.mem_cons, List.not_mem_nil, or_false, or_self, if_false, if_true, ↓reduceIte, List.getElem?_cons_zero, List.getElem?_cons_succ, List.set_cons_zero, List.set_cons_succ, List.length_cons, List.length_nil, g_ld_s, g_v_s, g_ob_s, g_ia_s, g_la_s, g_qa_s, g_al_s, t_i_s, t_a_r, t_a_n, t_a_q, t_l_s, true_and, and_true, and_self, true_or, or_true, Decidable.not_not, not_true_eq_false, not_false_eq_true, false_implies, true_implies, implies_true, j_ok1_s, j_isL, j_cat_i, j_cat_l, j_cat_r, j_cat_n, j_rf_cat, j_rf_some, j_rf_none, k_w8_0, k_w8_i, k_w8_r, k_w8_l, k_sum0, k_ints, k_nari, k_narz0, k_narz1, k_okv0, k_okv1, k_okv2, k_okv2n, k_okv3, Option.toList_some, Option.toList_none, List.cons_append, List.nil_append, List.append_nil, List.map_cons, List.map_nil, List.sum_cons, List.sum_nil, Nat.add_zero, Nat.zero_add, Nat.reduceAdd, Nat.reduceMul, Nat.reduceSub, Nat.reduceDiv, Nat.reduceMod, Nat.reduceLT, Nat.reduceLeDiff, Nat.reduceEqDiff, Nat.reduceBEq, Nat.reduceBNe, Nat.one_ne_zero, Nat.zero_ne_one, Nat.succ_ne_self, Nat.le_refl, Nat.sub_self, Nat.sub_zero, Nat.zero_le, reduceCtorEq, eq_self, Bool.false_eq_true, pk_mul, nI_add, k_in, nI_clamp, nI_eq, nI_ltI, nI_leI, k_upd, k_eq0, k_lt0, k_0le, k_0lt, k_le0, k_mod]
      refine ⟨fun c => absurd c (by omega), fun _ => ?_⟩
      refine ih (i + 1) _ (by omega) (fun j hj => ?_)
      show (if j = i then v else g j) = v
      by_cases e : j = i
      · rw [if_pos e]
      · rw [if_neg e]; exact hg j (by omega)
  refine j_runs [5] ok_Arrays_fill 16 ?_
  simp (disch := first | omega | simp (disch := omega) only [sA_ne, sA_self]) only [st_Arrays_fill, k_len, ha, j_k, List.mem_cons, List.not_mem_nil, or_false, or_self, if_false, if_true, ↓reduceIte, List.getElem?_cons_zero, List.getElem?_cons_succ, List.set_cons_zero, List.set_cons_succ, List.length_cons, List.length_nil, g_ld_s, g_v_s, g_ob_s, g_ia_s, g_la_s, g_qa_s, g_al_s, t_i_s, t_a_r, t_a_n, t_a_q, t_l_s, true_and, and_true, and_self, true_or, or_true, Decidable.not_not, not_true_eq_false, not_false_eq_true, false_implies, true_implies, implies_true, j_ok1_s, j_isL, j_cat_i, j_cat_l, j_cat_r, j_cat_n, j_rf_cat, j_rf_some, j_rf_none, k_w8_0, k_w8_i, k_w8_r, k_w8_l, k_sum0, k_ints, k_nari, k_narz0, k_narz1, k_okv0, k_okv1, k_okv2, k_okv2n, k_okv3, Option.toList_some, Option.toList_none, List.cons_append, List.nil_append, List.append_nil, List.map_cons, List.map_nil, List.sum_cons, List.sum_nil, Nat.add_zero, Nat.zero_add, Nat.reduceAdd, Nat.reduceMul, Nat.reduceSub, Nat.reduceDiv, Nat.reduceMod, Nat.reduceLT, Nat.reduceLeDiff, Nat.reduceEqDiff, Nat.reduceBEq, Nat.reduceBNe, Nat.one_ne_zero, Nat.zero_ne_one, Nat.succ_ne_self, Nat.le_refl, Nat.sub_self, Nat.sub_zero, Nat.zero_le, reduceCtorEq, eq_self, Bool.false_eq_true]
  have := head m 0 f (by omega) (fun j hj => absurd hj (by omega))
  have e : j_up w a (.inl (0, m, .inl f)) = w := by
    funext q
    by_cases hq : q = a
    · subst hq; rw [j_up_self, ha]
    · rw [j_up_ne _ _ hq]
  rw [e] at this
  exact this
theorem k_bit {n l : Nat} : (n &&& 2 ^ l = 0) ↔ n / 2 ^ l % 2 = 0 := by
  have e : n / 2 ^ l % 2 = (n.testBit l).toNat := (Nat.toNat_testBit _ _).symm
  rw [e]
  constructor
  · intro h
    have h2 : (n &&& 2 ^ l).testBit l = false := by rw [h]; exact Nat.zero_testBit l
    rw [Nat.testBit_and, Nat.testBit_two_pow_self, Bool.and_true] at h2
    rw [h2]
    rfl
  · intro h
    have h2 : n.testBit l = false := by
      cases hb : n.testBit l with
      | false => rfl
      | true => rw [hb] at h; cases h
    apply Nat.eq_of_testBit_eq
    intro i
    rw [Nat.testBit_and, Nat.zero_testBit, Nat.testBit_two_pow]
    by_cases hi : l = i
    · subst hi
      rw [h2]
      rfl
    · rw [decide_eq_false hi, Bool.and_false]
theorem k_bit2 {a b l : Nat} : (¬ (a &&& b) &&& 2 ^ l = 0) ↔ (a / 2 ^ l % 2 = 1 ∧ b / 2 ^ l % 2 = 1) := by
  have ea : a / 2 ^ l % 2 = (a.testBit l).toNat := (Nat.toNat_testBit _ _).symm
  have eb : b / 2 ^ l % 2 = (b.testBit l).toNat := (Nat.toNat_testBit _ _).symm
  rw [k_bit]
  have ec : (a &&& b) / 2 ^ l % 2 = ((a &&& b).testBit l).toNat := (Nat.toNat_testBit _ _).symm
  rw [ea, eb, ec, Nat.testBit_and]
  cases a.testBit l <;> cases b.testBit l <;> decide
set_option maxHeartbeats 4000000 in
set_option maxRecDepth 100000 in
theorem sp_Advert_hasLink {w : jW} {a s l : Nat} {x0 x1 x3 : Value} {post : Option Value → jW → Prop} (ha : w a = some (.inr (4, [x0, x1, .int (nI s), x3]))) (hs : s ≤ 4095) (hl : l < 12) (h1 : s / 2 ^ l % 2 = 1 → post (some (.int (nI 1))) w) (h0 : ¬ s / 2 ^ l % 2 = 1 → post (some (.int (nI 0))) w) : j_sem m_Advert_hasLink [.ref a, .int (nI l)] w 0 0 post := by
  refine j_sem_of (by decide +kernel) (Nat.le_of_ble_eq_true rfl) ?_
  show j_S _ _ 0 [some (.ref a), some (.int (nI l))] [] _ 0 0
  have b : s / 2 ^ l ≤ s := Nat.div_le_self _ _
  have e1 : nI s >>> (nI l &&& 31) = nI (s / 2 ^ l) := k_shr (by omega) (by omega)
  have e2 : nI (s / 2 ^ l) &&& nI 1 = nI (s / 2 ^ l % 2) := by rw [k_and, Nat.and_one_is_mod]
  refine j_runs [] ok_Advert_hasLink 40 ?_
  simp (disch := first | omega | simp (disch := omega) only [sA_ne, sA_self]) only [st_Advert_hasLink, ha, e1, e2, j_k, List.mem_cons, List.not_mem_nil, or_false, or_self, if_false, if_true, ↓reduceIte, List.getElem?_cons_zero, List.getElem?_cons_succ, List.set_cons_zero, List.set_cons_succ, List.length_cons, List.length_nil, g_ld_s, g_v_s, g_ob_s, g_ia_s, g_la_s, g_qa_s, g_al_s, t_i_s, t_a_r, t_a_n, t_a_q, t_l_s, true_and, and_true, and_self, true_or, or_true, Decidable.not_not, not_true_eq_false, not_false_eq_true, false_implies, true_implies, implies_true, j_ok1_s, j_isL, j_cat_i, j_cat_l, j_cat_r, j_cat_n, j_rf_cat, j_rf_some, j_rf_none, k_w8_0, k_w8_i, k_w8_r, k_w8_l, k_sum0, k_ints, k_nari, k_narz0, k_narz1, k_okv0, k_okv1, k_okv2, k_okv2n, k_okv3, Option.toList_some, Option.toList_none, List.cons_append, List.nil_append, List.append_nil, List.map_cons, List.map_nil, List.sum_cons, List.sum_nil, Nat.add_zero, Nat.zero_add, Nat.reduceAdd, Nat.reduceMul, Nat.reduceSub, Nat.reduceDiv, Nat.reduceMod, Nat.reduceLT, Nat.reduceLeDiff, Nat.reduceEqDiff, Nat.reduceBEq, Nat.reduceBNe, Nat.one_ne_zero, Nat.zero_ne_one, Nat.succ_ne_self, Nat.le_refl, Nat.sub_self, Nat.sub_zero, Nat.zero_le, reduceCtorEq, eq_self, Bool.false_eq_true, pk_mul, nI_add, k_in, nI_clamp, nI_eq, nI_ltI, nI_leI, k_upd, k_eq0, k_lt0, k_0le, k_0lt, k_le0, k_mod]
  exact ⟨fun c => h0 c, fun c => h1 c⟩
theorem oI_lt {o : Option Nat} {n : Nat} (ho : ∀ b, o = some b → b < 2 ^ 31) (hn : n < 2 ^ 31) : oI o < nI n ↔ ∀ b, o = some b → b < n := by
  cases o with
  | none =>
    refine ⟨fun _ b hb => (by cases hb), fun _ => ?_⟩
    show (-1 : Int32) < nI n
    rw [Int32.lt_iff_toInt_lt, nI_toInt hn]
    have : ((-1 : Int32)).toInt = -1 := by decide
    omega
  | some a =>
    show nI a < nI n ↔ _
    rw [nI_ltI (ho a rfl) hn]
    exact ⟨fun h b hb => by cases hb; exact h, fun h => h a rfl⟩
set_option maxHeartbeats 4000000 in
set_option maxRecDepth 100000 in
theorem sp_Advert_longestMatch {S X : Nat → Nat → Nat} {B : Nat → Nat → Int64} {A : Nat → Nat → Int32} {ad : Nat → Nat → Nat} {a x : Nat} {post : Option Value → jW → Prop} (hI : n_inj (cAl S) ad) (hS : rLk S) (h13 : ∀ i, S 13 i / 16 ≤ 255) (ha : 1 ≤ a) (ha' : a ≤ S 8 0) (hx : x ≤ 255) (h : post (some (.int (oI (rLg S a x (S 12 a))))) (cW S X B A ad)) : j_sem m_Advert_longestMatch [.ref (ad 18 a), .int (nI x)] (cW S X B A ad) 0 0 post := by
  refine j_sem_of (by decide +kernel) (Nat.le_of_ble_eq_true rfl) ?_
  show j_S _ _ 0 [some (.ref (ad 18 a)), some (.int (nI x)), none, none] [] _ 0 0
  have b12 : S 12 a ≤ 3 := hS.1 12 a
  have head : ∀ d k, k + d = S 12 a → j_S m_Advert_longestMatch post 4 [some (.ref (ad 18 a)), some (.int (nI x)), some (.int (oI (rLg S a x k))), some (.int (nI k))] [] (cW S X B A ad) 0 0 := by
    intro d
    induction d with
    | zero =>
      intro k e
      refine j_runs [4] ok_Advert_longestMatch 10 ?_
      simp (disch := first | omega | simp (disch := omega) only [sA_ne, sA_self]) only [st_Advert_longestMatch, k_len, cg18 hI ha ha', cg19 hI ha ha', j_k, List.mem_cons, List.not_mem_nil, or_false, or_self, if_false, if_true, ↓reduceIte, List.getElem?_cons_zero, List.getElem?_cons_succ, List.set_cons_zero, List.set_cons_succ, List.length_cons, List.length_nil, g_ld_s, g_v_s, g_ob_s, g_ia_s, g_la_s, g_qa_s, g_al_s, t_i_s, t_a_r, t_a_n, t_a_q, t_l_s, true_and, and_true, and_self, true_or, or_true, Decidable.not_not, not_true_eq_false, not_false_eq_true, false_implies, true_implies, implies_true, j_ok1_s, j_isL, j_cat_i, j_cat_l, j_cat_r, j_cat_n, j_rf_cat, j_rf_some, j_rf_none, k_w8_0, k_w8_i, k_w8_r, k_w8_l, k_sum0, k_ints, k_nari, k_narz0, k_narz1, k_okv0, k_okv1, k_okv2, k_okv2n, k_okv3, Option.toList_some, Option.toList_none, List.cons_append, List.nil_append, List.append_nil, List.map_cons, List.map_nil, List.sum_cons, List.sum_nil, Nat.add_zero, Nat.zero_add, Nat.reduceAdd, Nat.reduceMul, Nat.reduceSub, Nat.reduceDiv, Nat.reduceMod, Nat.reduceLT, Nat.reduceLeDiff, Nat.reduceEqDiff, Nat.reduceBEq, Nat.reduceBNe, Nat.one_ne_zero, Nat.zero_ne_one, Nat.succ_ne_self, Nat.le_refl, Nat.sub_self, Nat.sub_zero, Nat.zero_le, reduceCtorEq, eq_self, Bool.false_eq_true, pk_mul, nI_add, k_in, nI_clamp, nI_eq, nI_ltI, nI_leI, k_upd, k_eq0, k_lt0, k_0le, k_0lt, k_le0, k_mod]
      refine ⟨fun _ => ?_, fun c => absurd (by omega) c⟩
      rw [show k = S 12 a by omega]
      exact h
    | succ d ih =>
      intro k e
      have hk : k < S 12 a := by omega
      have next := ih (k + 1) (by omega)
      have p1 := h13 (3 * a + k)
      have p2 := hS.2.2.2 (3 * a + k)
      refine j_runs [4] ok_Advert_longestMatch 40 ?_
      simp (disch := first | omega | simp (disch := omega) only [sA_ne, sA_self]) only [st_Advert_longestMatch, k_len, cg18 hI ha ha', cg19 hI ha ha', cPre_lt, j_k, List.mem_cons, List.not_mem_nil, or_false, or_self, if_false, if_true, ↓reduceIte, List.getElem?_cons_zero, List.getElem?_cons_succ, List.set_cons_zero, List.set_cons_succ, List.length_cons, List.length_nil, g_ld_s, g_v_s, g_ob_s, g_ia_s, g_la_s, g_qa_s, g_al_s, t_i_s, t_a_r, t_a_n, t_a_q, t_l_s, true_and, and_true, and_self, true_or, or_true, Decidable.not_not, not_true_eq_false, not_false_eq_true, false_implies, true_implies, implies_true, j_ok1_s, j_isL, j_cat_i, j_cat_l, j_cat_r, j_cat_n, j_rf_cat, j_rf_some, j_rf_none, k_w8_0, k_w8_i, k_w8_r, k_w8_l, k_sum0, k_ints, k_nari, k_narz0, k_narz1, k_okv0, k_okv1, k_okv2, k_okv2n, k_okv3, Option.toList_some, Option.toList_none, List.cons_append, List.nil_append, List.append_nil, List.map_cons, List.map_nil, List.sum_cons, List.sum_nil, Nat.add_zero, Nat.zero_add, Nat.reduceAdd, Nat.reduceMul, Nat.reduceSub, Nat.reduceDiv, Nat.reduceMod, Nat.reduceLT, Nat.reduceLeDiff, Nat.reduceEqDiff, Nat.reduceBEq, Nat.reduceBNe, Nat.one_ne_zero, Nat.zero_ne_one, Nat.succ_ne_self, Nat.le_refl, Nat.sub_self, Nat.sub_zero, Nat.zero_le, reduceCtorEq, eq_self, Bool.false_eq_true, pk_mul, nI_add, k_in, nI_clamp, nI_eq, nI_ltI, nI_leI, k_upd, k_eq0, k_lt0, k_0le, k_0lt, k_le0, k_mod]
      refine ⟨fun c => absurd c (by omega), fun _ => ?_⟩
      refine g_call0 (sp_Prefix_covers p1 p2 hx (fun c => ?_) (fun c => ?_))
      · simp (disch := first | omega | simp (disch := omega) only [sA_ne, sA_self]) only [st_Advert_longestMatch, k_len, cg18 hI ha ha', cg19 hI ha ha', cPre_lt, j_k, List.mem_cons, List.not_mem_nil, or_false, or_self, if_false, if_true, ↓reduceIte, List.getElem?_cons_zero, List.getElem?_cons_succ, List.set_cons_zero, List.set_cons_succ, List.length_cons, List.length_nil, g_ld_s, g_v_s, g_ob_s, g_ia_s, g_la_s, g_qa_s, g_al_s, t_i_s, t_a_r, t_a_n, t_a_q, t_l_s, true_and, and_true, and_self, true_or, or_true, Decidable.not_not, not_true_eq_false, not_false_eq_true, false_implies, true_implies, implies_true, j_ok1_s, j_isL, j_cat_i, j_cat_l, j_cat_r, j_cat_n, j_rf_cat, j_rf_some, j_rf_none, k_w8_0, k_w8_i, k_w8_r, k_w8_l, k_sum0, k_ints, k_nari, k_narz0, k_narz1, k_okv0, k_okv1, k_okv2, k_okv2n, k_okv3, Option.toList_some, Option.toList_none, List.cons_append, List.nil_append, List.append_nil, List.map_cons, List.map_nil, List.sum_cons, List.sum_nil, Nat.add_zero, Nat.zero_add, Nat.reduceAdd, Nat.reduceMul, Nat.reduceSub, Nat.reduceDiv, Nat.reduceMod, Nat.reduceLT, Nat.reduceLeDiff, Nat.reduceEqDiff, Nat.reduceBEq, Nat.reduceBNe, Nat.one_ne_zero, Nat.zero_ne_one, Nat.succ_ne_self, Nat.le_refl, Nat.sub_self, Nat.sub_zero, Nat.zero_le, reduceCtorEq, eq_self, Bool.false_eq_true, pk_mul, nI_add, k_in, nI_clamp, nI_eq, nI_ltI, nI_leI, k_upd, k_eq0, k_lt0, k_0le, k_0lt, k_le0, k_mod]
        refine g_call0 (sp_Prefix_lengthOf p1 ?_)
        simp (disch := first | omega | simp (disch := omega) only [sA_ne, sA_self]) only [st_Advert_longestMatch, j_k, List.mem_cons, List.not_mem_nil, or_false, or_self, if_false, if_true, ↓reduceIte, List.getElem?_cons_zero, List.getElem?_cons_succ, List.set_cons_zero, List.set_cons_succ, List.length_cons, List.length_nil, g_ld_s, g_v_s, g_ob_s, g_ia_s, g_la_s, g_qa_s, g_al_s, t_i_s, t_a_r, t_a_n, t_a_q, t_l_s, true_and, and_true, and_self, true_or, or_true, Decidable.not_not, not_true_eq_false, not_false_eq_true, false_implies, true_implies, implies_true, j_ok1_s, j_isL, j_cat_i, j_cat_l, j_cat_r, j_cat_n, j_rf_cat, j_rf_some, j_rf_none, k_w8_0, k_w8_i, k_w8_r, k_w8_l, k_sum0, k_ints, k_nari, k_narz0, k_narz1, k_okv0, k_okv1, k_okv2, k_okv2n, k_okv3, Option.toList_some, Option.toList_none, List.cons_append, List.nil_append, List.append_nil, List.map_cons, List.map_nil, List.sum_cons, List.sum_nil, Nat.add_zero, Nat.zero_add, Nat.reduceAdd, Nat.reduceMul, Nat.reduceSub, Nat.reduceDiv, Nat.reduceMod, Nat.reduceLT, Nat.reduceLeDiff, Nat.reduceEqDiff, Nat.reduceBEq, Nat.reduceBNe, Nat.one_ne_zero, Nat.zero_ne_one, Nat.succ_ne_self, Nat.le_refl, Nat.sub_self, Nat.sub_zero, Nat.zero_le, reduceCtorEq, eq_self, Bool.false_eq_true, pk_mul, nI_add, k_in, nI_clamp, nI_eq, nI_ltI, nI_leI, k_upd, k_eq0, k_lt0, k_0le, k_0lt, k_le0, k_mod]
        refine g_call0 (sp_Math_max ?_)
        simp (disch := first | omega | simp (disch := omega) only [sA_ne, sA_self]) only [st_Advert_longestMatch, j_k, List.mem_cons, List.not_mem_nil, or_false, or_self, if_false, if_true, ↓reduceIte, List.getElem?_cons_zero, List.getElem?_cons_succ, List.set_cons_zero, List.set_cons_succ, List.length_cons, List.length_nil, g_ld_s, g_v_s, g_ob_s, g_ia_s, g_la_s, g_qa_s, g_al_s, t_i_s, t_a_r, t_a_n, t_a_q, t_l_s, true_and, and_true, and_self, true_or, or_true, Decidable.not_not, not_true_eq_false, not_false_eq_true, false_implies, true_implies, implies_true, j_ok1_s, j_isL, j_cat_i, j_cat_l, j_cat_r, j_cat_n, j_rf_cat, j_rf_some, j_rf_none, k_w8_0, k_w8_i, k_w8_r, k_w8_l, k_sum0, k_ints, k_nari, k_narz0, k_narz1, k_okv0, k_okv1, k_okv2, k_okv2n, k_okv3, Option.toList_some, Option.toList_none, List.cons_append, List.nil_append, List.append_nil, List.map_cons, List.map_nil, List.sum_cons, List.sum_nil, Nat.add_zero, Nat.zero_add, Nat.reduceAdd, Nat.reduceMul, Nat.reduceSub, Nat.reduceDiv, Nat.reduceMod, Nat.reduceLT, Nat.reduceLeDiff, Nat.reduceEqDiff, Nat.reduceBEq, Nat.reduceBNe, Nat.one_ne_zero, Nat.zero_ne_one, Nat.succ_ne_self, Nat.le_refl, Nat.sub_self, Nat.sub_zero, Nat.zero_le, reduceCtorEq, eq_self, Bool.false_eq_true, pk_mul, nI_add, k_in, nI_clamp, nI_eq, nI_ltI, nI_leI, k_upd, k_eq0, k_lt0, k_0le, k_0lt, k_le0, k_mod]
        have e2 : (if oI (rLg S a x k) < nI (S 13 (3 * a + k) % 16) then nI (S 13 (3 * a + k) % 16) else oI (rLg S a x k)) = oI (rLg S a x (k + 1)) := by
          have ol := oI_lt (o := rLg S a x k) (n := S 13 (3 * a + k) % 16) (fun b hb => by have := rLg_le hS k b hb; omega) (by omega)
          conv => rhs; unfold rLg
          by_cases c2 : oI (rLg S a x k) < nI (S 13 (3 * a + k) % 16)
          · rw [if_pos c2, if_pos ⟨c, ol.mp c2⟩]; rfl
          · rw [if_neg c2, if_neg (fun q => c2 (ol.mpr q.2))]
        rw [e2]
        exact next
      · simp (disch := first | omega | simp (disch := omega) only [sA_ne, sA_self]) only [st_Advert_longestMatch, j_k, List.mem_cons, List.not_mem_nil, or_false, or_self, if_false, if_true, ↓reduceIte, List.getElem?_cons_zero, List.getElem?_cons_succ, List.set_cons_zero, List.set_cons_succ, List.length_cons, List.length_nil, g_ld_s, g_v_s, g_ob_s, g_ia_s, g_la_s, g_qa_s, g_al_s, t_i_s, t_a_r, t_a_n, t_a_q, t_l_s, true_and, and_true, and_self, true_or, or_true, Decidable.not_not, not_true_eq_false, not_false_eq_true, false_implies, true_implies, implies_true, j_ok1_s, j_isL, j_cat_i, j_cat_l, j_cat_r, j_cat_n, j_rf_cat, j_rf_some, j_rf_none, k_w8_0, k_w8_i, k_w8_r, k_w8_l, k_sum0, k_ints, k_nari, k_narz0, k_narz1, k_okv0, k_okv1, k_okv2, k_okv2n, k_okv3, Option.toList_some, Option.toList_none, List.cons_append, List.nil_append, List.append_nil, List.map_cons, List.map_nil, List.sum_cons, List.sum_nil, Nat.add_zero, Nat.zero_add, Nat.reduceAdd, Nat.reduceMul, Nat.reduceSub, Nat.reduceDiv, Nat.reduceMod, Nat.reduceLT, Nat.reduceLeDiff, Nat.reduceEqDiff, Nat.reduceBEq, Nat.reduceBNe, Nat.one_ne_zero, Nat.zero_ne_one, Nat.succ_ne_self, Nat.le_refl, Nat.sub_self, Nat.sub_zero, Nat.zero_le, reduceCtorEq, eq_self, Bool.false_eq_true, pk_mul, nI_add, k_in, nI_clamp, nI_eq, nI_ltI, nI_leI, k_upd, k_eq0, k_lt0, k_0le, k_0lt, k_le0, k_mod]
        have e2 : rLg S a x (k + 1) = rLg S a x k := by
          conv => lhs; unfold rLg
          rw [if_neg (fun q => c q.1)]
        rw [e2] at next
        exact next
  refine j_runs [4] ok_Advert_longestMatch 8 ?_
  simp (disch := first | omega | simp (disch := omega) only [sA_ne, sA_self]) only [st_Advert_longestMatch, j_k, List.mem_cons, List.not_mem_nil, or_false, or_self, if_false, if_true, ↓reduceIte, List.getElem?_cons_zero, List.getElem?_cons_succ, List.set_cons_zero, List.set_cons_succ, List.length_cons, List.length_nil, g_ld_s, g_v_s, g_ob_s, g_ia_s, g_la_s, g_qa_s, g_al_s, t_i_s, t_a_r, t_a_n, t_a_q, t_l_s, true_and, and_true, and_self, true_or, or_true, Decidable.not_not, not_true_eq_false, not_false_eq_true, false_implies, true_implies, implies_true, j_ok1_s, j_isL, j_cat_i, j_cat_l, j_cat_r, j_cat_n, j_rf_cat, j_rf_some, j_rf_none, k_w8_0, k_w8_i, k_w8_r, k_w8_l, k_sum0, k_ints, k_nari, k_narz0, k_narz1, k_okv0, k_okv1, k_okv2, k_okv2n, k_okv3, Option.toList_some, Option.toList_none, List.cons_append, List.nil_append, List.append_nil, List.map_cons, List.map_nil, List.sum_cons, List.sum_nil, Nat.add_zero, Nat.zero_add, Nat.reduceAdd, Nat.reduceMul, Nat.reduceSub, Nat.reduceDiv, Nat.reduceMod, Nat.reduceLT, Nat.reduceLeDiff, Nat.reduceEqDiff, Nat.reduceBEq, Nat.reduceBNe, Nat.one_ne_zero, Nat.zero_ne_one, Nat.succ_ne_self, Nat.le_refl, Nat.sub_self, Nat.sub_zero, Nat.zero_le, reduceCtorEq, eq_self, Bool.false_eq_true]
  exact head (S 12 a) 0 (by omega)
/-! distances as the class keeps them -/
def eN (o : Option Nat) : Nat := match o with
  | none => 1000000
  | some a => a
theorem eN_rx {G : Nat → Option Nat} {x y c m : Nat} (hb : ∀ j a, G j = some a → a ≤ m) (hm : m ≤ 900000) (hc : c ≤ 50) : eN (rx G x y c y) = (if eN (G x) + c < eN (G y) then eN (G x) + c else eN (G y)) := by
  cases hx : G x with
  | none =>
    rw [rx_none hx]
    cases hy : G y with
    | none => show 1000000 = if 1000000 + c < 1000000 then 1000000 + c else 1000000; rw [if_neg (by omega)]
    | some b => have := hb y b hy; show b = if 1000000 + c < b then 1000000 + c else b; rw [if_neg (by omega)]
  | some a =>
    have := hb x a hx
    cases hy : G y with
    | none =>
      rw [rx_new hx hy, va_up_self]
      show a + c = if a + c < 1000000 then a + c else 1000000
      rw [if_pos (by omega)]
    | some b =>
      by_cases hl : a + c < b
      · rw [rx_low hx hy hl, va_up_self]
        show a + c = if a + c < b then a + c else b
        rw [if_pos hl]
      · rw [rx_high hx hy hl, hy]
        show b = if a + c < b then a + c else b
        rw [if_neg hl]
theorem rx_ne {G : Nat → Option Nat} {x y c j : Nat} (h : j ≠ y) : rx G x y c j = G j := by
  rcases rx_cases G x y c with e | ⟨a, -, e, -⟩
  · rw [e]
  · rw [e, va_up_ne _ _ h]
theorem eN_le {G : Nat → Option Nat} {m j : Nat} (hb : ∀ j a, G j = some a → a ≤ m) (hm : m ≤ 900000) : eN (G j) ≤ 1000000 := by
  cases h : G j with
  | none => exact Nat.le_refl _
  | some a => have := hb j a h; show a ≤ 1000000; omega
theorem aA_self (A : Nat → Nat → Int32) (k : Nat) (g : Nat → Int32) : aA A k g k = g := if_pos rfl
theorem aA_ne (A : Nat → Nat → Int32) {k z : Nat} (g : Nat → Int32) (h : z ≠ k) : aA A k g z = A z := if_neg h
theorem aA_aA (A : Nat → Nat → Int32) (k : Nat) (g g' : Nat → Int32) : aA (aA A k g) k g' = aA A k g' := by
  funext z
  unfold aA
  split <;> rfl
theorem cgD {S X : Nat → Nat → Nat} {B : Nat → Nat → Int64} {A : Nat → Nat → Int32} {ad : Nat → Nat → Nat} {D : Nat} (hD : D = 15 ∨ D = 16) (hI : n_inj (cAl S) ad) : cW S X B A ad (ad D 0) = some (.inl (0, 8, .inl (A D))) := by
  rcases hD with rfl | rfl
  · exact cg15 hI
  · exact cg16 hI
theorem cpD {S X : Nat → Nat → Nat} {B : Nat → Nat → Int64} {A : Nat → Nat → Int32} {ad : Nat → Nat → Nat} {g : Nat → Int32} {D : Nat} (hD : D = 15 ∨ D = 16) (hI : n_inj (cAl S) ad) : j_up (cW S X B A ad) (ad D 0) (.inl (0, 8, .inl g)) = cW S X B (aA A D g) ad := by
  rcases hD with rfl | rfl
  · exact cp_a15 hI
  · exact cp_a16 hI
theorem nI_min {a b : Nat} (ha : a < 2 ^ 31) (hb : b < 2 ^ 31) : (if nI a < nI b then nI a else nI b) = nI (if a < b then a else b) := by
  by_cases h : a < b
  · rw [if_pos h, if_pos ((nI_ltI ha hb).mpr h)]
  · rw [if_neg h, if_neg (fun q => h ((nI_ltI ha hb).mp q))]
theorem upd_c (f : Nat → Int32) (k j : Nat) (v : Int32) : upd f k v j = if j = k then v else f j := rfl
set_option maxHeartbeats 4000000 in
set_option maxRecDepth 100000 in
theorem sp_Chart_shorten {S X : Nat → Nat → Nat} {B : Nat → Nat → Int64} {A : Nat → Nat → Int32} {ad : Nat → Nat → Nat} {D l m : Nat} {G : Nat → Option Nat} {post : Option Value → jW → Prop} (hD : D = 15 ∨ D = 16) (hI : n_inj (cAl S) ad) (hS : rOK S) (hl : l < S 1 0) (hb : ∀ j a, G j = some a → a ≤ m) (hm : m ≤ 800000) (hF : ∀ j, j < 8 → A D j = nI (eN (G j))) (h : ∀ F', (∀ j, j < 8 → F' j = nI (eN (rx (rx G (S 2 (2 * l + 1)) (S 2 (2 * l)) (S 3 l)) (S 2 (2 * l)) (S 2 (2 * l + 1)) (S 3 l) j))) → post none (cW S X B (aA A D F') ad)) : j_sem m_Chart_shorten [.ref (ad D 0), .ref (ad 6 l)] (cW S X B A ad) 0 0 post := by
  refine j_sem_of (by decide +kernel) (Nat.le_of_ble_eq_true rfl) ?_
  show j_S _ _ 0 [some (.ref (ad D 0)), some (.ref (ad 6 l)), none, none] [] _ 0 0
  have b1 : S 2 (2 * l) ≤ 7 := hS 2 _
  have b2 : S 2 (2 * l + 1) ≤ 7 := hS 2 _
  have b3 : S 3 l ≤ 50 := hS 3 l
  have q1 : ∀ j, eN (G j) ≤ 1000000 := fun j => eN_le hb (by omega)
  have f1 := hF (S 2 (2 * l)) (by omega)
  have f2 := hF (S 2 (2 * l + 1)) (by omega)
  have u1 := q1 (S 2 (2 * l))
  have u2 := q1 (S 2 (2 * l + 1))
  refine j_runs [] ok_Chart_shorten 60 ?_
  simp (disch := first | omega | simp (disch := omega) only [sA_ne, sA_self]) only [st_Chart_shorten, cg6 hI hl, cgD hD hI, f1, f2, j_k, List.mem_cons, List.not_mem_nil, or_false, or_self, if_false, if_true, ↓reduceIte, List.getElem?_cons_zero, List.getElem?_cons_succ, List.set_cons_zero, List.set_cons_succ, List.length_cons, List.length_nil, g_ld_s, g_v_s, g_ob_s, g_ia_s, g_la_s, g_qa_s, g_al_s, t_i_s, t_a_r, t_a_n, t_a_q, t_l_s, true_and, and_true, and_self, true_or, or_true, Decidable.not_not, not_true_eq_false, not_false_eq_true, false_implies, true_implies, implies_true, j_ok1_s, j_isL, j_cat_i, j_cat_l, j_cat_r, j_cat_n, j_rf_cat, j_rf_some, j_rf_none, k_w8_0, k_w8_i, k_w8_r, k_w8_l, k_sum0, k_ints, k_nari, k_narz0, k_narz1, k_okv0, k_okv1, k_okv2, k_okv2n, k_okv3, Option.toList_some, Option.toList_none, List.cons_append, List.nil_append, List.append_nil, List.map_cons, List.map_nil, List.sum_cons, List.sum_nil, Nat.add_zero, Nat.zero_add, Nat.reduceAdd, Nat.reduceMul, Nat.reduceSub, Nat.reduceDiv, Nat.reduceMod, Nat.reduceLT, Nat.reduceLeDiff, Nat.reduceEqDiff, Nat.reduceBEq, Nat.reduceBNe, Nat.one_ne_zero, Nat.zero_ne_one, Nat.succ_ne_self, Nat.le_refl, Nat.sub_self, Nat.sub_zero, Nat.zero_le, reduceCtorEq, eq_self, Bool.false_eq_true, pk_mul, nI_add, k_in, nI_clamp, nI_eq, nI_ltI, nI_leI, k_upd, k_eq0, k_lt0, k_0le, k_0lt, k_le0, k_mod]
  refine g_call0 (sp_Math_min ?_)
  have e1 : (if nI (eN (G (S 2 (2 * l + 1))) + S 3 l) < nI (eN (G (S 2 (2 * l)))) then nI (eN (G (S 2 (2 * l + 1))) + S 3 l) else nI (eN (G (S 2 (2 * l))))) = nI (eN (rx G (S 2 (2 * l + 1)) (S 2 (2 * l)) (S 3 l) (S 2 (2 * l)))) := by
    rw [eN_rx hb (by omega) b3, nI_min (by omega) (by omega)]
  rw [e1]
  have hF1 : ∀ j, j < 8 → upd (A D) (S 2 (2 * l)) (nI (eN (rx G (S 2 (2 * l + 1)) (S 2 (2 * l)) (S 3 l) (S 2 (2 * l))))) j = nI (eN (rx G (S 2 (2 * l + 1)) (S 2 (2 * l)) (S 3 l) j)) := by
    intro j hj
    rw [upd_c]
    by_cases e : j = S 2 (2 * l)
    · rw [if_pos e, e]
    · rw [if_neg e, rx_ne e, hF j hj]
  have hb1 : ∀ j a, rx G (S 2 (2 * l + 1)) (S 2 (2 * l)) (S 3 l) j = some a → a ≤ m + 50 := rx_le hb b3
  generalize rx G (S 2 (2 * l + 1)) (S 2 (2 * l)) (S 3 l) = G1 at *
  have q1 : ∀ j, eN (G1 j) ≤ 1000000 := fun j => eN_le hb1 (by omega)
  have g1 := hF1 (S 2 (2 * l)) (by omega)
  have g2 := hF1 (S 2 (2 * l + 1)) (by omega)
  have u1 := q1 (S 2 (2 * l))
  have u2 := q1 (S 2 (2 * l + 1))
  simp (disch := first | omega | simp (disch := omega) only [sA_ne, sA_self]) only [st_Chart_shorten, cgD hD hI, cpD hD hI, cg6 hI hl, aA_self, g1, g2, j_k, List.mem_cons, List.not_mem_nil, or_false, or_self, if_false, if_true, ↓reduceIte, List.getElem?_cons_zero, List.getElem?_cons_succ, List.set_cons_zero, List.set_cons_succ, List.length_cons, List.length_nil, g_ld_s, g_v_s, g_ob_s, g_ia_s, g_la_s, g_qa_s, g_al_s, t_i_s, t_a_r, t_a_n, t_a_q, t_l_s, true_and, and_true, and_self, true_or, or_true, Decidable.not_not, not_true_eq_false, not_false_eq_true, false_implies, true_implies, implies_true, j_ok1_s, j_isL, j_cat_i, j_cat_l, j_cat_r, j_cat_n, j_rf_cat, j_rf_some, j_rf_none, k_w8_0, k_w8_i, k_w8_r, k_w8_l, k_sum0, k_ints, k_nari, k_narz0, k_narz1, k_okv0, k_okv1, k_okv2, k_okv2n, k_okv3, Option.toList_some, Option.toList_none, List.cons_append, List.nil_append, List.append_nil, List.map_cons, List.map_nil, List.sum_cons, List.sum_nil, Nat.add_zero, Nat.zero_add, Nat.reduceAdd, Nat.reduceMul, Nat.reduceSub, Nat.reduceDiv, Nat.reduceMod, Nat.reduceLT, Nat.reduceLeDiff, Nat.reduceEqDiff, Nat.reduceBEq, Nat.reduceBNe, Nat.one_ne_zero, Nat.zero_ne_one, Nat.succ_ne_self, Nat.le_refl, Nat.sub_self, Nat.sub_zero, Nat.zero_le, reduceCtorEq, eq_self, Bool.false_eq_true, pk_mul, nI_add, k_in, nI_clamp, nI_eq, nI_ltI, nI_leI, k_upd, k_eq0, k_lt0, k_0le, k_0lt, k_le0, k_mod]
  refine g_call0 (sp_Math_min ?_)
  have e2 : (if nI (eN (G1 (S 2 (2 * l))) + S 3 l) < nI (eN (G1 (S 2 (2 * l + 1)))) then nI (eN (G1 (S 2 (2 * l))) + S 3 l) else nI (eN (G1 (S 2 (2 * l + 1))))) = nI (eN (rx G1 (S 2 (2 * l)) (S 2 (2 * l + 1)) (S 3 l) (S 2 (2 * l + 1)))) := by
    rw [eN_rx hb1 (by omega) b3, nI_min (by omega) (by omega)]
  rw [e2]
  simp (disch := first | omega | simp (disch := omega) only [sA_ne, sA_self]) only [st_Chart_shorten, cgD hD hI, cpD hD hI, aA_self, aA_aA, j_k, List.mem_cons, List.not_mem_nil, or_false, or_self, if_false, if_true, ↓reduceIte, List.getElem?_cons_zero, List.getElem?_cons_succ, List.set_cons_zero, List.set_cons_succ, List.length_cons, List.length_nil, g_ld_s, g_v_s, g_ob_s, g_ia_s, g_la_s, g_qa_s, g_al_s, t_i_s, t_a_r, t_a_n, t_a_q, t_l_s, true_and, and_true, and_self, true_or, or_true, Decidable.not_not, not_true_eq_false, not_false_eq_true, false_implies, true_implies, implies_true, j_ok1_s, j_isL, j_cat_i, j_cat_l, j_cat_r, j_cat_n, j_rf_cat, j_rf_some, j_rf_none, k_w8_0, k_w8_i, k_w8_r, k_w8_l, k_sum0, k_ints, k_nari, k_narz0, k_narz1, k_okv0, k_okv1, k_okv2, k_okv2n, k_okv3, Option.toList_some, Option.toList_none, List.cons_append, List.nil_append, List.append_nil, List.map_cons, List.map_nil, List.sum_cons, List.sum_nil, Nat.add_zero, Nat.zero_add, Nat.reduceAdd, Nat.reduceMul, Nat.reduceSub, Nat.reduceDiv, Nat.reduceMod, Nat.reduceLT, Nat.reduceLeDiff, Nat.reduceEqDiff, Nat.reduceBEq, Nat.reduceBNe, Nat.one_ne_zero, Nat.zero_ne_one, Nat.succ_ne_self, Nat.le_refl, Nat.sub_self, Nat.sub_zero, Nat.zero_le, reduceCtorEq, eq_self, Bool.false_eq_true, pk_mul, nI_add, k_in, nI_clamp, nI_eq, nI_ltI, nI_leI, k_upd, k_eq0, k_lt0, k_0le, k_0lt, k_le0, k_mod]
  refine h _ (fun j hj => ?_)
  rw [upd_c]
  by_cases e : j = S 2 (2 * l + 1)
  · rw [if_pos e, e]
  · rw [if_neg e, rx_ne e, hF1 j hj]
