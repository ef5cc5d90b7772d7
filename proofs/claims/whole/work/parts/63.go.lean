/-! THE CLASS: settle, cross, go -/
set_option maxHeartbeats 4000000 in
set_option maxRecDepth 100000 in
theorem sp_Net_settle {S X : Nat → Nat → Nat} {B : Nat → Nat → Int64} {A : Nat → Nat → Int32} {ad : Nat → Nat → Nat} {i n : Nat} {post : Option Value → jW → Prop} (hI : n_inj (cAl S) ad) (hi : i < S 22 0) (h : post (some (.int (nI n))) (cW (sA S 23 (va_up (S 23) (6 * (i + 1) + 5) n)) X B A ad)) : j_sem m_Net_settle [.ref (ad 13 i), .int (nI n)] (cW S X B A ad) 0 0 post := by
  refine j_sem_of (by decide +kernel) (Nat.le_of_ble_eq_true rfl) ?_
  show j_S _ _ 0 [some (.ref (ad 13 i)), some (.int (nI n))] [] _ 0 0
  refine j_runs [] ok_Net_settle 10 ?_
  simp (disch := first | omega | simp (disch := omega) only [sA_ne, sA_self]) only [st_Net_settle, cg13 hI hi, cp_state hI hi, j_k, List.mem_cons, List.not_mem_nil, or_false, or_self, if_false, if_true, ↓reduceIte, List.getElem?_cons_zero, List.getElem?_cons_succ, List.set_cons_zero, List.set_cons_succ, List.length_cons, List.length_nil, g_ld_s, g_v_s, g_ob_s, g_ia_s, g_la_s, g_qa_s, g_al_s, t_i_s, t_a_r, t_a_n, t_a_q, t_l_s, true_and, and_true, and_self, true_or, or_true, Decidable.not_not, not_true_eq_false, not_false_eq_true, false_implies, true_implies, implies_true, j_ok1_s, j_isL, j_cat_i, j_cat_l, j_cat_r, j_cat_n, j_rf_cat, j_rf_some, j_rf_none, k_w8_0, k_w8_i, k_w8_r, k_w8_l, k_sum0, k_ints, k_nari, k_narz0, k_narz1, k_okv0, k_okv1, k_okv2, k_okv2n, k_okv3, Option.toList_some, Option.toList_none, List.cons_append, List.nil_append, List.append_nil, List.map_cons, List.map_nil, List.sum_cons, List.sum_nil, Nat.add_zero, Nat.zero_add, Nat.reduceAdd, Nat.reduceMul, Nat.reduceSub, Nat.reduceDiv, Nat.reduceMod, Nat.reduceLT, Nat.reduceLeDiff, Nat.reduceEqDiff, Nat.reduceBEq, Nat.reduceBNe, Nat.one_ne_zero, Nat.zero_ne_one, Nat.succ_ne_self, Nat.le_refl, Nat.sub_self, Nat.sub_zero, Nat.zero_le, reduceCtorEq, eq_self, Bool.false_eq_true, pk_mul, nI_add, k_in, nI_clamp, nI_eq, nI_ltI, nI_leI, k_upd, k_eq0, k_lt0, k_0le, k_0lt, k_le0, k_mod]
  exact h
theorem va_up_id {α : Type} (f : Nat → α) (i : Nat) : va_up f i (f i) = f := by
  funext k
  rw [va_up_c]
  split
  · rename_i h; rw [h]
  · rfl
def crA (S : Nat → Nat → Nat) (b to : Nat) : Nat → Nat → Nat := sA S 23 (va_up (S 23) (b + 4) to)
def crB (S : Nat → Nat → Nat) (b to : Nat) : Nat → Nat → Nat := sA (crA S b to) 23 (va_up (crA S b to 23) (b + 3) (S 23 (b + 3) - 1))
theorem crA_n {S : Nat → Nat → Nat} {b to j : Nat} (h : j ≠ b + 4) : crA S b to 23 j = S 23 j := by unfold crA; rw [sA_self, va_up_ne _ _ h]
theorem crA_s {S : Nat → Nat → Nat} {b to : Nat} : crA S b to 23 (b + 4) = to := by unfold crA; rw [sA_self, va_up_self]
theorem crB_n {S : Nat → Nat → Nat} {b to j : Nat} (h : j ≠ b + 3) : crB S b to 23 j = crA S b to 23 j := by unfold crB; rw [sA_self, va_up_ne _ _ h]
theorem crB_s {S : Nat → Nat → Nat} {b to : Nat} : crB S b to 23 (b + 3) = S 23 (b + 3) - 1 := by unfold crB; rw [sA_self, va_up_self]
theorem crB_k {S : Nat → Nat → Nat} {b to z : Nat} (h : z ≠ 23) : crB S b to z = S z := by unfold crB crA; rw [sA_ne _ _ h, sA_ne _ _ h]
theorem crB_mv {S : Nat → Nat → Nat} {b to st : Nat} : sA (crB S b to) 23 (va_up (crB S b to 23) (b + 2) st) = rMove S b to st := by
  unfold rMove crB crA
  simp only [sA_self, sA_sA]
  rw [va_up_cm (S 23) to (S 23 (b + 3) - 1) (show b + 4 ≠ b + 3 by omega)]
theorem crB_mv0 {S : Nat → Nat → Nat} {b to : Nat} : crB S b to = rMove S b to (S 23 (b + 2)) := by
  rw [← crB_mv]
  have e : S 23 (b + 2) = crB S b to 23 (b + 2) := by rw [crB_n (by omega), crA_n (by omega)]
  rw [e, va_up_id]
  funext z
  by_cases hz : z = 23
  · subst hz; rw [sA_self]
  · rw [sA_ne _ _ hz]
set_option maxHeartbeats 4000000 in
set_option maxRecDepth 100000 in
theorem sp_Net_cross {S X : Nat → Nat → Nat} {B : Nat → Nat → Int64} {A : Nat → Nat → Int32} {ad : Nat → Nat → Nat} {i l : Nat} {post : Option Value → jW → Prop} (hI : n_inj (cAl S) ad) (hC : cI S X) (hO : rOK S) (h5 : ∀ q, S 22 0 < q → S 23 (6 * q + 5) = 0) (hi : i < S 22 0) (hl : l < S 1 0) (w8 : 8 ≤ S 4 l) (n1 : 1 ≤ S 23 (6 * (i + 1) + 2)) (n2 : S 23 (6 * (i + 1) + 1) + S 23 (6 * (i + 1) + 2) ≤ 500) (life : ¬ S 23 (6 * (i + 1) + 3) = 0) (hro : S 23 (6 * (i + 1) + 4) ≤ 7) (hst : S 23 (6 * (i + 1) + 5) = 0) (hf : 80 < S 22 0 + (S 23 (6 * (i + 1) + 2) - 1) / rStep S l (S 23 (6 * (i + 1) + 2)) → post (some (.int (-2))) (cW S X B A ad)) (h : ¬ 80 < S 22 0 + (S 23 (6 * (i + 1) + 2) - 1) / rStep S l (S 23 (6 * (i + 1) + 2)) → ∀ ad', n_inj (cAl (rSplt (rMove S (6 * (i + 1)) (rOth S (S 23 (6 * (i + 1) + 4)) l) (rStep S l (S 23 (6 * (i + 1) + 2)))) (S 23 (6 * (i + 1))) (S 23 (6 * (i + 1) + 1)) (S 23 (6 * (i + 1) + 2)) (rStep S l (S 23 (6 * (i + 1) + 2))) (S 23 (6 * (i + 1) + 3) - 1) (rOth S (S 23 (6 * (i + 1) + 4)) l) ((S 23 (6 * (i + 1) + 2) - 1) / rStep S l (S 23 (6 * (i + 1) + 2))))) ad' → ad' 0 0 = ad 0 0 → post (some (.int (nI 0))) (cW (rSplt (rMove S (6 * (i + 1)) (rOth S (S 23 (6 * (i + 1) + 4)) l) (rStep S l (S 23 (6 * (i + 1) + 2)))) (S 23 (6 * (i + 1))) (S 23 (6 * (i + 1) + 1)) (S 23 (6 * (i + 1) + 2)) (rStep S l (S 23 (6 * (i + 1) + 2))) (S 23 (6 * (i + 1) + 3) - 1) (rOth S (S 23 (6 * (i + 1) + 4)) l) ((S 23 (6 * (i + 1) + 2) - 1) / rStep S l (S 23 (6 * (i + 1) + 2)))) X B A ad')) : j_sem m_Net_cross [.ref (ad 0 0), .ref (ad 13 i), .ref (ad 6 l)] (cW S X B A ad) 80 480 post := by
  refine j_sem_of (by decide +kernel) (Nat.le_of_ble_eq_true rfl) ?_
  show j_S _ _ 0 [some (.ref (ad 0 0)), some (.ref (ad 13 i)), some (.ref (ad 6 l)), none, none] [] _ 80 480
  have b22 : S 22 0 ≤ 80 := hO 22 0
  have b4 : S 4 l ≤ 255 := hO 4 _
  have be : S 2 (2 * l) ≤ 7 := hO 2 _
  have be' : S 2 (2 * l + 1) ≤ 7 := hO 2 _
  have b12 : S 23 (6 * (i + 1) + 3) ≤ 500 := hO 23 _
  have n8 : ¬ nI 8 = 0 := by decide
  have hto : rOth S (S 23 (6 * (i + 1) + 4)) l ≤ 7 := by
    unfold rOth
    split <;> omega
  have at43 : ∀ c, c = (S 23 (6 * (i + 1) + 2) - 1) / rStep S l (S 23 (6 * (i + 1) + 2)) → c ≤ 500 → j_S m_Net_cross post 43 [some (.ref (ad 0 0)), some (.ref (ad 13 i)), some (.ref (ad 6 l)), some (.int (nI (S 4 l / 8 * 8))), some (.int (nI c))] [] (cW S X B A ad) 80 480 := by
    intro c ec hc5
    rw [← ec] at hf h
    obtain ⟨to, eto⟩ : ∃ to, to = rOth S (S 23 (6 * (i + 1) + 4)) l := ⟨_, rfl⟩
    rw [← eto] at h hto
    have hI1 : n_inj (cAl (crA S (6 * (i + 1)) to)) ad := cInj rfl rfl rfl rfl hI
    have hI2 : n_inj (cAl (crB S (6 * (i + 1)) to)) ad := cInj rfl rfl rfl rfl hI
    have g1 := cg13 (S := crA S (6 * (i + 1)) to) (X := X) (B := B) (A := A) hI1 hi
    have p2 := cp_life (S := crA S (6 * (i + 1)) to) (X := X) (B := B) (A := A) (n := S 23 (6 * (i + 1) + 3) - 1) hI1 hi
    have g2 := cg13 (S := crB S (6 * (i + 1)) to) (X := X) (B := B) (A := A) hI2 hi
    have g02 := cg0 (S := crB S (6 * (i + 1)) to) (X := X) (B := B) (A := A) hI2
    have v0 : crA S (6 * (i + 1)) to 23 (6 * (i + 1)) = S 23 (6 * (i + 1)) := crA_n (by omega)
    have v1 : crA S (6 * (i + 1)) to 23 (6 * (i + 1) + 1) = S 23 (6 * (i + 1) + 1) := crA_n (by omega)
    have v2 : crA S (6 * (i + 1)) to 23 (6 * (i + 1) + 2) = S 23 (6 * (i + 1) + 2) := crA_n (by omega)
    have v3 : crA S (6 * (i + 1)) to 23 (6 * (i + 1) + 3) = S 23 (6 * (i + 1) + 3) := crA_n (by omega)
    have v5 : crA S (6 * (i + 1)) to 23 (6 * (i + 1) + 5) = S 23 (6 * (i + 1) + 5) := crA_n (by omega)
    have u0 : crB S (6 * (i + 1)) to 23 (6 * (i + 1)) = S 23 (6 * (i + 1)) := (crB_n (by omega)).trans v0
    have u1 : crB S (6 * (i + 1)) to 23 (6 * (i + 1) + 1) = S 23 (6 * (i + 1) + 1) := (crB_n (by omega)).trans v1
    have u2 : crB S (6 * (i + 1)) to 23 (6 * (i + 1) + 2) = S 23 (6 * (i + 1) + 2) := (crB_n (by omega)).trans v2
    have u4 : crB S (6 * (i + 1)) to 23 (6 * (i + 1) + 4) = to := (crB_n (by omega)).trans crA_s
    have u5 : crB S (6 * (i + 1)) to 23 (6 * (i + 1) + 5) = S 23 (6 * (i + 1) + 5) := (crB_n (by omega)).trans v5
    rw [v0, v1, v2, v3, v5, crA_s] at g1
    rw [v0, v1, v2, v5, crA_s] at p2
    rw [u0, u1, u2, crB_s, u4, u5] at g2
    have p2 : j_up (cW (crA S (6 * (i + 1)) to) X B A ad) (ad 13 i) (.inr (7, [.int (nI (S 23 (6 * (i + 1)))), .int (nI (S 23 (6 * (i + 1) + 1))), .int (nI (S 23 (6 * (i + 1) + 2))), .int (nI (S 23 (6 * (i + 1) + 3) - 1)), .int (nI to), .int (nI (S 23 (6 * (i + 1) + 5)))])) = cW (crB S (6 * (i + 1)) to) X B A ad := p2
    have p1 : j_up (cW S X B A ad) (ad 13 i) (.inr (7, [.int (nI (S 23 (6 * (i + 1)))), .int (nI (S 23 (6 * (i + 1) + 1))), .int (nI (S 23 (6 * (i + 1) + 2))), .int (nI (S 23 (6 * (i + 1) + 3))), .int (nI to), .int (nI (S 23 (6 * (i + 1) + 5)))])) = cW (crA S (6 * (i + 1)) to) X B A ad := cp_at hI hi
    refine j_runs [] ok_Net_cross 60 ?_
    simp (disch := first | omega | simp (disch := omega) only [sA_ne, sA_self]) only [st_Net_cross, cg0 hI, cg13 hI hi, cg6 hI hl, j_k, List.mem_cons, List.not_mem_nil, or_false, or_self, if_false, if_true, ↓reduceIte, List.getElem?_cons_zero, List.getElem?_cons_succ, List.set_cons_zero, List.set_cons_succ, List.length_cons, List.length_nil, g_ld_s, g_v_s, g_ob_s, g_ia_s, g_la_s, g_qa_s, g_al_s, t_i_s, t_a_r, t_a_n, t_a_q, t_l_s, true_and, and_true, and_self, true_or, or_true, Decidable.not_not, not_true_eq_false, not_false_eq_true, false_implies, true_implies, implies_true, j_ok1_s, j_isL, j_cat_i, j_cat_l, j_cat_r, j_cat_n, j_rf_cat, j_rf_some, j_rf_none, k_w8_0, k_w8_i, k_w8_r, k_w8_l, k_sum0, k_ints, k_nari, k_narz0, k_narz1, k_okv0, k_okv1, k_okv2, k_okv2n, k_okv3, Option.toList_some, Option.toList_none, List.cons_append, List.nil_append, List.append_nil, List.map_cons, List.map_nil, List.sum_cons, List.sum_nil, Nat.add_zero, Nat.zero_add, Nat.reduceAdd, Nat.reduceMul, Nat.reduceSub, Nat.reduceDiv, Nat.reduceMod, Nat.reduceLT, Nat.reduceLeDiff, Nat.reduceEqDiff, Nat.reduceBEq, Nat.reduceBNe, Nat.one_ne_zero, Nat.zero_ne_one, Nat.succ_ne_self, Nat.le_refl, Nat.sub_self, Nat.sub_zero, Nat.zero_le, reduceCtorEq, eq_self, Bool.false_eq_true, pk_mul, nI_add, k_in, nI_clamp, nI_eq, nI_ltI, nI_leI, k_upd, k_eq0, k_lt0, k_0le, k_0lt, k_le0, k_mod]
    refine ⟨fun cc => ?_, fun cc => ?_⟩
    · refine g_call0 (sp_Link_otherEnd (cg6 hI hl) be be' (show S 23 (6 * (i + 1) + 4) < 8 by omega) ?_)
      rw [show (if S 2 (2 * l) = S 23 (6 * (i + 1) + 4) then S 2 (2 * l + 1) else S 2 (2 * l)) = to from eto.symm]
      simp (disch := first | omega | simp (disch := omega) only [sA_ne, sA_self]) only [st_Net_cross, cg13 hI hi, p1, g1, pk_sub, p2, g02, j_k, List.mem_cons, List.not_mem_nil, or_false, or_self, if_false, if_true, ↓reduceIte, List.getElem?_cons_zero, List.getElem?_cons_succ, List.set_cons_zero, List.set_cons_succ, List.length_cons, List.length_nil, g_ld_s, g_v_s, g_ob_s, g_ia_s, g_la_s, g_qa_s, g_al_s, t_i_s, t_a_r, t_a_n, t_a_q, t_l_s, true_and, and_true, and_self, true_or, or_true, Decidable.not_not, not_true_eq_false, not_false_eq_true, false_implies, true_implies, implies_true, j_ok1_s, j_isL, j_cat_i, j_cat_l, j_cat_r, j_cat_n, j_rf_cat, j_rf_some, j_rf_none, k_w8_0, k_w8_i, k_w8_r, k_w8_l, k_sum0, k_ints, k_nari, k_narz0, k_narz1, k_okv0, k_okv1, k_okv2, k_okv2n, k_okv3, Option.toList_some, Option.toList_none, List.cons_append, List.nil_append, List.append_nil, List.map_cons, List.map_nil, List.sum_cons, List.sum_nil, Nat.add_zero, Nat.zero_add, Nat.reduceAdd, Nat.reduceMul, Nat.reduceSub, Nat.reduceDiv, Nat.reduceMod, Nat.reduceLT, Nat.reduceLeDiff, Nat.reduceEqDiff, Nat.reduceBEq, Nat.reduceBNe, Nat.one_ne_zero, Nat.zero_ne_one, Nat.succ_ne_self, Nat.le_refl, Nat.sub_self, Nat.sub_zero, Nat.zero_le, reduceCtorEq, eq_self, Bool.false_eq_true, pk_mul, nI_add, k_in, nI_clamp, nI_eq, nI_ltI, nI_leI, k_upd, k_eq0, k_lt0, k_0le, k_0lt, k_le0, k_mod]
      have h := h (by omega)
      refine ⟨fun c0 => ?_, fun c0 => ?_⟩
      · simp (disch := first | omega | simp (disch := omega) only [sA_ne, sA_self]) only [st_Net_cross, g2, hst, j_k, List.mem_cons, List.not_mem_nil, or_false, or_self, if_false, if_true, ↓reduceIte, List.getElem?_cons_zero, List.getElem?_cons_succ, List.set_cons_zero, List.set_cons_succ, List.length_cons, List.length_nil, g_ld_s, g_v_s, g_ob_s, g_ia_s, g_la_s, g_qa_s, g_al_s, t_i_s, t_a_r, t_a_n, t_a_q, t_l_s, true_and, and_true, and_self, true_or, or_true, Decidable.not_not, not_true_eq_false, not_false_eq_true, false_implies, true_implies, implies_true, j_ok1_s, j_isL, j_cat_i, j_cat_l, j_cat_r, j_cat_n, j_rf_cat, j_rf_some, j_rf_none, k_w8_0, k_w8_i, k_w8_r, k_w8_l, k_sum0, k_ints, k_nari, k_narz0, k_narz1, k_okv0, k_okv1, k_okv2, k_okv2n, k_okv3, Option.toList_some, Option.toList_none, List.cons_append, List.nil_append, List.append_nil, List.map_cons, List.map_nil, List.sum_cons, List.sum_nil, Nat.add_zero, Nat.zero_add, Nat.reduceAdd, Nat.reduceMul, Nat.reduceSub, Nat.reduceDiv, Nat.reduceMod, Nat.reduceLT, Nat.reduceLeDiff, Nat.reduceEqDiff, Nat.reduceBEq, Nat.reduceBNe, Nat.one_ne_zero, Nat.zero_ne_one, Nat.succ_ne_self, Nat.le_refl, Nat.sub_self, Nat.sub_zero, Nat.zero_le, reduceCtorEq, eq_self, Bool.false_eq_true, pk_mul, nI_add, k_in, nI_clamp, nI_eq, nI_ltI, nI_leI, k_upd, k_eq0, k_lt0, k_0le, k_0lt, k_le0, k_mod]
        have hle : ¬ S 4 l < S 23 (6 * (i + 1) + 2) := by
          intro q
          have e8 : rStep S l (S 23 (6 * (i + 1) + 2)) = S 4 l / 8 * 8 := by unfold rStep; rw [if_pos q]
          rw [e8] at ec
          have : 1 ≤ (S 23 (6 * (i + 1) + 2) - 1) / (S 4 l / 8 * 8) := (Nat.one_le_div_iff (by omega)).mpr (by omega)
          omega
        have est : rStep S l (S 23 (6 * (i + 1) + 2)) = S 23 (6 * (i + 1) + 2) := by unfold rStep; rw [if_neg hle]
        have c00 : c = 0 := by omega
        rw [est, c00] at h
        have h := h ad (cInj rfl rfl rfl rfl hI) rfl
        rw [crB_mv0]
        exact h
      · have hlt : S 4 l < S 23 (6 * (i + 1) + 2) := by
          apply Decidable.byContradiction
          intro q
          have est : rStep S l (S 23 (6 * (i + 1) + 2)) = S 23 (6 * (i + 1) + 2) := by unfold rStep; rw [if_neg q]
          rw [est, Nat.div_eq_of_lt (by omega)] at ec
          omega
        have e8 : rStep S l (S 23 (6 * (i + 1) + 2)) = S 4 l / 8 * 8 := by unfold rStep; rw [if_pos hlt]
        rw [e8] at h ec
        have hcn : c * (S 4 l / 8 * 8) < S 23 (6 * (i + 1) + 2) := by
          have := Nat.div_mul_le_self (S 23 (6 * (i + 1) + 2) - 1) (S 4 l / 8 * 8)
          rw [← ec] at this
          omega
        have hC2 : cI (crB S (6 * (i + 1)) to) X := hC.congr (crB_k (by decide)) (crB_k (by decide)) (crB_k (by decide)) (crB_k (by decide)) (crB_k (by decide)) (crB_k (by decide))
        have e22 : crB S (6 * (i + 1)) to 22 0 = S 22 0 := rfl
        refine g_calln (cb := 80) (sb := 480) (mc := c) (ms := 6 * c) (by omega) (by omega) (sp_Net_split (S := crB S (6 * (i + 1)) to) (i := i) (st := S 4 l / 8 * 8) (c := c) hI2 hC2 (fun q hq => ?_) hi (by rw [u1, u2]; exact n2) (by omega) (by rw [e22]; omega) (by rw [u2]; exact hcn) (fun ad' k1 k2 k3 => ?_))
        · rw [crB_n (by omega), crA_n (by omega)]
          exact h5 q hq
        · rw [u0, u1, u2, crB_s, u4] at k1 ⊢
          rw [← rSplt_cm (by rw [e22]; omega), crB_mv]
          rw [← k3]
          generalize hT : rSplt (rMove S (6 * (i + 1)) to (S 4 l / 8 * 8)) (S 23 (6 * (i + 1))) (S 23 (6 * (i + 1) + 1)) (S 23 (6 * (i + 1) + 2)) (S 4 l / 8 * 8) (S 23 (6 * (i + 1) + 3) - 1) to c = T at h ⊢
          have t5 : T 23 (6 * (i + 1) + 5) = 0 := by
            rw [← hT, rSplt_5, ← crB_mv, sA_self, va_up_ne _ _ (by omega), u5]
            exact hst
          have t22 : T 22 0 = S 22 0 + c := by
            rw [← hT, rSplt_22]
            rfl
          have k1' : n_inj (cAl T) ad' := by
            rw [← hT]
            refine cInj ?_ ?_ ?_ ?_ k1
            · rw [rSplt_keeps (by decide) (by decide), rSplt_keeps (by decide) (by decide)]; rfl
            · rw [rSplt_keeps (by decide) (by decide), rSplt_keeps (by decide) (by decide)]; rfl
            · rw [rSplt_keeps (by decide) (by decide), rSplt_keeps (by decide) (by decide)]; rfl
            · rw [rSplt_22, rSplt_22]; rfl
          simp (disch := first | omega | simp (disch := omega) only [sA_ne, sA_self]) only [st_Net_cross, cg13 k1' (show i < T 22 0 by omega), t5, j_k, List.mem_cons, List.not_mem_nil, or_false, or_self, if_false, if_true, ↓reduceIte, List.getElem?_cons_zero, List.getElem?_cons_succ, List.set_cons_zero, List.set_cons_succ, List.length_cons, List.length_nil, g_ld_s, g_v_s, g_ob_s, g_ia_s, g_la_s, g_qa_s, g_al_s, t_i_s, t_a_r, t_a_n, t_a_q, t_l_s, true_and, and_true, and_self, true_or, or_true, Decidable.not_not, not_true_eq_false, not_false_eq_true, false_implies, true_implies, implies_true, j_ok1_s, j_isL, j_cat_i, j_cat_l, j_cat_r, j_cat_n, j_rf_cat, j_rf_some, j_rf_none, k_w8_0, k_w8_i, k_w8_r, k_w8_l, k_sum0, k_ints, k_nari, k_narz0, k_narz1, k_okv0, k_okv1, k_okv2, k_okv2n, k_okv3, Option.toList_some, Option.toList_none, List.cons_append, List.nil_append, List.append_nil, List.map_cons, List.map_nil, List.sum_cons, List.sum_nil, Nat.add_zero, Nat.zero_add, Nat.reduceAdd, Nat.reduceMul, Nat.reduceSub, Nat.reduceDiv, Nat.reduceMod, Nat.reduceLT, Nat.reduceLeDiff, Nat.reduceEqDiff, Nat.reduceBEq, Nat.reduceBNe, Nat.one_ne_zero, Nat.zero_ne_one, Nat.succ_ne_self, Nat.le_refl, Nat.sub_self, Nat.sub_zero, Nat.zero_le, reduceCtorEq, eq_self, Bool.false_eq_true, pk_mul, nI_add, k_in, nI_clamp, nI_eq, nI_ltI, nI_leI, k_upd, k_eq0, k_lt0, k_0le, k_0lt, k_le0, k_mod]
          exact h ad' k1' k2
    · exact hf (by omega)
  have hm : nI (S 4 l) - nI (S 4 l) / nI 8 * nI 8 = nI (S 4 l % 8) := by
    have : S 4 l / 8 * 8 ≤ S 4 l := Nat.div_mul_le_self _ _
    rw [k_div (by omega) (by decide) (by decide), pk_mul, pk_sub this, k_mod]
  have emx : (if nI 8 < nI (S 4 l - S 4 l % 8) then nI (S 4 l - S 4 l % 8) else nI 8) = nI (S 4 l / 8 * 8) := by
    have e : S 4 l - S 4 l % 8 = S 4 l / 8 * 8 := by omega
    rw [e]
    split
    · rfl
    · rename_i q
      rw [nI_ltI (by decide) (by omega)] at q
      congr 1
      omega
  refine j_runs [43] ok_Net_cross 60 ?_
  simp (disch := first | omega | simp (disch := omega) only [sA_ne, sA_self]) only [st_Net_cross, cg6 hI hl, hm, n8, pk_sub, j_k, List.mem_cons, List.not_mem_nil, or_false, or_self, if_false, if_true, ↓reduceIte, List.getElem?_cons_zero, List.getElem?_cons_succ, List.set_cons_zero, List.set_cons_succ, List.length_cons, List.length_nil, g_ld_s, g_v_s, g_ob_s, g_ia_s, g_la_s, g_qa_s, g_al_s, t_i_s, t_a_r, t_a_n, t_a_q, t_l_s, true_and, and_true, and_self, true_or, or_true, Decidable.not_not, not_true_eq_false, not_false_eq_true, false_implies, true_implies, implies_true, j_ok1_s, j_isL, j_cat_i, j_cat_l, j_cat_r, j_cat_n, j_rf_cat, j_rf_some, j_rf_none, k_w8_0, k_w8_i, k_w8_r, k_w8_l, k_sum0, k_ints, k_nari, k_narz0, k_narz1, k_okv0, k_okv1, k_okv2, k_okv2n, k_okv3, Option.toList_some, Option.toList_none, List.cons_append, List.nil_append, List.append_nil, List.map_cons, List.map_nil, List.sum_cons, List.sum_nil, Nat.add_zero, Nat.zero_add, Nat.reduceAdd, Nat.reduceMul, Nat.reduceSub, Nat.reduceDiv, Nat.reduceMod, Nat.reduceLT, Nat.reduceLeDiff, Nat.reduceEqDiff, Nat.reduceBEq, Nat.reduceBNe, Nat.one_ne_zero, Nat.zero_ne_one, Nat.succ_ne_self, Nat.le_refl, Nat.sub_self, Nat.sub_zero, Nat.zero_le, reduceCtorEq, eq_self, Bool.false_eq_true, pk_mul, nI_add, k_in, nI_clamp, nI_eq, nI_ltI, nI_leI, k_upd, k_eq0, k_lt0, k_0le, k_0lt, k_le0, k_mod]
  refine g_call0 (sp_Math_max ?_)
  rw [emx]
  have hd0 : ¬ S 4 l / 8 * 8 = 0 := by omega
  simp (disch := first | omega | simp (disch := omega) only [sA_ne, sA_self]) only [st_Net_cross, cg6 hI hl, cg13 hI hi, pk_sub, k_div, hd0, j_k, List.mem_cons, List.not_mem_nil, or_false, or_self, if_false, if_true, ↓reduceIte, List.getElem?_cons_zero, List.getElem?_cons_succ, List.set_cons_zero, List.set_cons_succ, List.length_cons, List.length_nil, g_ld_s, g_v_s, g_ob_s, g_ia_s, g_la_s, g_qa_s, g_al_s, t_i_s, t_a_r, t_a_n, t_a_q, t_l_s, true_and, and_true, and_self, true_or, or_true, Decidable.not_not, not_true_eq_false, not_false_eq_true, false_implies, true_implies, implies_true, j_ok1_s, j_isL, j_cat_i, j_cat_l, j_cat_r, j_cat_n, j_rf_cat, j_rf_some, j_rf_none, k_w8_0, k_w8_i, k_w8_r, k_w8_l, k_sum0, k_ints, k_nari, k_narz0, k_narz1, k_okv0, k_okv1, k_okv2, k_okv2n, k_okv3, Option.toList_some, Option.toList_none, List.cons_append, List.nil_append, List.append_nil, List.map_cons, List.map_nil, List.sum_cons, List.sum_nil, Nat.add_zero, Nat.zero_add, Nat.reduceAdd, Nat.reduceMul, Nat.reduceSub, Nat.reduceDiv, Nat.reduceMod, Nat.reduceLT, Nat.reduceLeDiff, Nat.reduceEqDiff, Nat.reduceBEq, Nat.reduceBNe, Nat.one_ne_zero, Nat.zero_ne_one, Nat.succ_ne_self, Nat.le_refl, Nat.sub_self, Nat.sub_zero, Nat.zero_le, reduceCtorEq, eq_self, Bool.false_eq_true, pk_mul, nI_add, k_in, nI_clamp, nI_eq, nI_ltI, nI_leI, k_upd, k_eq0, k_lt0, k_0le, k_0lt, k_le0, k_mod]
  refine ⟨fun c1 => ?_, fun c1 => ?_⟩
  · refine at43 _ ?_ (Nat.le_trans (Nat.div_le_self _ _) (by omega))
    have e8 : rStep S l (S 23 (6 * (i + 1) + 2)) = S 4 l / 8 * 8 := by unfold rStep; rw [if_pos (by omega)]
    rw [e8]
  · refine at43 0 ?_ (by omega)
    have est : rStep S l (S 23 (6 * (i + 1) + 2)) = S 23 (6 * (i + 1) + 2) := by unfold rStep; rw [if_neg (by omega)]
    rw [est, Nat.div_eq_of_lt (by omega)]
/-! what ended, after go -/
theorem rBr_st {S : Nat → Nat → Nat} {p n q : Nat} {v1 v2 v3 : Int32} (hq : q ≠ p) : rBr (sA S 23 (va_up (S 23) (6 * p + 5) n)) q v1 v2 v3 ↔ rBr S q v1 v2 v3 := by
  unfold rBr
  rw [sA_self, va_up_ne _ _ (show 6 * q ≠ 6 * p + 5 by omega), va_up_ne _ _ (show 6 * q + 4 ≠ 6 * p + 5 by omega), va_up_ne _ _ (show 6 * q + 5 ≠ 6 * p + 5 by omega), va_up_ne _ _ (show 6 * q + 1 ≠ 6 * p + 5 by omega), va_up_ne _ _ (show 6 * q + 2 ≠ 6 * p + 5 by omega)]
theorem rArr_st0 {S : Nat → Nat → Nat} {p n : Nat} {v1 v2 v3 : Int32} (h0 : S 23 (6 * p + 5) = 0) (hn : n ≠ 1) : rArr (sA S 23 (va_up (S 23) (6 * p + 5) n)) v1 v2 v3 ↔ rArr S v1 v2 v3 := by
  constructor
  · rintro ⟨q, q1, q2, h⟩
    by_cases e : q = p
    · subst e
      exfalso
      have := h.2.2.1
      rw [sA_self, va_up_self] at this
      exact hn this
    · exact ⟨q, q1, q2, (rBr_st e).mp h⟩
  · rintro ⟨q, q1, q2, h⟩
    by_cases e : q = p
    · subst e
      have := h.2.2.1
      omega
    · exact ⟨q, q1, q2, (rBr_st e).mpr h⟩
theorem rArr_st1 {S : Nat → Nat → Nat} {p : Nat} {v1 v2 v3 : Int32} (h0 : S 23 (6 * p + 5) = 0) (p1 : 1 ≤ p) (p2 : p ≤ S 22 0) : rArr (sA S 23 (va_up (S 23) (6 * p + 5) 1)) v1 v2 v3 ↔ rArr S v1 v2 v3 ∨ (nI (S 23 (6 * p)) = v1 ∧ nI (S 23 (6 * p + 4)) = v2 ∧ nI (S 23 (6 * p + 1)) ≤ v3 ∧ v3 < nI (S 23 (6 * p + 1) + S 23 (6 * p + 2))) := by
  have ep : rBr (sA S 23 (va_up (S 23) (6 * p + 5) 1)) p v1 v2 v3 ↔ (nI (S 23 (6 * p)) = v1 ∧ nI (S 23 (6 * p + 4)) = v2 ∧ nI (S 23 (6 * p + 1)) ≤ v3 ∧ v3 < nI (S 23 (6 * p + 1) + S 23 (6 * p + 2))) := by
    unfold rBr
    rw [sA_self, va_up_ne _ _ (show 6 * p ≠ 6 * p + 5 by omega), va_up_ne _ _ (show 6 * p + 4 ≠ 6 * p + 5 by omega), va_up_self, va_up_ne _ _ (show 6 * p + 1 ≠ 6 * p + 5 by omega), va_up_ne _ _ (show 6 * p + 2 ≠ 6 * p + 5 by omega)]
    exact ⟨fun h => ⟨h.1, h.2.1, h.2.2.2⟩, fun h => ⟨h.1, h.2.1, rfl, h.2.2⟩⟩
  constructor
  · rintro ⟨q, q1, q2, h⟩
    by_cases e : q = p
    · subst e
      exact Or.inr (ep.mp h)
    · exact Or.inl ⟨q, q1, q2, (rBr_st e).mp h⟩
  · rintro (⟨q, q1, q2, h⟩ | h)
    · by_cases e : q = p
      · subst e
        have := h.2.2.1
        omega
      · exact ⟨q, q1, q2, (rBr_st e).mpr h⟩
    · exact ⟨p, p1, p2, ep.mpr h⟩
theorem rArr_mv {S : Nat → Nat → Nat} {p to st : Nat} {v1 v2 v3 : Int32} (h0 : S 23 (6 * p + 5) = 0) : rArr (rMove S (6 * p) to st) v1 v2 v3 ↔ rArr S v1 v2 v3 := by
  have same : ∀ q, q ≠ p → (rBr (rMove S (6 * p) to st) q v1 v2 v3 ↔ rBr S q v1 v2 v3) := by
    intro q hq
    unfold rBr rMove
    rw [sA_self]
    simp (disch := omega) only [va_up_ne]
  have at5 : rMove S (6 * p) to st 23 (6 * p + 5) = 0 := by
    unfold rMove
    rw [sA_self]
    simp (disch := omega) only [va_up_ne]
    exact h0
  constructor
  · rintro ⟨q, q1, q2, h⟩
    by_cases e : q = p
    · subst e
      have := h.2.2.1
      omega
    · exact ⟨q, q1, q2, (same q e).mp h⟩
  · rintro ⟨q, q1, q2, h⟩
    by_cases e : q = p
    · subst e
      have := h.2.2.1
      omega
    · exact ⟨q, q1, q2, (same q e).mpr h⟩
theorem rArr_splt {S : Nat → Nat → Nat} {pk fi n st li to : Nat} {v1 v2 v3 : Int32} (h5 : ∀ q, S 22 0 < q → S 23 (6 * q + 5) = 0) : ∀ i, rArr (rSplt S pk fi n st li to i) v1 v2 v3 ↔ rArr S v1 v2 v3
  | 0 => Iff.rfl
  | i + 1 => by
    unfold rSplt
    rw [rArr_add (by rw [rSplt_5]; exact h5 _ (by rw [rSplt_22]; omega))]
    exact rArr_splt h5 i
theorem cB.fin {S : Nat → Nat → Nat} {B : Nat → Nat → Int64} (h : cB S B) (hS : rOK S) {p k : Nat} {g : Nat → Int64} (h0 : S 23 (6 * p + 5) = 0) (p1 : 1 ≤ p) (p2 : p ≤ S 22 0) (hk : k + 1 = S 23 (6 * p)) (hg : ∀ r' i', r' < 8 → i' < 512 → (bt g r' i' = true ↔ bt (B k) r' i' = true ∨ (r' = S 23 (6 * p + 4) ∧ S 23 (6 * p + 1) ≤ i' ∧ i' < S 23 (6 * p + 1) + S 23 (6 * p + 2)))) : cB (sA S 23 (va_up (S 23) (6 * p + 5) 1)) (va_up B k g) := by
  intro p' r i hp' hr hi
  have hp' : p' < S 18 0 := hp'
  have b18 : S 18 0 ≤ 12 := hS 18 0
  have c0 : S 23 (6 * p) ≤ 500 := hS 23 _
  have c1 : S 23 (6 * p + 1) ≤ 500 := hS 23 _
  have c2 : S 23 (6 * p + 2) ≤ 500 := hS 23 _
  have c4 : S 23 (6 * p + 4) ≤ 500 := hS 23 _
  rw [rArr_st1 h0 p1 p2, nI_eq (by omega) (by omega), nI_eq (by omega) (by omega), nI_leI (by omega) (by omega), nI_ltI (by omega) (by omega), ← h p' r i hp' hr hi]
  by_cases e : p' = k
  · subst e
    rw [va_up_self]
    refine (hg r i hr hi).trans ?_
    constructor
    · rintro (q | ⟨q1, q2⟩)
      · exact Or.inl q
      · exact Or.inr ⟨hk.symm, q1.symm, q2⟩
    · rintro (q | ⟨-, q1, q2⟩)
      · exact Or.inl q
      · exact Or.inr ⟨q1.symm, q2⟩
  · rw [va_up_ne _ _ e]
    constructor
    · exact fun q => Or.inl q
    · rintro (q | ⟨q1, -⟩)
      · exact q
      · omega
set_option maxHeartbeats 4000000 in
set_option maxRecDepth 100000 in
theorem sp_Net_go {S X : Nat → Nat → Nat} {B : Nat → Nat → Int64} {A : Nat → Nat → Int32} {ad : Nat → Nat → Nat} {v : Int32} {post : Option Value → jW → Prop} (hI : n_inj (cAl S) ad) (hS : rLk S) (h13 : ∀ i, S 13 i / 16 ≤ 255) (hC : cI S X) (hP : rPc S) (hB : cB S B) (h : ∀ B' A' ad', cB (rGo S v).2 B' → n_inj (cAl (rGo S v).2) ad' → ad' 0 0 = ad 0 0 → post (some (.int (rGo S v).1)) (cW (rGo S v).2 X B' A' ad')) : j_sem m_Net_go [.ref (ad 0 0), .int v] (cW S X B A ad) 80 480 post := by
  refine j_sem_of (by decide +kernel) (Nat.le_of_ble_eq_true rfl) ?_
  show j_S _ _ 0 [some (.ref (ad 0 0)), some (.int v), none, none, none] [] _ 80 480
  have hO := hS.1
  have b22 : S 22 0 ≤ 80 := hO 22 0
  have b18 : S 18 0 ≤ 12 := hO 18 0
  have bL : S 1 0 ≤ 12 := hO 1 0
  unfold rGo at h
  refine j_runs [] ok_Net_go 200 ?_
  simp (disch := first | omega | simp (disch := omega) only [sA_ne, sA_self]) only [st_Net_go, cg0 hI, j_k, List.mem_cons, List.not_mem_nil, or_false, or_self, if_false, if_true, ↓reduceIte, List.getElem?_cons_zero, List.getElem?_cons_succ, List.set_cons_zero, List.set_cons_succ, List.length_cons, List.length_nil, g_ld_s, g_v_s, g_ob_s, g_ia_s, g_la_s, g_qa_s, g_al_s, t_i_s, t_a_r, t_a_n, t_a_q, t_l_s, true_and, and_true, and_self, true_or, or_true, Decidable.not_not, not_true_eq_false, not_false_eq_true, false_implies, true_implies, implies_true, j_ok1_s, j_isL, j_cat_i, j_cat_l, j_cat_r, j_cat_n, j_rf_cat, j_rf_some, j_rf_none, k_w8_0, k_w8_i, k_w8_r, k_w8_l, k_sum0, k_ints, k_nari, k_narz0, k_narz1, k_okv0, k_okv1, k_okv2, k_okv2n, k_okv3, Option.toList_some, Option.toList_none, List.cons_append, List.nil_append, List.append_nil, List.map_cons, List.map_nil, List.sum_cons, List.sum_nil, Nat.add_zero, Nat.zero_add, Nat.reduceAdd, Nat.reduceMul, Nat.reduceSub, Nat.reduceDiv, Nat.reduceMod, Nat.reduceLT, Nat.reduceLeDiff, Nat.reduceEqDiff, Nat.reduceBEq, Nat.reduceBNe, Nat.one_ne_zero, Nat.zero_ne_one, Nat.succ_ne_self, Nat.le_refl, Nat.sub_self, Nat.sub_zero, Nat.zero_le, reduceCtorEq, eq_self, Bool.false_eq_true]
  refine g_call0 (sp_Net_isMoving hI hO (fun c => ?_) (fun c => ?_))
  · rw [if_pos c] at h
    have h0 := c.2
    obtain ⟨i, hi, rfl, hN⟩ := k_pc b22 c.1
    rw [hN] at h h0
    clear c hN
    have ei : i + 1 - 1 = i := by omega
    obtain ⟨p1, p2, p3, p4, p5, p6⟩ := hP.2.1 (i + 1) (by omega) (by omega)
    have ek : S 23 (6 * (i + 1)) - 1 + 1 = S 23 (6 * (i + 1)) := by omega
    have hk : S 23 (6 * (i + 1)) - 1 < S 18 0 := by omega
    have g10 := cg10 (X := X) (B := B) (A := A) hI hk
    rw [ek] at g10
    have bad : S 20 (S 23 (6 * (i + 1))) ≤ 255 := hO 20 _
    have b21 : S 21 (S 23 (6 * (i + 1))) ≤ 1 := hO 21 _
    have b2 : S 23 (6 * (i + 1) + 2) ≤ 500 := hO 23 _
    have b1 : S 23 (6 * (i + 1) + 1) ≤ 500 := hO 23 _
    have b19 : S 19 (S 23 (6 * (i + 1))) ≤ 500 := hO 19 _
    simp (disch := first | omega | simp (disch := omega) only [sA_ne, sA_self]) only [st_Net_go, cg0 hI, cg12 hI, cg13 hI hi, cg9 hI, g10, cRow_lt, pk_sub, ei, j_k, List.mem_cons, List.not_mem_nil, or_false, or_self, if_false, if_true, ↓reduceIte, List.getElem?_cons_zero, List.getElem?_cons_succ, List.set_cons_zero, List.set_cons_succ, List.length_cons, List.length_nil, g_ld_s, g_v_s, g_ob_s, g_ia_s, g_la_s, g_qa_s, g_al_s, t_i_s, t_a_r, t_a_n, t_a_q, t_l_s, true_and, and_true, and_self, true_or, or_true, Decidable.not_not, not_true_eq_false, not_false_eq_true, false_implies, true_implies, implies_true, j_ok1_s, j_isL, j_cat_i, j_cat_l, j_cat_r, j_cat_n, j_rf_cat, j_rf_some, j_rf_none, k_w8_0, k_w8_i, k_w8_r, k_w8_l, k_sum0, k_ints, k_nari, k_narz0, k_narz1, k_okv0, k_okv1, k_okv2, k_okv2n, k_okv3, Option.toList_some, Option.toList_none, List.cons_append, List.nil_append, List.append_nil, List.map_cons, List.map_nil, List.sum_cons, List.sum_nil, Nat.add_zero, Nat.zero_add, Nat.reduceAdd, Nat.reduceMul, Nat.reduceSub, Nat.reduceDiv, Nat.reduceMod, Nat.reduceLT, Nat.reduceLeDiff, Nat.reduceEqDiff, Nat.reduceBEq, Nat.reduceBNe, Nat.one_ne_zero, Nat.zero_ne_one, Nat.succ_ne_self, Nat.le_refl, Nat.sub_self, Nat.sub_zero, Nat.zero_le, reduceCtorEq, eq_self, Bool.false_eq_true, pk_mul, nI_add, k_in, nI_clamp, nI_eq, nI_ltI, nI_leI, k_upd, k_eq0, k_lt0, k_0le, k_0lt, k_le0, k_mod]
    refine g_call0 (sp_Net_findRoute hI hS h13 hC (by omega) bad (fun A1 => ?_))
    have g10 := cg10 (X := X) (B := B) (A := A1) hI hk
    rw [ek] at g10
    have hway := rRt_cases (S := S) (ro := S 23 (6 * (i + 1) + 4)) (x := S 20 (S 23 (6 * (i + 1))))
    generalize rRt S (S 23 (6 * (i + 1) + 4)) (S 20 (S 23 (6 * (i + 1)))) = way at *
    have fin : ∀ n, n ≠ 1 → n ≠ 0 → rFate S (6 * (i + 1)) way = n → post (some (.int (nI n))) (cW (sA S 23 (va_up (S 23) (6 * (i + 1) + 5) n)) X B A1 ad) := by
      intro n n1 n0 en
      rw [en, if_neg n0] at h
      refine h B A1 ad (fun p r j hp hr hj => ?_) (cInj rfl rfl rfl rfl hI) rfl
      rw [rArr_st0 h0 n1]
      exact hB p r j hp hr hj
    rcases hway with rfl | rfl | ⟨l, hl, rfl⟩
    · have hfa : rFate S (6 * (i + 1)) (-4) = 1 := if_pos rfl
      rw [hfa, if_neg (by decide)] at h
      simp (disch := first | omega | simp (disch := omega) only [sA_ne, sA_self]) only [st_Net_go, cg13 hI hi, g10, j_k, List.mem_cons, List.not_mem_nil, or_false, or_self, if_false, if_true, ↓reduceIte, List.getElem?_cons_zero, List.getElem?_cons_succ, List.set_cons_zero, List.set_cons_succ, List.length_cons, List.length_nil, g_ld_s, g_v_s, g_ob_s, g_ia_s, g_la_s, g_qa_s, g_al_s, t_i_s, t_a_r, t_a_n, t_a_q, t_l_s, true_and, and_true, and_self, true_or, or_true, Decidable.not_not, not_true_eq_false, not_false_eq_true, false_implies, true_implies, implies_true, j_ok1_s, j_isL, j_cat_i, j_cat_l, j_cat_r, j_cat_n, j_rf_cat, j_rf_some, j_rf_none, k_w8_0, k_w8_i, k_w8_r, k_w8_l, k_sum0, k_ints, k_nari, k_narz0, k_narz1, k_okv0, k_okv1, k_okv2, k_okv2n, k_okv3, Option.toList_some, Option.toList_none, List.cons_append, List.nil_append, List.append_nil, List.map_cons, List.map_nil, List.sum_cons, List.sum_nil, Nat.add_zero, Nat.zero_add, Nat.reduceAdd, Nat.reduceMul, Nat.reduceSub, Nat.reduceDiv, Nat.reduceMod, Nat.reduceLT, Nat.reduceLeDiff, Nat.reduceEqDiff, Nat.reduceBEq, Nat.reduceBNe, Nat.one_ne_zero, Nat.zero_ne_one, Nat.succ_ne_self, Nat.le_refl, Nat.sub_self, Nat.sub_zero, Nat.zero_le, reduceCtorEq, eq_self, Bool.false_eq_true, pk_mul, nI_add, k_in, nI_clamp, nI_eq, nI_ltI, nI_leI, k_upd, k_eq0, k_lt0, k_0le, k_0lt, k_le0, k_mod]
      refine g_call0 (sp_Packet_markEnded (r := S 23 (6 * (i + 1) + 4)) (st := S 23 (6 * (i + 1) + 1)) (n := S 23 (6 * (i + 1) + 2)) g10 (cg11 hI hk) (by omega) (by omega) (fun g hg => ?_))
      rw [cp_bits hI hk]
      simp (disch := first | omega | simp (disch := omega) only [sA_ne, sA_self]) only [st_Net_go, j_k, List.mem_cons, List.not_mem_nil, or_false, or_self, if_false, if_true, ↓reduceIte, List.getElem?_cons_zero, List.getElem?_cons_succ, List.set_cons_zero, List.set_cons_succ, List.length_cons, List.length_nil, g_ld_s, g_v_s, g_ob_s, g_ia_s, g_la_s, g_qa_s, g_al_s, t_i_s, t_a_r, t_a_n, t_a_q, t_l_s, true_and, and_true, and_self, true_or, or_true, Decidable.not_not, not_true_eq_false, not_false_eq_true, false_implies, true_implies, implies_true, j_ok1_s, j_isL, j_cat_i, j_cat_l, j_cat_r, j_cat_n, j_rf_cat, j_rf_some, j_rf_none, k_w8_0, k_w8_i, k_w8_r, k_w8_l, k_sum0, k_ints, k_nari, k_narz0, k_narz1, k_okv0, k_okv1, k_okv2, k_okv2n, k_okv3, Option.toList_some, Option.toList_none, List.cons_append, List.nil_append, List.append_nil, List.map_cons, List.map_nil, List.sum_cons, List.sum_nil, Nat.add_zero, Nat.zero_add, Nat.reduceAdd, Nat.reduceMul, Nat.reduceSub, Nat.reduceDiv, Nat.reduceMod, Nat.reduceLT, Nat.reduceLeDiff, Nat.reduceEqDiff, Nat.reduceBEq, Nat.reduceBNe, Nat.one_ne_zero, Nat.zero_ne_one, Nat.succ_ne_self, Nat.le_refl, Nat.sub_self, Nat.sub_zero, Nat.zero_le, reduceCtorEq, eq_self, Bool.false_eq_true, pk_mul, nI_add, k_in, nI_clamp, nI_eq, nI_ltI, nI_leI, k_upd, k_eq0, k_lt0, k_0le, k_0lt, k_le0, k_mod]
      refine g_call0 (sp_Net_settle hI hi ?_)
      simp (disch := first | omega | simp (disch := omega) only [sA_ne, sA_self]) only [st_Net_go, j_k, List.mem_cons, List.not_mem_nil, or_false, or_self, if_false, if_true, ↓reduceIte, List.getElem?_cons_zero, List.getElem?_cons_succ, List.set_cons_zero, List.set_cons_succ, List.length_cons, List.length_nil, g_ld_s, g_v_s, g_ob_s, g_ia_s, g_la_s, g_qa_s, g_al_s, t_i_s, t_a_r, t_a_n, t_a_q, t_l_s, true_and, and_true, and_self, true_or, or_true, Decidable.not_not, not_true_eq_false, not_false_eq_true, false_implies, true_implies, implies_true, j_ok1_s, j_isL, j_cat_i, j_cat_l, j_cat_r, j_cat_n, j_rf_cat, j_rf_some, j_rf_none, k_w8_0, k_w8_i, k_w8_r, k_w8_l, k_sum0, k_ints, k_nari, k_narz0, k_narz1, k_okv0, k_okv1, k_okv2, k_okv2n, k_okv3, Option.toList_some, Option.toList_none, List.cons_append, List.nil_append, List.append_nil, List.map_cons, List.map_nil, List.sum_cons, List.sum_nil, Nat.add_zero, Nat.zero_add, Nat.reduceAdd, Nat.reduceMul, Nat.reduceSub, Nat.reduceDiv, Nat.reduceMod, Nat.reduceLT, Nat.reduceLeDiff, Nat.reduceEqDiff, Nat.reduceBEq, Nat.reduceBNe, Nat.one_ne_zero, Nat.zero_ne_one, Nat.succ_ne_self, Nat.le_refl, Nat.sub_self, Nat.sub_zero, Nat.zero_le, reduceCtorEq, eq_self, Bool.false_eq_true, pk_mul, nI_add, k_in, nI_clamp, nI_eq, nI_ltI, nI_leI, k_upd, k_eq0, k_lt0, k_0le, k_0lt, k_le0, k_mod]
      exact h _ A1 ad (hB.fin hO h0 (by omega) (by omega) ek hg) (cInj rfl rfl rfl rfl hI) rfl
    · simp (disch := first | omega | simp (disch := omega) only [sA_ne, sA_self]) only [st_Net_go, cg13 hI hi, k_m3m4, j_k, List.mem_cons, List.not_mem_nil, or_false, or_self, if_false, if_true, ↓reduceIte, List.getElem?_cons_zero, List.getElem?_cons_succ, List.set_cons_zero, List.set_cons_succ, List.length_cons, List.length_nil, g_ld_s, g_v_s, g_ob_s, g_ia_s, g_la_s, g_qa_s, g_al_s, t_i_s, t_a_r, t_a_n, t_a_q, t_l_s, true_and, and_true, and_self, true_or, or_true, Decidable.not_not, not_true_eq_false, not_false_eq_true, false_implies, true_implies, implies_true, j_ok1_s, j_isL, j_cat_i, j_cat_l, j_cat_r, j_cat_n, j_rf_cat, j_rf_some, j_rf_none, k_w8_0, k_w8_i, k_w8_r, k_w8_l, k_sum0, k_ints, k_nari, k_narz0, k_narz1, k_okv0, k_okv1, k_okv2, k_okv2n, k_okv3, Option.toList_some, Option.toList_none, List.cons_append, List.nil_append, List.append_nil, List.map_cons, List.map_nil, List.sum_cons, List.sum_nil, Nat.add_zero, Nat.zero_add, Nat.reduceAdd, Nat.reduceMul, Nat.reduceSub, Nat.reduceDiv, Nat.reduceMod, Nat.reduceLT, Nat.reduceLeDiff, Nat.reduceEqDiff, Nat.reduceBEq, Nat.reduceBNe, Nat.one_ne_zero, Nat.zero_ne_one, Nat.succ_ne_self, Nat.le_refl, Nat.sub_self, Nat.sub_zero, Nat.zero_le, reduceCtorEq, eq_self, Bool.false_eq_true, pk_mul, nI_add, k_in, nI_clamp, nI_eq, nI_ltI, nI_leI, k_upd, k_eq0, k_lt0, k_0le, k_0lt, k_le0, k_mod]
      refine ⟨fun c => ?_, fun c => ?_⟩
      · refine g_call0 (sp_Net_settle hI hi ?_)
        simp (disch := first | omega | simp (disch := omega) only [sA_ne, sA_self]) only [st_Net_go, j_k, List.mem_cons, List.not_mem_nil, or_false, or_self, if_false, if_true, ↓reduceIte, List.getElem?_cons_zero, List.getElem?_cons_succ, List.set_cons_zero, List.set_cons_succ, List.length_cons, List.length_nil, g_ld_s, g_v_s, g_ob_s, g_ia_s, g_la_s, g_qa_s, g_al_s, t_i_s, t_a_r, t_a_n, t_a_q, t_l_s, true_and, and_true, and_self, true_or, or_true, Decidable.not_not, not_true_eq_false, not_false_eq_true, false_implies, true_implies, implies_true, j_ok1_s, j_isL, j_cat_i, j_cat_l, j_cat_r, j_cat_n, j_rf_cat, j_rf_some, j_rf_none, k_w8_0, k_w8_i, k_w8_r, k_w8_l, k_sum0, k_ints, k_nari, k_narz0, k_narz1, k_okv0, k_okv1, k_okv2, k_okv2n, k_okv3, Option.toList_some, Option.toList_none, List.cons_append, List.nil_append, List.append_nil, List.map_cons, List.map_nil, List.sum_cons, List.sum_nil, Nat.add_zero, Nat.zero_add, Nat.reduceAdd, Nat.reduceMul, Nat.reduceSub, Nat.reduceDiv, Nat.reduceMod, Nat.reduceLT, Nat.reduceLeDiff, Nat.reduceEqDiff, Nat.reduceBEq, Nat.reduceBNe, Nat.one_ne_zero, Nat.zero_ne_one, Nat.succ_ne_self, Nat.le_refl, Nat.sub_self, Nat.sub_zero, Nat.zero_le, reduceCtorEq, eq_self, Bool.false_eq_true, pk_mul, nI_add, k_in, nI_clamp, nI_eq, nI_ltI, nI_leI, k_upd, k_eq0, k_lt0, k_0le, k_0lt, k_le0, k_mod]
        refine fin 2 (by decide) (by decide) ?_
        unfold rFate
        rw [if_neg (by decide), if_neg c, if_pos rfl]
      · refine g_call0 (sp_Net_settle hI hi ?_)
        simp (disch := first | omega | simp (disch := omega) only [sA_ne, sA_self]) only [st_Net_go, j_k, List.mem_cons, List.not_mem_nil, or_false, or_self, if_false, if_true, ↓reduceIte, List.getElem?_cons_zero, List.getElem?_cons_succ, List.set_cons_zero, List.set_cons_succ, List.length_cons, List.length_nil, g_ld_s, g_v_s, g_ob_s, g_ia_s, g_la_s, g_qa_s, g_al_s, t_i_s, t_a_r, t_a_n, t_a_q, t_l_s, true_and, and_true, and_self, true_or, or_true, Decidable.not_not, not_true_eq_false, not_false_eq_true, false_implies, true_implies, implies_true, j_ok1_s, j_isL, j_cat_i, j_cat_l, j_cat_r, j_cat_n, j_rf_cat, j_rf_some, j_rf_none, k_w8_0, k_w8_i, k_w8_r, k_w8_l, k_sum0, k_ints, k_nari, k_narz0, k_narz1, k_okv0, k_okv1, k_okv2, k_okv2n, k_okv3, Option.toList_some, Option.toList_none, List.cons_append, List.nil_append, List.append_nil, List.map_cons, List.map_nil, List.sum_cons, List.sum_nil, Nat.add_zero, Nat.zero_add, Nat.reduceAdd, Nat.reduceMul, Nat.reduceSub, Nat.reduceDiv, Nat.reduceMod, Nat.reduceLT, Nat.reduceLeDiff, Nat.reduceEqDiff, Nat.reduceBEq, Nat.reduceBNe, Nat.one_ne_zero, Nat.zero_ne_one, Nat.succ_ne_self, Nat.le_refl, Nat.sub_self, Nat.sub_zero, Nat.zero_le, reduceCtorEq, eq_self, Bool.false_eq_true, pk_mul, nI_add, k_in, nI_clamp, nI_eq, nI_ltI, nI_leI, k_upd, k_eq0, k_lt0, k_0le, k_0lt, k_le0, k_mod]
        refine fin 3 (by decide) (by decide) ?_
        unfold rFate
        rw [if_neg (by decide), if_pos c]
    · have b4 : S 4 l ≤ 255 := hO 4 _
      have w8 : 8 ≤ S 4 l := (hS.2.1 l hl).2.1
      have hN : N (nI l) = l := nI_clamp (by omega)
      have f4 : ¬ nI l = -4 := by rw [k_nm4 (by omega)]; exact id
      have f3 : ¬ nI l = -3 := by rw [k_nm3 (by omega)]; exact id
      rw [hN] at h
      have hfa : rFate S (6 * (i + 1)) (nI l) = if S 23 (6 * (i + 1) + 3) = 0 then 3 else if S 4 l < S 23 (6 * (i + 1) + 2) ∧ S 21 (S 23 (6 * (i + 1))) = 1 then 4 else 0 := by
        unfold rFate
        rw [if_neg f4, if_neg f3, hN]
      simp (disch := first | omega | simp (disch := omega) only [sA_ne, sA_self]) only [st_Net_go, cg0 hI, cg5 hI, cg6 hI hl, cg13 hI hi, g10, cRow_lt, f4, f3, j_k, List.mem_cons, List.not_mem_nil, or_false, or_self, if_false, if_true, ↓reduceIte, List.getElem?_cons_zero, List.getElem?_cons_succ, List.set_cons_zero, List.set_cons_succ, List.length_cons, List.length_nil, g_ld_s, g_v_s, g_ob_s, g_ia_s, g_la_s, g_qa_s, g_al_s, t_i_s, t_a_r, t_a_n, t_a_q, t_l_s, true_and, and_true, and_self, true_or, or_true, Decidable.not_not, not_true_eq_false, not_false_eq_true, false_implies, true_implies, implies_true, j_ok1_s, j_isL, j_cat_i, j_cat_l, j_cat_r, j_cat_n, j_rf_cat, j_rf_some, j_rf_none, k_w8_0, k_w8_i, k_w8_r, k_w8_l, k_sum0, k_ints, k_nari, k_narz0, k_narz1, k_okv0, k_okv1, k_okv2, k_okv2n, k_okv3, Option.toList_some, Option.toList_none, List.cons_append, List.nil_append, List.append_nil, List.map_cons, List.map_nil, List.sum_cons, List.sum_nil, Nat.add_zero, Nat.zero_add, Nat.reduceAdd, Nat.reduceMul, Nat.reduceSub, Nat.reduceDiv, Nat.reduceMod, Nat.reduceLT, Nat.reduceLeDiff, Nat.reduceEqDiff, Nat.reduceBEq, Nat.reduceBNe, Nat.one_ne_zero, Nat.zero_ne_one, Nat.succ_ne_self, Nat.le_refl, Nat.sub_self, Nat.sub_zero, Nat.zero_le, reduceCtorEq, eq_self, Bool.false_eq_true, pk_mul, nI_add, k_in, nI_clamp, nI_eq, nI_ltI, nI_leI, k_upd, k_eq0, k_lt0, k_0le, k_0lt, k_le0, k_mod]
      have mv : ¬ S 23 (6 * (i + 1) + 3) = 0 → ¬ (S 4 l < S 23 (6 * (i + 1) + 2) ∧ S 21 (S 23 (6 * (i + 1))) = 1) → j_sem m_Net_cross [.ref (ad 0 0), .ref (ad 13 i), .ref (ad 6 l)] (cW S X B A1 ad) 80 480 (fun v w' => (∃ a, v = some (Value.int a)) ∧ post v w') := by
        intro c1 c2
        rw [hfa, if_neg c1, if_neg c2, if_pos rfl] at h
        refine sp_Net_cross hI hC hO hP.2.2 hi hl w8 p3 (by omega) c1 p6 h0 (fun c => ?_) (fun c ad' k1 k2 => ?_)
        · rw [if_pos c] at h
          exact ⟨⟨_, rfl⟩, h B A1 ad hB hI rfl⟩
        · rw [if_neg c] at h
          refine ⟨⟨_, rfl⟩, h B A1 ad' (fun p r j hp hr hj => ?_) k1 k2⟩
          have hp : p < S 18 0 := by
            have e := rSplt_keeps (S := rMove S (6 * (i + 1)) (rOth S (S 23 (6 * (i + 1) + 4)) l) (rStep S l (S 23 (6 * (i + 1) + 2)))) (pk := S 23 (6 * (i + 1))) (fi := S 23 (6 * (i + 1) + 1)) (n := S 23 (6 * (i + 1) + 2)) (st := rStep S l (S 23 (6 * (i + 1) + 2))) (li := S 23 (6 * (i + 1) + 3) - 1) (to := rOth S (S 23 (6 * (i + 1) + 4)) l) (k := 18) (by decide) (by decide) ((S 23 (6 * (i + 1) + 2) - 1) / rStep S l (S 23 (6 * (i + 1) + 2)))
            dsimp only at hp
            rw [e] at hp
            exact hp
          dsimp only
          rw [rArr_splt, rArr_mv h0]
          · exact hB p r j hp hr hj
          · intro q hq
            have hq : S 22 0 < q := hq
            have e : rMove S (6 * (i + 1)) (rOth S (S 23 (6 * (i + 1) + 4)) l) (rStep S l (S 23 (6 * (i + 1) + 2))) 23 (6 * q + 5) = S 23 (6 * q + 5) := by
              unfold rMove
              rw [sA_self]
              simp (disch := omega) only [va_up_ne]
            rw [e]
            exact hP.2.2 q hq
      refine ⟨fun c => ⟨fun c1 => ?_, fun c1 => ⟨fun c2 => ?_, fun c2 => ?_⟩⟩, fun c => ?_⟩
      · refine g_calln (mc := 80) (ms := 480) (by decide) (by decide) (j_sem_mono (fun v w' q => ?_) (mv c (fun q => by omega)))
        obtain ⟨⟨a, rfl⟩, q⟩ := q
        simp (disch := first | omega | simp (disch := omega) only [sA_ne, sA_self]) only [st_Net_go, j_k, List.mem_cons, List.not_mem_nil, or_false, or_self, if_false, if_true, ↓reduceIte, List.getElem?_cons_zero, List.getElem?_cons_succ, List.set_cons_zero, List.set_cons_succ, List.length_cons, List.length_nil, g_ld_s, g_v_s, g_ob_s, g_ia_s, g_la_s, g_qa_s, g_al_s, t_i_s, t_a_r, t_a_n, t_a_q, t_l_s, true_and, and_true, and_self, true_or, or_true, Decidable.not_not, not_true_eq_false, not_false_eq_true, false_implies, true_implies, implies_true, j_ok1_s, j_isL, j_cat_i, j_cat_l, j_cat_r, j_cat_n, j_rf_cat, j_rf_some, j_rf_none, k_w8_0, k_w8_i, k_w8_r, k_w8_l, k_sum0, k_ints, k_nari, k_narz0, k_narz1, k_okv0, k_okv1, k_okv2, k_okv2n, k_okv3, Option.toList_some, Option.toList_none, List.cons_append, List.nil_append, List.append_nil, List.map_cons, List.map_nil, List.sum_cons, List.sum_nil, Nat.add_zero, Nat.zero_add, Nat.reduceAdd, Nat.reduceMul, Nat.reduceSub, Nat.reduceDiv, Nat.reduceMod, Nat.reduceLT, Nat.reduceLeDiff, Nat.reduceEqDiff, Nat.reduceBEq, Nat.reduceBNe, Nat.one_ne_zero, Nat.zero_ne_one, Nat.succ_ne_self, Nat.le_refl, Nat.sub_self, Nat.sub_zero, Nat.zero_le, reduceCtorEq, eq_self, Bool.false_eq_true, pk_mul, nI_add, k_in, nI_clamp, nI_eq, nI_ltI, nI_leI, k_upd, k_eq0, k_lt0, k_0le, k_0lt, k_le0, k_mod]
        exact q
      · refine g_calln (mc := 80) (ms := 480) (by decide) (by decide) (j_sem_mono (fun v w' q => ?_) (mv c (fun q => by omega)))
        obtain ⟨⟨a, rfl⟩, q⟩ := q
        simp (disch := first | omega | simp (disch := omega) only [sA_ne, sA_self]) only [st_Net_go, j_k, List.mem_cons, List.not_mem_nil, or_false, or_self, if_false, if_true, ↓reduceIte, List.getElem?_cons_zero, List.getElem?_cons_succ, List.set_cons_zero, List.set_cons_succ, List.length_cons, List.length_nil, g_ld_s, g_v_s, g_ob_s, g_ia_s, g_la_s, g_qa_s, g_al_s, t_i_s, t_a_r, t_a_n, t_a_q, t_l_s, true_and, and_true, and_self, true_or, or_true, Decidable.not_not, not_true_eq_false, not_false_eq_true, false_implies, true_implies, implies_true, j_ok1_s, j_isL, j_cat_i, j_cat_l, j_cat_r, j_cat_n, j_rf_cat, j_rf_some, j_rf_none, k_w8_0, k_w8_i, k_w8_r, k_w8_l, k_sum0, k_ints, k_nari, k_narz0, k_narz1, k_okv0, k_okv1, k_okv2, k_okv2n, k_okv3, Option.toList_some, Option.toList_none, List.cons_append, List.nil_append, List.append_nil, List.map_cons, List.map_nil, List.sum_cons, List.sum_nil, Nat.add_zero, Nat.zero_add, Nat.reduceAdd, Nat.reduceMul, Nat.reduceSub, Nat.reduceDiv, Nat.reduceMod, Nat.reduceLT, Nat.reduceLeDiff, Nat.reduceEqDiff, Nat.reduceBEq, Nat.reduceBNe, Nat.one_ne_zero, Nat.zero_ne_one, Nat.succ_ne_self, Nat.le_refl, Nat.sub_self, Nat.sub_zero, Nat.zero_le, reduceCtorEq, eq_self, Bool.false_eq_true, pk_mul, nI_add, k_in, nI_clamp, nI_eq, nI_ltI, nI_leI, k_upd, k_eq0, k_lt0, k_0le, k_0lt, k_le0, k_mod]
        exact q
      · refine g_call0 (sp_Net_settle hI hi ?_)
        simp (disch := first | omega | simp (disch := omega) only [sA_ne, sA_self]) only [st_Net_go, j_k, List.mem_cons, List.not_mem_nil, or_false, or_self, if_false, if_true, ↓reduceIte, List.getElem?_cons_zero, List.getElem?_cons_succ, List.set_cons_zero, List.set_cons_succ, List.length_cons, List.length_nil, g_ld_s, g_v_s, g_ob_s, g_ia_s, g_la_s, g_qa_s, g_al_s, t_i_s, t_a_r, t_a_n, t_a_q, t_l_s, true_and, and_true, and_self, true_or, or_true, Decidable.not_not, not_true_eq_false, not_false_eq_true, false_implies, true_implies, implies_true, j_ok1_s, j_isL, j_cat_i, j_cat_l, j_cat_r, j_cat_n, j_rf_cat, j_rf_some, j_rf_none, k_w8_0, k_w8_i, k_w8_r, k_w8_l, k_sum0, k_ints, k_nari, k_narz0, k_narz1, k_okv0, k_okv1, k_okv2, k_okv2n, k_okv3, Option.toList_some, Option.toList_none, List.cons_append, List.nil_append, List.append_nil, List.map_cons, List.map_nil, List.sum_cons, List.sum_nil, Nat.add_zero, Nat.zero_add, Nat.reduceAdd, Nat.reduceMul, Nat.reduceSub, Nat.reduceDiv, Nat.reduceMod, Nat.reduceLT, Nat.reduceLeDiff, Nat.reduceEqDiff, Nat.reduceBEq, Nat.reduceBNe, Nat.one_ne_zero, Nat.zero_ne_one, Nat.succ_ne_self, Nat.le_refl, Nat.sub_self, Nat.sub_zero, Nat.zero_le, reduceCtorEq, eq_self, Bool.false_eq_true, pk_mul, nI_add, k_in, nI_clamp, nI_eq, nI_ltI, nI_leI, k_upd, k_eq0, k_lt0, k_0le, k_0lt, k_le0, k_mod]
        refine fin 4 (by decide) (by decide) ?_
        rw [hfa, if_neg c, if_pos ⟨by omega, by omega⟩]
      · refine g_call0 (sp_Net_settle hI hi ?_)
        simp (disch := first | omega | simp (disch := omega) only [sA_ne, sA_self]) only [st_Net_go, j_k, List.mem_cons, List.not_mem_nil, or_false, or_self, if_false, if_true, ↓reduceIte, List.getElem?_cons_zero, List.getElem?_cons_succ, List.set_cons_zero, List.set_cons_succ, List.length_cons, List.length_nil, g_ld_s, g_v_s, g_ob_s, g_ia_s, g_la_s, g_qa_s, g_al_s, t_i_s, t_a_r, t_a_n, t_a_q, t_l_s, true_and, and_true, and_self, true_or, or_true, Decidable.not_not, not_true_eq_false, not_false_eq_true, false_implies, true_implies, implies_true, j_ok1_s, j_isL, j_cat_i, j_cat_l, j_cat_r, j_cat_n, j_rf_cat, j_rf_some, j_rf_none, k_w8_0, k_w8_i, k_w8_r, k_w8_l, k_sum0, k_ints, k_nari, k_narz0, k_narz1, k_okv0, k_okv1, k_okv2, k_okv2n, k_okv3, Option.toList_some, Option.toList_none, List.cons_append, List.nil_append, List.append_nil, List.map_cons, List.map_nil, List.sum_cons, List.sum_nil, Nat.add_zero, Nat.zero_add, Nat.reduceAdd, Nat.reduceMul, Nat.reduceSub, Nat.reduceDiv, Nat.reduceMod, Nat.reduceLT, Nat.reduceLeDiff, Nat.reduceEqDiff, Nat.reduceBEq, Nat.reduceBNe, Nat.one_ne_zero, Nat.zero_ne_one, Nat.succ_ne_self, Nat.le_refl, Nat.sub_self, Nat.sub_zero, Nat.zero_le, reduceCtorEq, eq_self, Bool.false_eq_true, pk_mul, nI_add, k_in, nI_clamp, nI_eq, nI_ltI, nI_leI, k_upd, k_eq0, k_lt0, k_0le, k_0lt, k_le0, k_mod]
        refine fin 3 (by decide) (by decide) ?_
        rw [hfa, if_pos c]
  · rw [if_neg c] at h
    simp (disch := first | omega | simp (disch := omega) only [sA_ne, sA_self]) only [st_Net_go, j_k, List.mem_cons, List.not_mem_nil, or_false, or_self, if_false, if_true, ↓reduceIte, List.getElem?_cons_zero, List.getElem?_cons_succ, List.set_cons_zero, List.set_cons_succ, List.length_cons, List.length_nil, g_ld_s, g_v_s, g_ob_s, g_ia_s, g_la_s, g_qa_s, g_al_s, t_i_s, t_a_r, t_a_n, t_a_q, t_l_s, true_and, and_true, and_self, true_or, or_true, Decidable.not_not, not_true_eq_false, not_false_eq_true, false_implies, true_implies, implies_true, j_ok1_s, j_isL, j_cat_i, j_cat_l, j_cat_r, j_cat_n, j_rf_cat, j_rf_some, j_rf_none, k_w8_0, k_w8_i, k_w8_r, k_w8_l, k_sum0, k_ints, k_nari, k_narz0, k_narz1, k_okv0, k_okv1, k_okv2, k_okv2n, k_okv3, Option.toList_some, Option.toList_none, List.cons_append, List.nil_append, List.append_nil, List.map_cons, List.map_nil, List.sum_cons, List.sum_nil, Nat.add_zero, Nat.zero_add, Nat.reduceAdd, Nat.reduceMul, Nat.reduceSub, Nat.reduceDiv, Nat.reduceMod, Nat.reduceLT, Nat.reduceLeDiff, Nat.reduceEqDiff, Nat.reduceBEq, Nat.reduceBNe, Nat.one_ne_zero, Nat.zero_ne_one, Nat.succ_ne_self, Nat.le_refl, Nat.sub_self, Nat.sub_zero, Nat.zero_le, reduceCtorEq, eq_self, Bool.false_eq_true, pk_mul, nI_add, k_in, nI_clamp, nI_eq, nI_ltI, nI_leI, k_upd, k_eq0, k_lt0, k_0le, k_0lt, k_le0, k_mod]
    exact h B A ad hB hI rfl
