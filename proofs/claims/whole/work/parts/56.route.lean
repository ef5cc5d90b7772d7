/-! THE CLASS: findEnd, firstLinkToward, findRoute, route, distance -/
/-- the best origin so far, with its prefix' length and its distance -/
def cBe (S : Nat → Nat → Nat) (ro x o : Nat) (en lo : Int32) : Prop := (rBst S ro x o = none ∧ en = -3 ∧ lo = -1) ∨ ∃ e n f, rBst S ro x o = some (e, 1000 * n + 999 - f) ∧ en = nI e ∧ lo = nI n ∧ e < o ∧ n ≤ 8 ∧ f ≤ 400 ∧ rDs S ro ro e = some f
theorem k_m3 {e : Nat} (h : e < 2 ^ 31) : ¬ nI e = -3 := by
  intro q
  have := congrArg Int32.toInt q
  rw [nI_toInt h] at this
  have e : ((-3 : Int32)).toInt = -3 := by decide
  omega
theorem k_m1 {e : Nat} (h : e < 2 ^ 31) : ¬ nI e = -1 := by
  intro q
  have := congrArg Int32.toInt q
  rw [nI_toInt h] at this
  have e : ((-1 : Int32)).toInt = -1 := by decide
  omega
theorem k_m1lt' {e : Nat} (h : e < 2 ^ 31) : (-1 : Int32) < nI e := by
  rw [Int32.lt_iff_toInt_lt, nI_toInt h]
  have e : ((-1 : Int32)).toInt = -1 := by decide
  omega
theorem k_ltm1 {e : Nat} (h : e < 2 ^ 31) : ¬ nI e < (-1 : Int32) := by
  rw [Int32.lt_iff_toInt_lt, nI_toInt h]
  have e : ((-1 : Int32)).toInt = -1 := by decide
  omega
set_option maxHeartbeats 4000000 in
set_option maxRecDepth 100000 in
theorem sp_Chart_findEnd {S X : Nat → Nat → Nat} {B : Nat → Nat → Int64} {A : Nat → Nat → Int32} {ad : Nat → Nat → Nat} {ro x : Nat} {post : Option Value → jW → Prop} (hI : n_inj (cAl S) ad) (hS : rLk S) (h13 : ∀ i, S 13 i / 16 ≤ 255) (hC : cI S X) (hr : ro < 8) (hx : x ≤ 255) (hA : ∀ j, j < 8 → A 15 j = nI (eN (rDs S ro ro j))) (h : post (some (.int (match rEnd S ro x with | none => -3 | some e => nI e))) (cW S X B A ad)) : j_sem m_Chart_findEnd [.ref (ad 14 0), .ref (ad 4 ro), .int (nI x)] (cW S X B A ad) 0 0 post := by
  refine j_sem_of (by decide +kernel) (Nat.le_of_ble_eq_true rfl) ?_
  show j_S _ _ 0 [some (.ref (ad 14 0)), some (.ref (ad 4 ro)), some (.int (nI x)), none, none, none, none, none] [] _ 0 0
  have hK := hS.1
  have head : ∀ d o en lo Y Z, o + d = 8 → cBe S ro x o en lo → j_S m_Chart_findEnd post 9 [some (.ref (ad 14 0)), some (.ref (ad 4 ro)), some (.int (nI x)), some (.int en), some (.int lo), some (.int (nI o)), Y, Z] [] (cW S X B A ad) 0 0 := by
    intro d
    induction d with
    | zero =>
      intro o en lo Y Z e hB
      have eo : o = 8 := by omega
      subst eo
      refine j_runs [] ok_Chart_findEnd 12 ?_
      simp (disch := first | omega | simp (disch := omega) only [sA_ne, sA_self]) only [st_Chart_findEnd, k_len, cg4 hI hr, j_k, List.mem_cons, List.not_mem_nil, or_false, or_self, if_false, if_true, ↓reduceIte, List.getElem?_cons_zero, List.getElem?_cons_succ, List.set_cons_zero, List.set_cons_succ, List.length_cons, List.length_nil, g_ld_s, g_v_s, g_ob_s, g_ia_s, g_la_s, g_qa_s, g_al_s, t_i_s, t_a_r, t_a_n, t_a_q, t_l_s, true_and, and_true, and_self, true_or, or_true, Decidable.not_not, not_true_eq_false, not_false_eq_true, false_implies, true_implies, implies_true, j_ok1_s, j_isL, j_cat_i, j_cat_l, j_cat_r, j_cat_n, j_rf_cat, j_rf_some, j_rf_none, k_w8_0, k_w8_i, k_w8_r, k_w8_l, k_sum0, k_ints, k_nari, k_narz0, k_narz1, k_okv0, k_okv1, k_okv2, k_okv2n, k_okv3, Option.toList_some, Option.toList_none, List.cons_append, List.nil_append, List.append_nil, List.map_cons, List.map_nil, List.sum_cons, List.sum_nil, Nat.add_zero, Nat.zero_add, Nat.reduceAdd, Nat.reduceMul, Nat.reduceSub, Nat.reduceDiv, Nat.reduceMod, Nat.reduceLT, Nat.reduceLeDiff, Nat.reduceEqDiff, Nat.reduceBEq, Nat.reduceBNe, Nat.one_ne_zero, Nat.zero_ne_one, Nat.succ_ne_self, Nat.le_refl, Nat.sub_self, Nat.sub_zero, Nat.zero_le, reduceCtorEq, eq_self, Bool.false_eq_true, pk_mul, nI_add, k_in, nI_clamp, nI_eq, nI_ltI, nI_leI, k_upd, k_eq0, k_lt0, k_0le, k_0lt, k_le0, k_mod]
      unfold rEnd at h
      rcases hB with ⟨h1, rfl, -⟩ | ⟨e, n, f, h1, rfl, -⟩
      · rw [h1] at h; exact h
      · rw [h1] at h; exact h
    | succ d ih =>
      intro o en lo Y Z e hB
      have ho : o < 8 := by omega
      have next : ∀ en lo Y Z, cBe S ro x (o + 1) en lo → j_S m_Chart_findEnd post 103 [some (.ref (ad 14 0)), some (.ref (ad 4 ro)), some (.int (nI x)), some (.int en), some (.int lo), some (.int (nI o)), Y, Z] [] (cW S X B A ad) 0 0 := by
        intro en lo Y Z hB
        refine j_runs [9] ok_Chart_findEnd 8 ?_
        simp (disch := first | omega | simp (disch := omega) only [sA_ne, sA_self]) only [st_Chart_findEnd, j_k, List.mem_cons, List.not_mem_nil, or_false, or_self, if_false, if_true, ↓reduceIte, List.getElem?_cons_zero, List.getElem?_cons_succ, List.set_cons_zero, List.set_cons_succ, List.length_cons, List.length_nil, g_ld_s, g_v_s, g_ob_s, g_ia_s, g_la_s, g_qa_s, g_al_s, t_i_s, t_a_r, t_a_n, t_a_q, t_l_s, true_and, and_true, and_self, true_or, or_true, Decidable.not_not, not_true_eq_false, not_false_eq_true, false_implies, true_implies, implies_true, j_ok1_s, j_isL, j_cat_i, j_cat_l, j_cat_r, j_cat_n, j_rf_cat, j_rf_some, j_rf_none, k_w8_0, k_w8_i, k_w8_r, k_w8_l, k_sum0, k_ints, k_nari, k_narz0, k_narz1, k_okv0, k_okv1, k_okv2, k_okv2n, k_okv3, Option.toList_some, Option.toList_none, List.cons_append, List.nil_append, List.append_nil, List.map_cons, List.map_nil, List.sum_cons, List.sum_nil, Nat.add_zero, Nat.zero_add, Nat.reduceAdd, Nat.reduceMul, Nat.reduceSub, Nat.reduceDiv, Nat.reduceMod, Nat.reduceLT, Nat.reduceLeDiff, Nat.reduceEqDiff, Nat.reduceBEq, Nat.reduceBNe, Nat.one_ne_zero, Nat.zero_ne_one, Nat.succ_ne_self, Nat.le_refl, Nat.sub_self, Nat.sub_zero, Nat.zero_le, reduceCtorEq, eq_self, Bool.false_eq_true, pk_mul, nI_add, k_in, nI_clamp, nI_eq, nI_ltI, nI_leI, k_upd, k_eq0, k_lt0, k_0le, k_0lt, k_le0, k_mod]
        exact ih (o + 1) en lo Y Z (by omega) hB
      have same : rCd S ro x o = none → cBe S ro x (o + 1) en lo := by
        intro hc
        have e : rBst S ro x (o + 1) = rBst S ro x o := by
          conv => lhs; unfold rBst
          rw [hc]
        unfold cBe
        rw [e]
        rcases hB with hB | ⟨e, n, f, h1, h2, h3, h4, h5⟩
        · exact Or.inl hB
        · exact Or.inr ⟨e, n, f, h1, h2, h3, by omega, h5⟩
      have ao := hA o ho
      by_cases ca : S 15 (8 * ro + o) = 0
      · have en' : cAds 8 (fun j => S 15 (8 * ro + j)) (ad 18) o = none := cAds_0 ca
        have hc : rCd S ro x o = none := if_pos ca
        refine j_runs [103] ok_Chart_findEnd 12 ?_
        simp (disch := first | omega | simp (disch := omega) only [sA_ne, sA_self]) only [st_Chart_findEnd, k_len, cg4 hI hr, en', j_k, List.mem_cons, List.not_mem_nil, or_false, or_self, if_false, if_true, ↓reduceIte, List.getElem?_cons_zero, List.getElem?_cons_succ, List.set_cons_zero, List.set_cons_succ, List.length_cons, List.length_nil, g_ld_s, g_v_s, g_ob_s, g_ia_s, g_la_s, g_qa_s, g_al_s, t_i_s, t_a_r, t_a_n, t_a_q, t_l_s, true_and, and_true, and_self, true_or, or_true, Decidable.not_not, not_true_eq_false, not_false_eq_true, false_implies, true_implies, implies_true, j_ok1_s, j_isL, j_cat_i, j_cat_l, j_cat_r, j_cat_n, j_rf_cat, j_rf_some, j_rf_none, k_w8_0, k_w8_i, k_w8_r, k_w8_l, k_sum0, k_ints, k_nari, k_narz0, k_narz1, k_okv0, k_okv1, k_okv2, k_okv2n, k_okv3, Option.toList_some, Option.toList_none, List.cons_append, List.nil_append, List.append_nil, List.map_cons, List.map_nil, List.sum_cons, List.sum_nil, Nat.add_zero, Nat.zero_add, Nat.reduceAdd, Nat.reduceMul, Nat.reduceSub, Nat.reduceDiv, Nat.reduceMod, Nat.reduceLT, Nat.reduceLeDiff, Nat.reduceEqDiff, Nat.reduceBEq, Nat.reduceBNe, Nat.one_ne_zero, Nat.zero_ne_one, Nat.succ_ne_self, Nat.le_refl, Nat.sub_self, Nat.sub_zero, Nat.zero_le, reduceCtorEq, eq_self, Bool.false_eq_true, pk_mul, nI_add, k_in, nI_clamp, nI_eq, nI_ltI, nI_leI, k_upd, k_eq0, k_lt0, k_0le, k_0lt, k_le0, k_mod]
        refine ⟨fun c => absurd c (by omega), fun _ => ?_⟩
        exact next en lo _ _ (same hc)
      · have en' : cAds 8 (fun j => S 15 (8 * ro + j)) (ad 18) o = some (ad 18 (S 15 (8 * ro + o))) := cAds_1 ho ca
        have p1 : 1 ≤ S 15 (8 * ro + o) := by omega
        have p2 := hC.2.2.2.1 (8 * ro + o)
        cases hd : rDs S ro ro o with
        | none =>
          have hc : rCd S ro x o = none := by
            unfold rCd
            rw [if_neg ca, hd]
          have ea : A 15 o = nI 1000000 := by rw [ao, hd]; rfl
          refine j_runs [103] ok_Chart_findEnd 20 ?_
          simp (disch := first | omega | simp (disch := omega) only [sA_ne, sA_self]) only [st_Chart_findEnd, k_len, cg4 hI hr, en', cg14 hI, cg15 hI, ea, j_k, List.mem_cons, List.not_mem_nil, or_false, or_self, if_false, if_true, ↓reduceIte, List.getElem?_cons_zero, List.getElem?_cons_succ, List.set_cons_zero, List.set_cons_succ, List.length_cons, List.length_nil, g_ld_s, g_v_s, g_ob_s, g_ia_s, g_la_s, g_qa_s, g_al_s, t_i_s, t_a_r, t_a_n, t_a_q, t_l_s, true_and, and_true, and_self, true_or, or_true, Decidable.not_not, not_true_eq_false, not_false_eq_true, false_implies, true_implies, implies_true, j_ok1_s, j_isL, j_cat_i, j_cat_l, j_cat_r, j_cat_n, j_rf_cat, j_rf_some, j_rf_none, k_w8_0, k_w8_i, k_w8_r, k_w8_l, k_sum0, k_ints, k_nari, k_narz0, k_narz1, k_okv0, k_okv1, k_okv2, k_okv2n, k_okv3, Option.toList_some, Option.toList_none, List.cons_append, List.nil_append, List.append_nil, List.map_cons, List.map_nil, List.sum_cons, List.sum_nil, Nat.add_zero, Nat.zero_add, Nat.reduceAdd, Nat.reduceMul, Nat.reduceSub, Nat.reduceDiv, Nat.reduceMod, Nat.reduceLT, Nat.reduceLeDiff, Nat.reduceEqDiff, Nat.reduceBEq, Nat.reduceBNe, Nat.one_ne_zero, Nat.zero_ne_one, Nat.succ_ne_self, Nat.le_refl, Nat.sub_self, Nat.sub_zero, Nat.zero_le, reduceCtorEq, eq_self, Bool.false_eq_true, pk_mul, nI_add, k_in, nI_clamp, nI_eq, nI_ltI, nI_leI, k_upd, k_eq0, k_lt0, k_0le, k_0lt, k_le0, k_mod]
          refine ⟨fun c => absurd c (by omega), fun _ => ?_⟩
          exact next en lo _ _ (same hc)
        | some f =>
          have bf := rDs_le hS hr hd
          have ea : A 15 o = nI f := by rw [ao, hd]; rfl
          have nf : ¬ f = 1000000 := by omega
          refine j_runs [103] ok_Chart_findEnd 60 ?_
          simp (disch := first | omega | simp (disch := omega) only [sA_ne, sA_self]) only [st_Chart_findEnd, k_len, cg4 hI hr, en', cg14 hI, cg15 hI, cg18 hI p1 p2, ea, nf, j_k, List.mem_cons, List.not_mem_nil, or_false, or_self, if_false, if_true, ↓reduceIte, List.getElem?_cons_zero, List.getElem?_cons_succ, List.set_cons_zero, List.set_cons_succ, List.length_cons, List.length_nil, g_ld_s, g_v_s, g_ob_s, g_ia_s, g_la_s, g_qa_s, g_al_s, t_i_s, t_a_r, t_a_n, t_a_q, t_l_s, true_and, and_true, and_self, true_or, or_true, Decidable.not_not, not_true_eq_false, not_false_eq_true, false_implies, true_implies, implies_true, j_ok1_s, j_isL, j_cat_i, j_cat_l, j_cat_r, j_cat_n, j_rf_cat, j_rf_some, j_rf_none, k_w8_0, k_w8_i, k_w8_r, k_w8_l, k_sum0, k_ints, k_nari, k_narz0, k_narz1, k_okv0, k_okv1, k_okv2, k_okv2n, k_okv3, Option.toList_some, Option.toList_none, List.cons_append, List.nil_append, List.append_nil, List.map_cons, List.map_nil, List.sum_cons, List.sum_nil, Nat.add_zero, Nat.zero_add, Nat.reduceAdd, Nat.reduceMul, Nat.reduceSub, Nat.reduceDiv, Nat.reduceMod, Nat.reduceLT, Nat.reduceLeDiff, Nat.reduceEqDiff, Nat.reduceBEq, Nat.reduceBNe, Nat.one_ne_zero, Nat.zero_ne_one, Nat.succ_ne_self, Nat.le_refl, Nat.sub_self, Nat.sub_zero, Nat.zero_le, reduceCtorEq, eq_self, Bool.false_eq_true, pk_mul, nI_add, k_in, nI_clamp, nI_eq, nI_ltI, nI_leI, k_upd, k_eq0, k_lt0, k_0le, k_0lt, k_le0, k_mod]
          refine ⟨fun c => absurd c (by omega), fun _ => ?_⟩
          refine g_call0 (sp_Advert_longestMatch hI hS h13 p1 p2 hx ?_)
          cases hm : rLg S (S 15 (8 * ro + o)) x (S 12 (S 15 (8 * ro + o))) with
          | none =>
            have hc : rCd S ro x o = none := by
              unfold rCd
              rw [if_neg ca, hd]
              dsimp only
              rw [hm]
            have em : oI (none : Option Nat) = -1 := rfl
            have nm : ¬ (-1 : Int32) < -1 := by decide
            rcases hB with ⟨h1, rfl, rfl⟩ | ⟨e, n, g, h1, rfl, rfl, h4, h5, h6, h7⟩
            · simp (disch := first | omega | simp (disch := omega) only [sA_ne, sA_self]) only [st_Chart_findEnd, cg14 hI, cg15 hI, em, nm, j_k, List.mem_cons, List.not_mem_nil, or_false, or_self, if_false, if_true, ↓reduceIte, List.getElem?_cons_zero, List.getElem?_cons_succ, List.set_cons_zero, List.set_cons_succ, List.length_cons, List.length_nil, g_ld_s, g_v_s, g_ob_s, g_ia_s, g_la_s, g_qa_s, g_al_s, t_i_s, t_a_r, t_a_n, t_a_q, t_l_s, true_and, and_true, and_self, true_or, or_true, Decidable.not_not, not_true_eq_false, not_false_eq_true, false_implies, true_implies, implies_true, j_ok1_s, j_isL, j_cat_i, j_cat_l, j_cat_r, j_cat_n, j_rf_cat, j_rf_some, j_rf_none, k_w8_0, k_w8_i, k_w8_r, k_w8_l, k_sum0, k_ints, k_nari, k_narz0, k_narz1, k_okv0, k_okv1, k_okv2, k_okv2n, k_okv3, Option.toList_some, Option.toList_none, List.cons_append, List.nil_append, List.append_nil, List.map_cons, List.map_nil, List.sum_cons, List.sum_nil, Nat.add_zero, Nat.zero_add, Nat.reduceAdd, Nat.reduceMul, Nat.reduceSub, Nat.reduceDiv, Nat.reduceMod, Nat.reduceLT, Nat.reduceLeDiff, Nat.reduceEqDiff, Nat.reduceBEq, Nat.reduceBNe, Nat.one_ne_zero, Nat.zero_ne_one, Nat.succ_ne_self, Nat.le_refl, Nat.sub_self, Nat.sub_zero, Nat.zero_le, reduceCtorEq, eq_self, Bool.false_eq_true, pk_mul, nI_add, k_in, nI_clamp, nI_eq, nI_ltI, nI_leI, k_upd, k_eq0, k_lt0, k_0le, k_0lt, k_le0, k_mod]
              exact next _ _ _ _ (same hc)
            · have n1 : ¬ (-1 : Int32) = nI n := fun q => k_m1 (by omega) q.symm
              have n2 : ¬ nI n < (-1 : Int32) := k_ltm1 (by omega)
              have n3 : ¬ nI e = -3 := k_m3 (by omega)
              simp (disch := first | omega | simp (disch := omega) only [sA_ne, sA_self]) only [st_Chart_findEnd, cg14 hI, cg15 hI, em, n1, n2, n3, j_k, List.mem_cons, List.not_mem_nil, or_false, or_self, if_false, if_true, ↓reduceIte, List.getElem?_cons_zero, List.getElem?_cons_succ, List.set_cons_zero, List.set_cons_succ, List.length_cons, List.length_nil, g_ld_s, g_v_s, g_ob_s, g_ia_s, g_la_s, g_qa_s, g_al_s, t_i_s, t_a_r, t_a_n, t_a_q, t_l_s, true_and, and_true, and_self, true_or, or_true, Decidable.not_not, not_true_eq_false, not_false_eq_true, false_implies, true_implies, implies_true, j_ok1_s, j_isL, j_cat_i, j_cat_l, j_cat_r, j_cat_n, j_rf_cat, j_rf_some, j_rf_none, k_w8_0, k_w8_i, k_w8_r, k_w8_l, k_sum0, k_ints, k_nari, k_narz0, k_narz1, k_okv0, k_okv1, k_okv2, k_okv2n, k_okv3, Option.toList_some, Option.toList_none, List.cons_append, List.nil_append, List.append_nil, List.map_cons, List.map_nil, List.sum_cons, List.sum_nil, Nat.add_zero, Nat.zero_add, Nat.reduceAdd, Nat.reduceMul, Nat.reduceSub, Nat.reduceDiv, Nat.reduceMod, Nat.reduceLT, Nat.reduceLeDiff, Nat.reduceEqDiff, Nat.reduceBEq, Nat.reduceBNe, Nat.one_ne_zero, Nat.zero_ne_one, Nat.succ_ne_self, Nat.le_refl, Nat.sub_self, Nat.sub_zero, Nat.zero_le, reduceCtorEq, eq_self, Bool.false_eq_true, pk_mul, nI_add, k_in, nI_clamp, nI_eq, nI_ltI, nI_leI, k_upd, k_eq0, k_lt0, k_0le, k_0lt, k_le0, k_mod]
              exact next _ _ _ _ (same hc)
          | some m =>
            have bm := rLg_le hS _ m hm
            have hc : rCd S ro x o = some (1000 * m + 999 - f) := by
              unfold rCd
              rw [if_neg ca, hd]
              dsimp only
              rw [hm]
            have em : oI (some m) = nI m := rfl
            have take : (∀ q, rBst S ro x o = some q → q.2 < 1000 * m + 999 - f) → cBe S ro x (o + 1) (nI o) (nI m) := by
              intro hq
              refine Or.inr ⟨o, m, f, ?_, rfl, rfl, by omega, bm, bf, hd⟩
              conv => lhs; unfold rBst
              rw [hc]
              dsimp only
              cases hb : rBst S ro x o with
              | none => rfl
              | some q => dsimp only; rw [if_pos (hq q hb)]
            rcases hB with ⟨h1, rfl, rfl⟩ | ⟨e, n, g, h1, rfl, rfl, h4, h5, h6, h7⟩
            · have n2 : (-1 : Int32) < nI m := k_m1lt' (by omega)
              simp (disch := first | omega | simp (disch := omega) only [sA_ne, sA_self]) only [st_Chart_findEnd, cg14 hI, cg15 hI, em, n2, j_k, List.mem_cons, List.not_mem_nil, or_false, or_self, if_false, if_true, ↓reduceIte, List.getElem?_cons_zero, List.getElem?_cons_succ, List.set_cons_zero, List.set_cons_succ, List.length_cons, List.length_nil, g_ld_s, g_v_s, g_ob_s, g_ia_s, g_la_s, g_qa_s, g_al_s, t_i_s, t_a_r, t_a_n, t_a_q, t_l_s, true_and, and_true, and_self, true_or, or_true, Decidable.not_not, not_true_eq_false, not_false_eq_true, false_implies, true_implies, implies_true, j_ok1_s, j_isL, j_cat_i, j_cat_l, j_cat_r, j_cat_n, j_rf_cat, j_rf_some, j_rf_none, k_w8_0, k_w8_i, k_w8_r, k_w8_l, k_sum0, k_ints, k_nari, k_narz0, k_narz1, k_okv0, k_okv1, k_okv2, k_okv2n, k_okv3, Option.toList_some, Option.toList_none, List.cons_append, List.nil_append, List.append_nil, List.map_cons, List.map_nil, List.sum_cons, List.sum_nil, Nat.add_zero, Nat.zero_add, Nat.reduceAdd, Nat.reduceMul, Nat.reduceSub, Nat.reduceDiv, Nat.reduceMod, Nat.reduceLT, Nat.reduceLeDiff, Nat.reduceEqDiff, Nat.reduceBEq, Nat.reduceBNe, Nat.one_ne_zero, Nat.zero_ne_one, Nat.succ_ne_self, Nat.le_refl, Nat.sub_self, Nat.sub_zero, Nat.zero_le, reduceCtorEq, eq_self, Bool.false_eq_true, pk_mul, nI_add, k_in, nI_clamp, nI_eq, nI_ltI, nI_leI, k_upd, k_eq0, k_lt0, k_0le, k_0lt, k_le0, k_mod]
              refine next _ _ _ _ (take (fun q hq => ?_))
              rw [h1] at hq
              cases hq
            · have n3 : ¬ nI e = -3 := k_m3 (by omega)
              have eg : A 15 e = nI g := by rw [hA e (by omega), h7]; rfl
              have keep : ¬ (1000 * n + 999 - g < 1000 * m + 999 - f) → cBe S ro x (o + 1) (nI e) (nI n) := by
                intro hq
                refine Or.inr ⟨e, n, g, ?_, rfl, rfl, by omega, h5, h6, h7⟩
                conv => lhs; unfold rBst
                rw [hc, h1]
                dsimp only
                rw [if_neg hq]
              have take2 : 1000 * n + 999 - g < 1000 * m + 999 - f → cBe S ro x (o + 1) (nI o) (nI m) := by
                intro hq
                refine take (fun q hq' => ?_)
                rw [h1] at hq'
                cases hq'
                exact hq
              simp (disch := first | omega | simp (disch := omega) only [sA_ne, sA_self]) only [st_Chart_findEnd, cg14 hI, cg15 hI, em, n3, ea, eg, j_k, List.mem_cons, List.not_mem_nil, or_false, or_self, if_false, if_true, ↓reduceIte, List.getElem?_cons_zero, List.getElem?_cons_succ, List.set_cons_zero, List.set_cons_succ, List.length_cons, List.length_nil, g_ld_s, g_v_s, g_ob_s, g_ia_s, g_la_s, g_qa_s, g_al_s, t_i_s, t_a_r, t_a_n, t_a_q, t_l_s, true_and, and_true, and_self, true_or, or_true, Decidable.not_not, not_true_eq_false, not_false_eq_true, false_implies, true_implies, implies_true, j_ok1_s, j_isL, j_cat_i, j_cat_l, j_cat_r, j_cat_n, j_rf_cat, j_rf_some, j_rf_none, k_w8_0, k_w8_i, k_w8_r, k_w8_l, k_sum0, k_ints, k_nari, k_narz0, k_narz1, k_okv0, k_okv1, k_okv2, k_okv2n, k_okv3, Option.toList_some, Option.toList_none, List.cons_append, List.nil_append, List.append_nil, List.map_cons, List.map_nil, List.sum_cons, List.sum_nil, Nat.add_zero, Nat.zero_add, Nat.reduceAdd, Nat.reduceMul, Nat.reduceSub, Nat.reduceDiv, Nat.reduceMod, Nat.reduceLT, Nat.reduceLeDiff, Nat.reduceEqDiff, Nat.reduceBEq, Nat.reduceBNe, Nat.one_ne_zero, Nat.zero_ne_one, Nat.succ_ne_self, Nat.le_refl, Nat.sub_self, Nat.sub_zero, Nat.zero_le, reduceCtorEq, eq_self, Bool.false_eq_true, pk_mul, nI_add, k_in, nI_clamp, nI_eq, nI_ltI, nI_leI, k_upd, k_eq0, k_lt0, k_0le, k_0lt, k_le0, k_mod]
              refine ⟨fun c => ⟨fun c2 => next _ _ _ _ (take2 (by omega)), fun c2 => next _ _ _ _ (keep (by omega))⟩, fun c => ⟨fun c2 => ⟨fun c3 => next _ _ _ _ (take2 (by omega)), fun c3 => next _ _ _ _ (keep (by omega))⟩, fun c2 => ?_⟩⟩
              first
                | exact next _ _ _ _ (take2 (by omega))
                | exact ⟨fun c3 => next _ _ _ _ (take2 (by omega)), fun c3 => next _ _ _ _ (take2 (by omega))⟩
  refine j_runs [9] ok_Chart_findEnd 8 ?_
  simp (disch := first | omega | simp (disch := omega) only [sA_ne, sA_self]) only [st_Chart_findEnd, j_k, List.mem_cons, List.not_mem_nil, or_false, or_self, if_false, if_true, ↓reduceIte, List.getElem?_cons_zero, List.getElem?_cons_succ, List.set_cons_zero, List.set_cons_succ, List.length_cons, List.length_nil, g_ld_s, g_v_s, g_ob_s, g_ia_s, g_la_s, g_qa_s, g_al_s, t_i_s, t_a_r, t_a_n, t_a_q, t_l_s, true_and, and_true, and_self, true_or, or_true, Decidable.not_not, not_true_eq_false, not_false_eq_true, false_implies, true_implies, implies_true, j_ok1_s, j_isL, j_cat_i, j_cat_l, j_cat_r, j_cat_n, j_rf_cat, j_rf_some, j_rf_none, k_w8_0, k_w8_i, k_w8_r, k_w8_l, k_sum0, k_ints, k_nari, k_narz0, k_narz1, k_okv0, k_okv1, k_okv2, k_okv2n, k_okv3, Option.toList_some, Option.toList_none, List.cons_append, List.nil_append, List.append_nil, List.map_cons, List.map_nil, List.sum_cons, List.sum_nil, Nat.add_zero, Nat.zero_add, Nat.reduceAdd, Nat.reduceMul, Nat.reduceSub, Nat.reduceDiv, Nat.reduceMod, Nat.reduceLT, Nat.reduceLeDiff, Nat.reduceEqDiff, Nat.reduceBEq, Nat.reduceBNe, Nat.one_ne_zero, Nat.zero_ne_one, Nat.succ_ne_self, Nat.le_refl, Nat.sub_self, Nat.sub_zero, Nat.zero_le, reduceCtorEq, eq_self, Bool.false_eq_true]
  exact head 8 0 (-3) (-1) none none rfl (Or.inl ⟨rfl, rfl, rfl⟩)
