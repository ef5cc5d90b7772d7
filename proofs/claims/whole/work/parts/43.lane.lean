/-! THE CLASS'S RINGS hold what the reference's rows hold -/
def cI (S X : Nat → Nat → Nat) : Prop := (∀ q, X 0 q < 20) ∧ (∀ q k, k < S 16 q → X 1 (20 * q + (X 0 q + k) % 20) = S 17 (20 * q + k) ∧ 1 ≤ S 17 (20 * q + k)) ∧ (∀ i, X 1 i ≤ S 8 0) ∧ (∀ i, S 15 i ≤ S 8 0) ∧ (∀ l, S 1 0 ≤ l → S 5 l = 0) ∧ (∀ q, 2 * S 1 0 ≤ q → S 16 q = 0 ∧ X 0 q = 0 ∧ ∀ j, j < 20 → X 1 (20 * q + j) = 0)
theorem cI.congr {S S' X : Nat → Nat → Nat} (h : cI S X) (h1 : S' 1 = S 1) (h5 : S' 5 = S 5) (h8 : S' 8 = S 8) (h15 : S' 15 = S 15) (h16 : S' 16 = S 16) (h17 : S' 17 = S 17) : cI S' X := by
  unfold cI
  rw [h1, h5, h8, h15, h16, h17]
  exact h
theorem cI.put {S X : Nat → Nat → Nat} (h : cI S X) (hS : rOK S) {q a : Nat} (hq : q < 2 * S 1 0) (ha : 1 ≤ a) (ha' : a ≤ S 8 0) (hn : ¬ S 16 q = 20) : cI (rPutQ S q a) (sA X 1 (va_up (X 1) (20 * q + (X 0 q + S 16 q) % 20) a)) := by
  have h20 : S 16 q ≤ 20 := hS 16 q
  obtain ⟨h1, h2, h3, h4, h5, h6⟩ := h
  have e : rPutQ S q a = sA (sA S 17 (va_up (S 17) (20 * q + S 16 q) a)) 16 (va_up (S 16) q (S 16 q + 1)) := if_neg hn
  rw [e]
  refine ⟨h1, ?_, ?_, h4, h5, ?_⟩
  · intro q' k hk
    show va_up (X 1) (20 * q + (X 0 q + S 16 q) % 20) a (20 * q' + (X 0 q' + k) % 20) = va_up (S 17) (20 * q + S 16 q) a (20 * q' + k) ∧ 1 ≤ va_up (S 17) (20 * q + S 16 q) a (20 * q' + k)
    have hk : k < va_up (S 16) q (S 16 q + 1) q' := hk
    by_cases hqq : q' = q
    · subst hqq
      rw [va_up_self] at hk
      by_cases hkn : k = S 16 q'
      · subst hkn
        rw [va_up_self, va_up_self]
        exact ⟨rfl, ha⟩
      · rw [va_up_ne _ _ (by omega), va_up_ne _ _ (by omega)]
        exact h2 q' k (by omega)
    · rw [va_up_ne _ _ hqq] at hk
      have hk20 : S 16 q' ≤ 20 := hS 16 q'
      rw [va_up_ne _ _ (by omega), va_up_ne _ _ (by omega)]
      exact h2 q' k hk
  · intro i
    show va_up (X 1) (20 * q + (X 0 q + S 16 q) % 20) a i ≤ S 8 0
    unfold va_up
    split
    · exact ha'
    · exact h3 i
  · intro q' hq'
    have hq' : 2 * S 1 0 ≤ q' := hq'
    obtain ⟨g1, g2, g3⟩ := h6 q' hq'
    refine ⟨?_, g2, fun j hj => ?_⟩
    · show va_up (S 16) q (S 16 q + 1) q' = 0
      rw [va_up_ne _ _ (by omega)]
      exact g1
    · show va_up (X 1) (20 * q + (X 0 q + S 16 q) % 20) a (20 * q' + j) = 0
      rw [va_up_ne _ _ (by omega)]
      exact g3 j hj
set_option maxHeartbeats 4000000 in
set_option maxRecDepth 100000 in
theorem sp_c_put {S X : Nat → Nat → Nat} {B : Nat → Nat → Int64} {A : Nat → Nat → Int32} {ad : Nat → Nat → Nat} {q a : Nat} {post : Option Value → jW → Prop} (hI : n_inj (cAl S) ad) (hS : rOK S) (hC : cI S X) (hq : q < 2 * S 1 0) (ha : 1 ≤ a) (ha' : a ≤ S 8 0) (h : ∀ X', cI (rPutQ S q a) X' → post none (cW (rPutQ S q a) X' B A ad)) : j_sem m_Lane_put [.ref (ad 7 q), .ref (ad 18 a)] (cW S X B A ad) 0 0 post := by
  have h20 : S 16 q ≤ 20 := hS 16 q
  refine sp_Lane_put (cg7 hI hq) (cg8 hI hq) (cg18 hI ha ha') (hC.1 q) h20 (fun c => ?_) (fun c => ?_)
  · have e : rPutQ S q a = S := if_pos c
    rw [e] at h
    exact h X hC
  · have hn : ¬ S 16 q = 20 := by omega
    have := h _ (hC.put hS hq ha ha' hn)
    rw [cp_ring hI hq (k_mod20 _) (by omega)]
    have e1 := cp_cnt (S := S) (X := sA X 1 (va_up (X 1) (20 * q + (X 0 q + S 16 q) % 20) a)) (B := B) (A := A) (i := q) (n := S 16 q + 1) hI hq
    rw [show (sA X 1 (va_up (X 1) (20 * q + (X 0 q + S 16 q) % 20) a)) 0 q = X 0 q from rfl] at e1
    rw [e1]
    have e2 : rPutQ S q a = sA (sA S 17 (va_up (S 17) (20 * q + S 16 q) a)) 16 (va_up (S 16) q (S 16 q + 1)) := if_neg hn
    rw [e2] at this
    rw [cW_congr (S' := sA (sA S 17 (va_up (S 17) (20 * q + S 16 q) a)) 16 (va_up (S 16) q (S 16 q + 1))) (S := sA S 16 (va_up (S 16) q (S 16 q + 1))) (cInj rfl rfl rfl rfl hI)]
    · exact this
    · intro z hz _
      by_cases h16 : z = 16
      · subst h16; rfl
      · rw [sA_ne _ _ h16, sA_ne _ _ h16, sA_ne _ _ hz]
set_option maxHeartbeats 4000000 in
set_option maxRecDepth 100000 in
theorem sp_Net_flood {S X : Nat → Nat → Nat} {B : Nat → Nat → Int64} {A : Nat → Nat → Int32} {ad : Nat → Nat → Nat} {r a b : Nat} {bI : Int32} {post : Option Value → jW → Prop} (hI : n_inj (cAl S) ad) (hS : rOK S) (hC : cI S X) (ha : 1 ≤ a) (ha' : a ≤ S 8 0) (hr : r < 8) (hb : ∀ l, l < 12 → (nI l = bI ↔ l = b)) (h : ∀ X', cI (rSpr S r a b (S 1 0)) X' → post none (cW (rSpr S r a b (S 1 0)) X' B A ad)) : j_sem m_Net_flood [.ref (ad 0 0), .int (nI r), .ref (ad 18 a), .int bI] (cW S X B A ad) 0 0 post := by
  refine j_sem_of (by decide +kernel) (Nat.le_of_ble_eq_true rfl) ?_
  show j_S _ _ 0 [some (.ref (ad 0 0)), some (.int (nI r)), some (.ref (ad 18 a)), some (.int bI), none] [] _ 0 0
  have hL : S 1 0 ≤ 12 := hS 1 0
  have h8 : S 8 0 ≤ 1029 := hS 8 0
  have e1 : ∀ l, rSpr S r a b l 1 = S 1 := rSpr_keeps (by decide) (by decide)
  have e2 : ∀ l, rSpr S r a b l 2 = S 2 := rSpr_keeps (by decide) (by decide)
  have e5 : ∀ l, rSpr S r a b l 5 = S 5 := rSpr_keeps (by decide) (by decide)
  have e8 : ∀ l, rSpr S r a b l 8 = S 8 := rSpr_keeps (by decide) (by decide)
  have e18 : ∀ l, rSpr S r a b l 18 = S 18 := rSpr_keeps (by decide) (by decide)
  have e22 : ∀ l, rSpr S r a b l 22 = S 22 := rSpr_keeps (by decide) (by decide)
  have head : ∀ d l X, l + d = S 1 0 → cI (rSpr S r a b l) X → j_S m_Net_flood post 3 [some (.ref (ad 0 0)), some (.int (nI r)), some (.ref (ad 18 a)), some (.int bI), some (.int (nI l))] [] (cW (rSpr S r a b l) X B A ad) 0 0 := by
    intro d
    induction d with
    | zero =>
      intro l X e hX
      have hI' : n_inj (cAl (rSpr S r a b l)) ad := cInj (by rw [e1]) (by rw [e8]) (by rw [e18]) (by rw [e22]) hI
      refine j_runs [3] ok_Net_flood 8 ?_
      simp (disch := first | omega | simp (disch := omega) only [sA_ne, sA_self]) only [st_Net_flood, cg0 hI', j_k, List.mem_cons, List.not_mem_nil, or_false, or_self, if_false, if_true, ↓reduceIte, List.getElem?_cons_zero, List.getElem?_cons_succ, List.set_cons_zero, List.set_cons_succ, List.length_cons, List.length_nil, g_ld_s, g_v_s, g_ob_s, g_ia_s, g_la_s, g_qa_s, g_al_s, t_i_s, t_a_r, t_a_n, t_a_q, t_l_s, true_and, and_true, and_self, true_or, or_true, Decidable.not_not, not_true_eq_false, not_false_eq_true, false_implies, true_implies, implies_true, j_ok1_s, j_isL, j_cat_i, j_cat_l, j_cat_r, j_cat_n, j_rf_cat, j_rf_some, j_rf_none, k_w8_0, k_w8_i, k_w8_r, k_w8_l, k_sum0, k_ints, k_nari, k_narz0, k_narz1, k_okv0, k_okv1, k_okv2, k_okv2n, k_okv3, Option.toList_some, Option.toList_none, List.cons_append, List.nil_append, List.append_nil, List.map_cons, List.map_nil, List.sum_cons, List.sum_nil, Nat.add_zero, Nat.zero_add, Nat.reduceAdd, Nat.reduceMul, Nat.reduceSub, Nat.reduceDiv, Nat.reduceMod, Nat.reduceLT, Nat.reduceLeDiff, Nat.reduceEqDiff, Nat.reduceBEq, Nat.reduceBNe, Nat.one_ne_zero, Nat.zero_ne_one, Nat.succ_ne_self, Nat.le_refl, Nat.sub_self, Nat.sub_zero, Nat.zero_le, reduceCtorEq, eq_self, Bool.false_eq_true, pk_mul, nI_add, k_in, nI_clamp, nI_eq, nI_ltI, nI_leI, k_upd, k_eq0, k_lt0, k_0le, k_0lt, k_le0, k_mod, e1]
      refine ⟨fun _ => ?_, fun c => absurd (by omega) c⟩
      rw [show l = S 1 0 by omega] at hX ⊢
      exact h X hX
    | succ d ih =>
      intro l X e hX
      have hI' : n_inj (cAl (rSpr S r a b l)) ad := cInj (by rw [e1]) (by rw [e8]) (by rw [e18]) (by rw [e22]) hI
      have hl : l < 12 := by omega
      have hl1 : l < S 1 0 := by omega
      have hl' : l < rSpr S r a b l 1 0 := by rw [e1]; omega
      have b2 : S 2 (2 * l) ≤ 7 := hS 2 _
      have b2' : S 2 (2 * l + 1) ≤ 7 := hS 2 _
      have b5' : S 5 l ≤ 1 := hS 5 l
      have hT := rSpr_ok (b := b) hS (show a ≤ 1029 by omega) (r := r) l
      have next : ∀ X, cI (rSpr S r a b (l + 1)) X → j_S m_Net_flood post 3 [some (.ref (ad 0 0)), some (.int (nI r)), some (.ref (ad 18 a)), some (.int bI), some (.int (nI (l + 1)))] [] (cW (rSpr S r a b (l + 1)) X B A ad) 0 0 := fun X => ih (l + 1) X (by omega)
      have skip : ¬ ((S 2 (2 * l) = r ∨ S 2 (2 * l + 1) = r) ∧ S 5 l = 1 ∧ l ≠ b) → j_S m_Net_flood post 60 [some (.ref (ad 0 0)), some (.int (nI r)), some (.ref (ad 18 a)), some (.int bI), some (.int (nI l))] [] (cW (rSpr S r a b l) X B A ad) 0 0 := by
        intro c
        refine j_runs [3] ok_Net_flood 8 ?_
        simp (disch := first | omega | simp (disch := omega) only [sA_ne, sA_self]) only [st_Net_flood, j_k, List.mem_cons, List.not_mem_nil, or_false, or_self, if_false, if_true, ↓reduceIte, List.getElem?_cons_zero, List.getElem?_cons_succ, List.set_cons_zero, List.set_cons_succ, List.length_cons, List.length_nil, g_ld_s, g_v_s, g_ob_s, g_ia_s, g_la_s, g_qa_s, g_al_s, t_i_s, t_a_r, t_a_n, t_a_q, t_l_s, true_and, and_true, and_self, true_or, or_true, Decidable.not_not, not_true_eq_false, not_false_eq_true, false_implies, true_implies, implies_true, j_ok1_s, j_isL, j_cat_i, j_cat_l, j_cat_r, j_cat_n, j_rf_cat, j_rf_some, j_rf_none, k_w8_0, k_w8_i, k_w8_r, k_w8_l, k_sum0, k_ints, k_nari, k_narz0, k_narz1, k_okv0, k_okv1, k_okv2, k_okv2n, k_okv3, Option.toList_some, Option.toList_none, List.cons_append, List.nil_append, List.append_nil, List.map_cons, List.map_nil, List.sum_cons, List.sum_nil, Nat.add_zero, Nat.zero_add, Nat.reduceAdd, Nat.reduceMul, Nat.reduceSub, Nat.reduceDiv, Nat.reduceMod, Nat.reduceLT, Nat.reduceLeDiff, Nat.reduceEqDiff, Nat.reduceBEq, Nat.reduceBNe, Nat.one_ne_zero, Nat.zero_ne_one, Nat.succ_ne_self, Nat.le_refl, Nat.sub_self, Nat.sub_zero, Nat.zero_le, reduceCtorEq, eq_self, Bool.false_eq_true, pk_mul, nI_add, k_in, nI_clamp, nI_eq, nI_ltI, nI_leI, k_upd, k_eq0, k_lt0, k_0le, k_0lt, k_le0, k_mod]
        have := next X
        unfold rSpr at this
        rw [if_neg c] at this
        exact this hX
      have g6 := cg6 (X := X) (B := B) (A := A) hI' hl'
      rw [e2, e5] at g6
      refine j_runs [60] ok_Net_flood 40 ?_
      simp (disch := first | omega | simp (disch := omega) only [sA_ne, sA_self]) only [st_Net_flood, cg0 hI', cg5 hI', g6, cRow_lt, j_k, List.mem_cons, List.not_mem_nil, or_false, or_self, if_false, if_true, ↓reduceIte, List.getElem?_cons_zero, List.getElem?_cons_succ, List.set_cons_zero, List.set_cons_succ, List.length_cons, List.length_nil, g_ld_s, g_v_s, g_ob_s, g_ia_s, g_la_s, g_qa_s, g_al_s, t_i_s, t_a_r, t_a_n, t_a_q, t_l_s, true_and, and_true, and_self, true_or, or_true, Decidable.not_not, not_true_eq_false, not_false_eq_true, false_implies, true_implies, implies_true, j_ok1_s, j_isL, j_cat_i, j_cat_l, j_cat_r, j_cat_n, j_rf_cat, j_rf_some, j_rf_none, k_w8_0, k_w8_i, k_w8_r, k_w8_l, k_sum0, k_ints, k_nari, k_narz0, k_narz1, k_okv0, k_okv1, k_okv2, k_okv2n, k_okv3, Option.toList_some, Option.toList_none, List.cons_append, List.nil_append, List.append_nil, List.map_cons, List.map_nil, List.sum_cons, List.sum_nil, Nat.add_zero, Nat.zero_add, Nat.reduceAdd, Nat.reduceMul, Nat.reduceSub, Nat.reduceDiv, Nat.reduceMod, Nat.reduceLT, Nat.reduceLeDiff, Nat.reduceEqDiff, Nat.reduceBEq, Nat.reduceBNe, Nat.one_ne_zero, Nat.zero_ne_one, Nat.succ_ne_self, Nat.le_refl, Nat.sub_self, Nat.sub_zero, Nat.zero_le, reduceCtorEq, eq_self, Bool.false_eq_true, pk_mul, nI_add, k_in, nI_clamp, nI_eq, nI_ltI, nI_leI, k_upd, k_eq0, k_lt0, k_0le, k_0lt, k_le0, k_mod, e1, e5]
      refine ⟨fun c => absurd c (by omega), fun _ => ⟨fun c => skip (fun q => q.2.2 ((hb l hl).mp c)), fun c => ⟨fun c' => skip (fun q => by omega), fun c' => ?_⟩⟩⟩
      refine g_call0 (sp_Link_touches g6 b2 b2' hr (fun c2 => ?_) (fun c2 => ?_))
      · simp (disch := first | omega | simp (disch := omega) only [sA_ne, sA_self]) only [st_Net_flood, cg0 hI', cg5 hI', g6, cRow_lt, j_k, List.mem_cons, List.not_mem_nil, or_false, or_self, if_false, if_true, ↓reduceIte, List.getElem?_cons_zero, List.getElem?_cons_succ, List.set_cons_zero, List.set_cons_succ, List.length_cons, List.length_nil, g_ld_s, g_v_s, g_ob_s, g_ia_s, g_la_s, g_qa_s, g_al_s, t_i_s, t_a_r, t_a_n, t_a_q, t_l_s, true_and, and_true, and_self, true_or, or_true, Decidable.not_not, not_true_eq_false, not_false_eq_true, false_implies, true_implies, implies_true, j_ok1_s, j_isL, j_cat_i, j_cat_l, j_cat_r, j_cat_n, j_rf_cat, j_rf_some, j_rf_none, k_w8_0, k_w8_i, k_w8_r, k_w8_l, k_sum0, k_ints, k_nari, k_narz0, k_narz1, k_okv0, k_okv1, k_okv2, k_okv2n, k_okv3, Option.toList_some, Option.toList_none, List.cons_append, List.nil_append, List.append_nil, List.map_cons, List.map_nil, List.sum_cons, List.sum_nil, Nat.add_zero, Nat.zero_add, Nat.reduceAdd, Nat.reduceMul, Nat.reduceSub, Nat.reduceDiv, Nat.reduceMod, Nat.reduceLT, Nat.reduceLeDiff, Nat.reduceEqDiff, Nat.reduceBEq, Nat.reduceBNe, Nat.one_ne_zero, Nat.zero_ne_one, Nat.succ_ne_self, Nat.le_refl, Nat.sub_self, Nat.sub_zero, Nat.zero_le, reduceCtorEq, eq_self, Bool.false_eq_true, pk_mul, nI_add, k_in, nI_clamp, nI_eq, nI_ltI, nI_leI, k_upd, k_eq0, k_lt0, k_0le, k_0lt, k_le0, k_mod, e1, e5]
        refine g_call0 (sp_Link_laneFrom g6 b2 hr ?_)
        have cond : (S 2 (2 * l) = r ∨ S 2 (2 * l + 1) = r) ∧ S 5 l = 1 ∧ l ≠ b := ⟨c2, by omega, fun q => c ((hb l hl).mpr q)⟩
        have eq : (if S 2 (2 * l) = r then ad 7 (2 * l) else ad 7 (2 * l + 1)) = ad 7 (rQ (rSpr S r a b l) r l) := by
          unfold rQ
          rw [e2]
          split <;> rfl
        rw [eq]
        have hqq : rQ (rSpr S r a b l) r l < 2 * rSpr S r a b l 1 0 := by
          rw [e1]
          unfold rQ
          split <;> omega
        simp (disch := first | omega | simp (disch := omega) only [sA_ne, sA_self]) only [st_Net_flood, cg7 hI' hqq, j_k, List.mem_cons, List.not_mem_nil, or_false, or_self, if_false, if_true, ↓reduceIte, List.getElem?_cons_zero, List.getElem?_cons_succ, List.set_cons_zero, List.set_cons_succ, List.length_cons, List.length_nil, g_ld_s, g_v_s, g_ob_s, g_ia_s, g_la_s, g_qa_s, g_al_s, t_i_s, t_a_r, t_a_n, t_a_q, t_l_s, true_and, and_true, and_self, true_or, or_true, Decidable.not_not, not_true_eq_false, not_false_eq_true, false_implies, true_implies, implies_true, j_ok1_s, j_isL, j_cat_i, j_cat_l, j_cat_r, j_cat_n, j_rf_cat, j_rf_some, j_rf_none, k_w8_0, k_w8_i, k_w8_r, k_w8_l, k_sum0, k_ints, k_nari, k_narz0, k_narz1, k_okv0, k_okv1, k_okv2, k_okv2n, k_okv3, Option.toList_some, Option.toList_none, List.cons_append, List.nil_append, List.append_nil, List.map_cons, List.map_nil, List.sum_cons, List.sum_nil, Nat.add_zero, Nat.zero_add, Nat.reduceAdd, Nat.reduceMul, Nat.reduceSub, Nat.reduceDiv, Nat.reduceMod, Nat.reduceLT, Nat.reduceLeDiff, Nat.reduceEqDiff, Nat.reduceBEq, Nat.reduceBNe, Nat.one_ne_zero, Nat.zero_ne_one, Nat.succ_ne_self, Nat.le_refl, Nat.sub_self, Nat.sub_zero, Nat.zero_le, reduceCtorEq, eq_self, Bool.false_eq_true, pk_mul, nI_add, k_in, nI_clamp, nI_eq, nI_ltI, nI_leI, k_upd, k_eq0, k_lt0, k_0le, k_0lt, k_le0, k_mod]
        refine g_call0 (sp_c_put hI' hT hX hqq ha (by rw [e8]; exact ha') (fun X' hX' => ?_))
        simp (disch := first | omega | simp (disch := omega) only [sA_ne, sA_self]) only [st_Net_flood, j_k, List.mem_cons, List.not_mem_nil, or_false, or_self, if_false, if_true, ↓reduceIte, List.getElem?_cons_zero, List.getElem?_cons_succ, List.set_cons_zero, List.set_cons_succ, List.length_cons, List.length_nil, g_ld_s, g_v_s, g_ob_s, g_ia_s, g_la_s, g_qa_s, g_al_s, t_i_s, t_a_r, t_a_n, t_a_q, t_l_s, true_and, and_true, and_self, true_or, or_true, Decidable.not_not, not_true_eq_false, not_false_eq_true, false_implies, true_implies, implies_true, j_ok1_s, j_isL, j_cat_i, j_cat_l, j_cat_r, j_cat_n, j_rf_cat, j_rf_some, j_rf_none, k_w8_0, k_w8_i, k_w8_r, k_w8_l, k_sum0, k_ints, k_nari, k_narz0, k_narz1, k_okv0, k_okv1, k_okv2, k_okv2n, k_okv3, Option.toList_some, Option.toList_none, List.cons_append, List.nil_append, List.append_nil, List.map_cons, List.map_nil, List.sum_cons, List.sum_nil, Nat.add_zero, Nat.zero_add, Nat.reduceAdd, Nat.reduceMul, Nat.reduceSub, Nat.reduceDiv, Nat.reduceMod, Nat.reduceLT, Nat.reduceLeDiff, Nat.reduceEqDiff, Nat.reduceBEq, Nat.reduceBNe, Nat.one_ne_zero, Nat.zero_ne_one, Nat.succ_ne_self, Nat.le_refl, Nat.sub_self, Nat.sub_zero, Nat.zero_le, reduceCtorEq, eq_self, Bool.false_eq_true, pk_mul, nI_add, k_in, nI_clamp, nI_eq, nI_ltI, nI_leI, k_upd, k_eq0, k_lt0, k_0le, k_0lt, k_le0, k_mod]
        refine j_runs [3] ok_Net_flood 8 ?_
        simp (disch := first | omega | simp (disch := omega) only [sA_ne, sA_self]) only [st_Net_flood, j_k, List.mem_cons, List.not_mem_nil, or_false, or_self, if_false, if_true, ↓reduceIte, List.getElem?_cons_zero, List.getElem?_cons_succ, List.set_cons_zero, List.set_cons_succ, List.length_cons, List.length_nil, g_ld_s, g_v_s, g_ob_s, g_ia_s, g_la_s, g_qa_s, g_al_s, t_i_s, t_a_r, t_a_n, t_a_q, t_l_s, true_and, and_true, and_self, true_or, or_true, Decidable.not_not, not_true_eq_false, not_false_eq_true, false_implies, true_implies, implies_true, j_ok1_s, j_isL, j_cat_i, j_cat_l, j_cat_r, j_cat_n, j_rf_cat, j_rf_some, j_rf_none, k_w8_0, k_w8_i, k_w8_r, k_w8_l, k_sum0, k_ints, k_nari, k_narz0, k_narz1, k_okv0, k_okv1, k_okv2, k_okv2n, k_okv3, Option.toList_some, Option.toList_none, List.cons_append, List.nil_append, List.append_nil, List.map_cons, List.map_nil, List.sum_cons, List.sum_nil, Nat.add_zero, Nat.zero_add, Nat.reduceAdd, Nat.reduceMul, Nat.reduceSub, Nat.reduceDiv, Nat.reduceMod, Nat.reduceLT, Nat.reduceLeDiff, Nat.reduceEqDiff, Nat.reduceBEq, Nat.reduceBNe, Nat.one_ne_zero, Nat.zero_ne_one, Nat.succ_ne_self, Nat.le_refl, Nat.sub_self, Nat.sub_zero, Nat.zero_le, reduceCtorEq, eq_self, Bool.false_eq_true, pk_mul, nI_add, k_in, nI_clamp, nI_eq, nI_ltI, nI_leI, k_upd, k_eq0, k_lt0, k_0le, k_0lt, k_le0, k_mod]
        have := next X'
        unfold rSpr at this
        rw [if_pos cond] at this
        exact this hX'
      · simp (disch := first | omega | simp (disch := omega) only [sA_ne, sA_self]) only [st_Net_flood, j_k, List.mem_cons, List.not_mem_nil, or_false, or_self, if_false, if_true, ↓reduceIte, List.getElem?_cons_zero, List.getElem?_cons_succ, List.set_cons_zero, List.set_cons_succ, List.length_cons, List.length_nil, g_ld_s, g_v_s, g_ob_s, g_ia_s, g_la_s, g_qa_s, g_al_s, t_i_s, t_a_r, t_a_n, t_a_q, t_l_s, true_and, and_true, and_self, true_or, or_true, Decidable.not_not, not_true_eq_false, not_false_eq_true, false_implies, true_implies, implies_true, j_ok1_s, j_isL, j_cat_i, j_cat_l, j_cat_r, j_cat_n, j_rf_cat, j_rf_some, j_rf_none, k_w8_0, k_w8_i, k_w8_r, k_w8_l, k_sum0, k_ints, k_nari, k_narz0, k_narz1, k_okv0, k_okv1, k_okv2, k_okv2n, k_okv3, Option.toList_some, Option.toList_none, List.cons_append, List.nil_append, List.append_nil, List.map_cons, List.map_nil, List.sum_cons, List.sum_nil, Nat.add_zero, Nat.zero_add, Nat.reduceAdd, Nat.reduceMul, Nat.reduceSub, Nat.reduceDiv, Nat.reduceMod, Nat.reduceLT, Nat.reduceLeDiff, Nat.reduceEqDiff, Nat.reduceBEq, Nat.reduceBNe, Nat.one_ne_zero, Nat.zero_ne_one, Nat.succ_ne_self, Nat.le_refl, Nat.sub_self, Nat.sub_zero, Nat.zero_le, reduceCtorEq, eq_self, Bool.false_eq_true, pk_mul, nI_add, k_in, nI_clamp, nI_eq, nI_ltI, nI_leI, k_upd, k_eq0, k_lt0, k_0le, k_0lt, k_le0, k_mod]
        exact skip (fun q => c2 q.1)
  refine j_runs [3] ok_Net_flood 8 ?_
  simp (disch := first | omega | simp (disch := omega) only [sA_ne, sA_self]) only [st_Net_flood, j_k, List.mem_cons, List.not_mem_nil, or_false, or_self, if_false, if_true, ↓reduceIte, List.getElem?_cons_zero, List.getElem?_cons_succ, List.set_cons_zero, List.set_cons_succ, List.length_cons, List.length_nil, g_ld_s, g_v_s, g_ob_s, g_ia_s, g_la_s, g_qa_s, g_al_s, t_i_s, t_a_r, t_a_n, t_a_q, t_l_s, true_and, and_true, and_self, true_or, or_true, Decidable.not_not, not_true_eq_false, not_false_eq_true, false_implies, true_implies, implies_true, j_ok1_s, j_isL, j_cat_i, j_cat_l, j_cat_r, j_cat_n, j_rf_cat, j_rf_some, j_rf_none, k_w8_0, k_w8_i, k_w8_r, k_w8_l, k_sum0, k_ints, k_nari, k_narz0, k_narz1, k_okv0, k_okv1, k_okv2, k_okv2n, k_okv3, Option.toList_some, Option.toList_none, List.cons_append, List.nil_append, List.append_nil, List.map_cons, List.map_nil, List.sum_cons, List.sum_nil, Nat.add_zero, Nat.zero_add, Nat.reduceAdd, Nat.reduceMul, Nat.reduceSub, Nat.reduceDiv, Nat.reduceMod, Nat.reduceLT, Nat.reduceLeDiff, Nat.reduceEqDiff, Nat.reduceBEq, Nat.reduceBNe, Nat.one_ne_zero, Nat.zero_ne_one, Nat.succ_ne_self, Nat.le_refl, Nat.sub_self, Nat.sub_zero, Nat.zero_le, reduceCtorEq, eq_self, Bool.false_eq_true]
  exact head (S 1 0) 0 X (by omega) hC
