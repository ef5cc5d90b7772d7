/-! THE CLASS: putAll, exchange -/
theorem k_len (n : Nat) : Int32.ofNat n = nI n := rfl
def rPA (S : Nat → Nat → Nat) (q r : Nat) : Nat → Nat → Nat → Nat
  | 0 => S
  | j + 1 => if 0 < S 15 (8 * r + j) then rPutQ (rPA S q r j) q (S 15 (8 * r + j)) else rPA S q r j
theorem rPA_ok {S : Nat → Nat → Nat} (h : rOK S) {q r : Nat} : ∀ n, rOK (rPA S q r n)
  | 0 => h
  | i + 1 => by
    unfold rPA
    split
    · exact rPutQ_ok (rPA_ok h i) (h 15 _)
    · exact rPA_ok h i
theorem rPA_keeps {S : Nat → Nat → Nat} {q r k : Nat} (h1 : k ≠ 16) (h2 : k ≠ 17) : ∀ n, rPA S q r n k = S k
  | 0 => rfl
  | i + 1 => by
    unfold rPA
    split
    · rw [rPutQ_keeps h1 h2]; exact rPA_keeps h1 h2 i
    · exact rPA_keeps h1 h2 i
theorem rSh_PA1 {S : Nat → Nat → Nat} {l : Nat} : ∀ n, n ≤ 8 → rSh S l n = rPA S (2 * l) (S 2 (2 * l)) n
  | 0, _ => rfl
  | i + 1, hi => by
    unfold rSh rPA
    rw [rSh_PA1 i (by omega), show i / 8 = 0 by omega, show i % 8 = i by omega, Nat.add_zero]
    have e : ∀ a, rPut (rPA S (2 * l) (S 2 (2 * l)) i) (S 2 (2 * l)) l a = rPutQ (rPA S (2 * l) (S 2 (2 * l)) i) (2 * l) a := by
      intro a
      unfold rPut rQ
      rw [rPA_keeps (by decide) (by decide), if_pos rfl, Nat.add_zero]
    rw [e]
theorem rSh_PA2 {S : Nat → Nat → Nat} {l : Nat} (hne : S 2 (2 * l) ≠ S 2 (2 * l + 1)) : ∀ n, n ≤ 8 → rSh S l (8 + n) = rPA (rSh S l 8) (2 * l + 1) (S 2 (2 * l + 1)) n
  | 0, _ => rfl
  | i + 1, hi => by
    rw [← Nat.add_assoc]
    unfold rPA
    rw [rSh_keeps (by decide) (by decide) 8]
    rw [← rSh_PA2 hne i (by omega)]
    conv => lhs; unfold rSh
    rw [show (8 + i) / 8 = 1 by omega, show (8 + i) % 8 = i by omega]
    have e : ∀ a, rPut (rSh S l (8 + i)) (S 2 (2 * l + 1)) l a = rPutQ (rSh S l (8 + i)) (2 * l + 1) a := by
      intro a
      unfold rPut rQ
      rw [rSh_keeps (by decide) (by decide), if_neg hne]
    rw [e]
set_option maxHeartbeats 4000000 in
set_option maxRecDepth 100000 in
theorem sp_Lane_putAll {S X : Nat → Nat → Nat} {B : Nat → Nat → Int64} {A : Nat → Nat → Int32} {ad : Nat → Nat → Nat} {q r : Nat} {post : Option Value → jW → Prop} (hI : n_inj (cAl S) ad) (hS : rOK S) (hC : cI S X) (hq : q < 2 * S 1 0) (hr : r < 8) (h : ∀ X', cI (rPA S q r 8) X' → post none (cW (rPA S q r 8) X' B A ad)) : j_sem m_Lane_putAll [.ref (ad 7 q), .ref (ad 4 r)] (cW S X B A ad) 0 0 post := by
  refine j_sem_of (by decide +kernel) (Nat.le_of_ble_eq_true rfl) ?_
  show j_S _ _ 0 [some (.ref (ad 7 q)), some (.ref (ad 4 r)), none] [] _ 0 0
  have e1 : ∀ l, rPA S q r l 1 = S 1 := rPA_keeps (by decide) (by decide)
  have e8 : ∀ l, rPA S q r l 8 = S 8 := rPA_keeps (by decide) (by decide)
  have e15 : ∀ l, rPA S q r l 15 = S 15 := rPA_keeps (by decide) (by decide)
  have e18 : ∀ l, rPA S q r l 18 = S 18 := rPA_keeps (by decide) (by decide)
  have e22 : ∀ l, rPA S q r l 22 = S 22 := rPA_keeps (by decide) (by decide)
  have head : ∀ d l X, l + d = 8 → cI (rPA S q r l) X → j_S m_Lane_putAll post 2 [some (.ref (ad 7 q)), some (.ref (ad 4 r)), some (.int (nI l))] [] (cW (rPA S q r l) X B A ad) 0 0 := by
    intro d
    induction d with
    | zero =>
      intro l X e hX
      have el : l = 8 := by omega
      subst el
      have hI' : n_inj (cAl (rPA S q r 8)) ad := cInj (by rw [e1]) (by rw [e8]) (by rw [e18]) (by rw [e22]) hI
      refine j_runs [2] ok_Lane_putAll 8 ?_
      simp (disch := first | omega | simp (disch := omega) only [sA_ne, sA_self]) only [st_Lane_putAll, k_len, cg4 hI' hr, j_k, List.mem_cons, List.not_mem_nil, or_false, or_self, if_false, if_true, ↓reduceIte, List.getElem?_cons_zero, List.getElem?_cons_succ, List.set_cons_zero, List.set_cons_succ, List.length_cons, List.length_nil, g_ld_s, g_v_s, g_ob_s, g_ia_s, g_la_s, g_qa_s, g_al_s, t_i_s, t_a_r, t_a_n, t_a_q, t_l_s, true_and, and_true, and_self, true_or, or_true, Decidable.not_not, not_true_eq_false, not_false_eq_true, false_implies, true_implies, implies_true, j_ok1_s, j_isL, j_cat_i, j_cat_l, j_cat_r, j_cat_n, j_rf_cat, j_rf_some, j_rf_none, k_w8_0, k_w8_i, k_w8_r, k_w8_l, k_sum0, k_ints, k_nari, k_narz0, k_narz1, k_okv0, k_okv1, k_okv2, k_okv2n, k_okv3, Option.toList_some, Option.toList_none, List.cons_append, List.nil_append, List.append_nil, List.map_cons, List.map_nil, List.sum_cons, List.sum_nil, Nat.add_zero, Nat.zero_add, Nat.reduceAdd, Nat.reduceMul, Nat.reduceSub, Nat.reduceDiv, Nat.reduceMod, Nat.reduceLT, Nat.reduceLeDiff, Nat.reduceEqDiff, Nat.reduceBEq, Nat.reduceBNe, Nat.one_ne_zero, Nat.zero_ne_one, Nat.succ_ne_self, Nat.le_refl, Nat.sub_self, Nat.sub_zero, Nat.zero_le, reduceCtorEq, eq_self, Bool.false_eq_true, pk_mul, nI_add, k_in, nI_clamp, nI_eq, nI_ltI, nI_leI, k_upd, k_eq0, k_lt0, k_0le, k_0lt, k_le0, k_mod, e1]
      exact h X hX
    | succ d ih =>
      intro l X e hX
      have hI' : n_inj (cAl (rPA S q r l)) ad := cInj (by rw [e1]) (by rw [e8]) (by rw [e18]) (by rw [e22]) hI
      have hl : l < 8 := by omega
      have hT := rPA_ok hS (q := q) (r := r) l
      have next : ∀ X, cI (rPA S q r (l + 1)) X → j_S m_Lane_putAll post 2 [some (.ref (ad 7 q)), some (.ref (ad 4 r)), some (.int (nI (l + 1)))] [] (cW (rPA S q r (l + 1)) X B A ad) 0 0 := fun X => ih (l + 1) X (by omega)
      have g4 := cg4 (X := X) (B := B) (A := A) hI' hr
      rw [e15] at g4
      by_cases c : S 15 (8 * r + l) = 0
      · have en : cAds 8 (fun j => S 15 (8 * r + j)) (ad 18) l = none := cAds_0 c
        refine j_runs [2] ok_Lane_putAll 16 ?_
        simp (disch := first | omega | simp (disch := omega) only [sA_ne, sA_self]) only [st_Lane_putAll, k_len, g4, en, j_k, List.mem_cons, List.not_mem_nil, or_false, or_self, if_false, if_true, ↓reduceIte, List.getElem?_cons_zero, List.getElem?_cons_succ, List.set_cons_zero, List.set_cons_succ, List.length_cons, List.length_nil, g_ld_s, g_v_s, g_ob_s, g_ia_s, g_la_s, g_qa_s, g_al_s, t_i_s, t_a_r, t_a_n, t_a_q, t_l_s, true_and, and_true, and_self, true_or, or_true, Decidable.not_not, not_true_eq_false, not_false_eq_true, false_implies, true_implies, implies_true, j_ok1_s, j_isL, j_cat_i, j_cat_l, j_cat_r, j_cat_n, j_rf_cat, j_rf_some, j_rf_none, k_w8_0, k_w8_i, k_w8_r, k_w8_l, k_sum0, k_ints, k_nari, k_narz0, k_narz1, k_okv0, k_okv1, k_okv2, k_okv2n, k_okv3, Option.toList_some, Option.toList_none, List.cons_append, List.nil_append, List.append_nil, List.map_cons, List.map_nil, List.sum_cons, List.sum_nil, Nat.add_zero, Nat.zero_add, Nat.reduceAdd, Nat.reduceMul, Nat.reduceSub, Nat.reduceDiv, Nat.reduceMod, Nat.reduceLT, Nat.reduceLeDiff, Nat.reduceEqDiff, Nat.reduceBEq, Nat.reduceBNe, Nat.one_ne_zero, Nat.zero_ne_one, Nat.succ_ne_self, Nat.le_refl, Nat.sub_self, Nat.sub_zero, Nat.zero_le, reduceCtorEq, eq_self, Bool.false_eq_true, pk_mul, nI_add, k_in, nI_clamp, nI_eq, nI_ltI, nI_leI, k_upd, k_eq0, k_lt0, k_0le, k_0lt, k_le0, k_mod]
        refine ⟨fun q => absurd q (by omega), fun _ => ?_⟩
        have := next X
        unfold rPA at this
        rw [if_neg (by omega)] at this
        exact this hX
      · have en : cAds 8 (fun j => S 15 (8 * r + j)) (ad 18) l = some (ad 18 (S 15 (8 * r + l))) := cAds_1 hl c
        have hqq : q < 2 * rPA S q r l 1 0 := by rw [e1]; exact hq
        refine j_runs [2] ok_Lane_putAll 16 ?_
        simp (disch := first | omega | simp (disch := omega) only [sA_ne, sA_self]) only [st_Lane_putAll, k_len, g4, en, cg7 hI' hqq, j_k, List.mem_cons, List.not_mem_nil, or_false, or_self, if_false, if_true, ↓reduceIte, List.getElem?_cons_zero, List.getElem?_cons_succ, List.set_cons_zero, List.set_cons_succ, List.length_cons, List.length_nil, g_ld_s, g_v_s, g_ob_s, g_ia_s, g_la_s, g_qa_s, g_al_s, t_i_s, t_a_r, t_a_n, t_a_q, t_l_s, true_and, and_true, and_self, true_or, or_true, Decidable.not_not, not_true_eq_false, not_false_eq_true, false_implies, true_implies, implies_true, j_ok1_s, j_isL, j_cat_i, j_cat_l, j_cat_r, j_cat_n, j_rf_cat, j_rf_some, j_rf_none, k_w8_0, k_w8_i, k_w8_r, k_w8_l, k_sum0, k_ints, k_nari, k_narz0, k_narz1, k_okv0, k_okv1, k_okv2, k_okv2n, k_okv3, Option.toList_some, Option.toList_none, List.cons_append, List.nil_append, List.append_nil, List.map_cons, List.map_nil, List.sum_cons, List.sum_nil, Nat.add_zero, Nat.zero_add, Nat.reduceAdd, Nat.reduceMul, Nat.reduceSub, Nat.reduceDiv, Nat.reduceMod, Nat.reduceLT, Nat.reduceLeDiff, Nat.reduceEqDiff, Nat.reduceBEq, Nat.reduceBNe, Nat.one_ne_zero, Nat.zero_ne_one, Nat.succ_ne_self, Nat.le_refl, Nat.sub_self, Nat.sub_zero, Nat.zero_le, reduceCtorEq, eq_self, Bool.false_eq_true, pk_mul, nI_add, k_in, nI_clamp, nI_eq, nI_ltI, nI_leI, k_upd, k_eq0, k_lt0, k_0le, k_0lt, k_le0, k_mod]
        refine ⟨fun q => absurd q (by omega), fun _ => ?_⟩
        refine g_call0 (sp_c_put hI' hT hX hqq (by omega) (by rw [e8]; exact hC.2.2.2.1 _) (fun X' hX' => ?_))
        simp (disch := first | omega | simp (disch := omega) only [sA_ne, sA_self]) only [st_Lane_putAll, j_k, List.mem_cons, List.not_mem_nil, or_false, or_self, if_false, if_true, ↓reduceIte, List.getElem?_cons_zero, List.getElem?_cons_succ, List.set_cons_zero, List.set_cons_succ, List.length_cons, List.length_nil, g_ld_s, g_v_s, g_ob_s, g_ia_s, g_la_s, g_qa_s, g_al_s, t_i_s, t_a_r, t_a_n, t_a_q, t_l_s, true_and, and_true, and_self, true_or, or_true, Decidable.not_not, not_true_eq_false, not_false_eq_true, false_implies, true_implies, implies_true, j_ok1_s, j_isL, j_cat_i, j_cat_l, j_cat_r, j_cat_n, j_rf_cat, j_rf_some, j_rf_none, k_w8_0, k_w8_i, k_w8_r, k_w8_l, k_sum0, k_ints, k_nari, k_narz0, k_narz1, k_okv0, k_okv1, k_okv2, k_okv2n, k_okv3, Option.toList_some, Option.toList_none, List.cons_append, List.nil_append, List.append_nil, List.map_cons, List.map_nil, List.sum_cons, List.sum_nil, Nat.add_zero, Nat.zero_add, Nat.reduceAdd, Nat.reduceMul, Nat.reduceSub, Nat.reduceDiv, Nat.reduceMod, Nat.reduceLT, Nat.reduceLeDiff, Nat.reduceEqDiff, Nat.reduceBEq, Nat.reduceBNe, Nat.one_ne_zero, Nat.zero_ne_one, Nat.succ_ne_self, Nat.le_refl, Nat.sub_self, Nat.sub_zero, Nat.zero_le, reduceCtorEq, eq_self, Bool.false_eq_true, pk_mul, nI_add, k_in, nI_clamp, nI_eq, nI_ltI, nI_leI, k_upd, k_eq0, k_lt0, k_0le, k_0lt, k_le0, k_mod]
        have := next X'
        unfold rPA at this
        rw [if_pos (by omega)] at this
        exact this hX'
  refine j_runs [2] ok_Lane_putAll 8 ?_
  simp (disch := first | omega | simp (disch := omega) only [sA_ne, sA_self]) only [st_Lane_putAll, j_k, List.mem_cons, List.not_mem_nil, or_false, or_self, if_false, if_true, ↓reduceIte, List.getElem?_cons_zero, List.getElem?_cons_succ, List.set_cons_zero, List.set_cons_succ, List.length_cons, List.length_nil, g_ld_s, g_v_s, g_ob_s, g_ia_s, g_la_s, g_qa_s, g_al_s, t_i_s, t_a_r, t_a_n, t_a_q, t_l_s, true_and, and_true, and_self, true_or, or_true, Decidable.not_not, not_true_eq_false, not_false_eq_true, false_implies, true_implies, implies_true, j_ok1_s, j_isL, j_cat_i, j_cat_l, j_cat_r, j_cat_n, j_rf_cat, j_rf_some, j_rf_none, k_w8_0, k_w8_i, k_w8_r, k_w8_l, k_sum0, k_ints, k_nari, k_narz0, k_narz1, k_okv0, k_okv1, k_okv2, k_okv2n, k_okv3, Option.toList_some, Option.toList_none, List.cons_append, List.nil_append, List.append_nil, List.map_cons, List.map_nil, List.sum_cons, List.sum_nil, Nat.add_zero, Nat.zero_add, Nat.reduceAdd, Nat.reduceMul, Nat.reduceSub, Nat.reduceDiv, Nat.reduceMod, Nat.reduceLT, Nat.reduceLeDiff, Nat.reduceEqDiff, Nat.reduceBEq, Nat.reduceBNe, Nat.one_ne_zero, Nat.zero_ne_one, Nat.succ_ne_self, Nat.le_refl, Nat.sub_self, Nat.sub_zero, Nat.zero_le, reduceCtorEq, eq_self, Bool.false_eq_true]
  exact head 8 0 X rfl hC
set_option maxHeartbeats 4000000 in
set_option maxRecDepth 100000 in
theorem sp_Net_exchange {S X : Nat → Nat → Nat} {B : Nat → Nat → Int64} {A : Nat → Nat → Int32} {ad : Nat → Nat → Nat} {l : Nat} {post : Option Value → jW → Prop} (hI : n_inj (cAl S) ad) (hS : rOK S) (hC : cI S X) (hl : l < S 1 0) (hne : S 2 (2 * l) ≠ S 2 (2 * l + 1)) (h : ∀ X', cI (rSh S l 16) X' → post none (cW (rSh S l 16) X' B A ad)) : j_sem m_Net_exchange [.ref (ad 0 0), .ref (ad 6 l)] (cW S X B A ad) 0 0 post := by
  refine j_sem_of (by decide +kernel) (Nat.le_of_ble_eq_true rfl) ?_
  show j_S _ _ 0 [some (.ref (ad 0 0)), some (.ref (ad 6 l))] [] _ 0 0
  have b2 : S 2 (2 * l) ≤ 7 := hS 2 _
  have b2' : S 2 (2 * l + 1) ≤ 7 := hS 2 _
  rw [rSh_PA2 hne 8 (by omega), rSh_PA1 8 (by omega)] at h
  have g7 : ∀ q, q = 2 * l ∨ q = 2 * l + 1 → q < 2 * S 1 0 := fun q hq => by omega
  refine j_runs [] ok_Net_exchange 40 ?_
  simp (disch := first | omega | simp (disch := omega) only [sA_ne, sA_self]) only [st_Net_exchange, cg0 hI, cg1 hI, cg2 hI, cg6 hI hl, cg7 hI, cRow_lt, j_k, List.mem_cons, List.not_mem_nil, or_false, or_self, if_false, if_true, ↓reduceIte, List.getElem?_cons_zero, List.getElem?_cons_succ, List.set_cons_zero, List.set_cons_succ, List.length_cons, List.length_nil, g_ld_s, g_v_s, g_ob_s, g_ia_s, g_la_s, g_qa_s, g_al_s, t_i_s, t_a_r, t_a_n, t_a_q, t_l_s, true_and, and_true, and_self, true_or, or_true, Decidable.not_not, not_true_eq_false, not_false_eq_true, false_implies, true_implies, implies_true, j_ok1_s, j_isL, j_cat_i, j_cat_l, j_cat_r, j_cat_n, j_rf_cat, j_rf_some, j_rf_none, k_w8_0, k_w8_i, k_w8_r, k_w8_l, k_sum0, k_ints, k_nari, k_narz0, k_narz1, k_okv0, k_okv1, k_okv2, k_okv2n, k_okv3, Option.toList_some, Option.toList_none, List.cons_append, List.nil_append, List.append_nil, List.map_cons, List.map_nil, List.sum_cons, List.sum_nil, Nat.add_zero, Nat.zero_add, Nat.reduceAdd, Nat.reduceMul, Nat.reduceSub, Nat.reduceDiv, Nat.reduceMod, Nat.reduceLT, Nat.reduceLeDiff, Nat.reduceEqDiff, Nat.reduceBEq, Nat.reduceBNe, Nat.one_ne_zero, Nat.zero_ne_one, Nat.succ_ne_self, Nat.le_refl, Nat.sub_self, Nat.sub_zero, Nat.zero_le, reduceCtorEq, eq_self, Bool.false_eq_true, pk_mul, nI_add, k_in, nI_clamp, nI_eq, nI_ltI, nI_leI, k_upd, k_eq0, k_lt0, k_0le, k_0lt, k_le0, k_mod]
  refine g_call0 (sp_Lane_putAll hI hS hC (by omega) (by omega) (fun X' hX' => ?_))
  have e : ∀ z, z ≠ 16 → z ≠ 17 → rPA S (2 * l) (S 2 (2 * l)) 8 z = S z := fun z h1 h2 => rPA_keeps h1 h2 8
  have e1 := e 1 (by decide) (by decide)
  have e2 := e 2 (by decide) (by decide)
  have hT := rPA_ok hS (q := 2 * l) (r := S 2 (2 * l)) 8
  have hI' : n_inj (cAl (rPA S (2 * l) (S 2 (2 * l)) 8)) ad := cInj (by rw [e 1 (by decide) (by decide)]) (by rw [e 8 (by decide) (by decide)]) (by rw [e 18 (by decide) (by decide)]) (by rw [e 22 (by decide) (by decide)]) hI
  have hl' : l < rPA S (2 * l) (S 2 (2 * l)) 8 1 0 := by rw [e1]; exact hl
  have g6 := cg6 (X := X') (B := B) (A := A) hI' hl'
  rw [e2] at g6
  simp (disch := first | omega | simp (disch := omega) only [sA_ne, sA_self]) only [st_Net_exchange, cg0 hI', cg1 hI', cg2 hI', g6, cg7 hI', cRow_lt, j_k, List.mem_cons, List.not_mem_nil, or_false, or_self, if_false, if_true, ↓reduceIte, List.getElem?_cons_zero, List.getElem?_cons_succ, List.set_cons_zero, List.set_cons_succ, List.length_cons, List.length_nil, g_ld_s, g_v_s, g_ob_s, g_ia_s, g_la_s, g_qa_s, g_al_s, t_i_s, t_a_r, t_a_n, t_a_q, t_l_s, true_and, and_true, and_self, true_or, or_true, Decidable.not_not, not_true_eq_false, not_false_eq_true, false_implies, true_implies, implies_true, j_ok1_s, j_isL, j_cat_i, j_cat_l, j_cat_r, j_cat_n, j_rf_cat, j_rf_some, j_rf_none, k_w8_0, k_w8_i, k_w8_r, k_w8_l, k_sum0, k_ints, k_nari, k_narz0, k_narz1, k_okv0, k_okv1, k_okv2, k_okv2n, k_okv3, Option.toList_some, Option.toList_none, List.cons_append, List.nil_append, List.append_nil, List.map_cons, List.map_nil, List.sum_cons, List.sum_nil, Nat.add_zero, Nat.zero_add, Nat.reduceAdd, Nat.reduceMul, Nat.reduceSub, Nat.reduceDiv, Nat.reduceMod, Nat.reduceLT, Nat.reduceLeDiff, Nat.reduceEqDiff, Nat.reduceBEq, Nat.reduceBNe, Nat.one_ne_zero, Nat.zero_ne_one, Nat.succ_ne_self, Nat.le_refl, Nat.sub_self, Nat.sub_zero, Nat.zero_le, reduceCtorEq, eq_self, Bool.false_eq_true, pk_mul, nI_add, k_in, nI_clamp, nI_eq, nI_ltI, nI_leI, k_upd, k_eq0, k_lt0, k_0le, k_0lt, k_le0, k_mod]
  refine g_call0 (sp_Lane_putAll hI' hT hX' (by rw [e1]; omega) (by omega) (fun X2 hX2 => ?_))
  simp (disch := first | omega | simp (disch := omega) only [sA_ne, sA_self]) only [st_Net_exchange, j_k, List.mem_cons, List.not_mem_nil, or_false, or_self, if_false, if_true, ↓reduceIte, List.getElem?_cons_zero, List.getElem?_cons_succ, List.set_cons_zero, List.set_cons_succ, List.length_cons, List.length_nil, g_ld_s, g_v_s, g_ob_s, g_ia_s, g_la_s, g_qa_s, g_al_s, t_i_s, t_a_r, t_a_n, t_a_q, t_l_s, true_and, and_true, and_self, true_or, or_true, Decidable.not_not, not_true_eq_false, not_false_eq_true, false_implies, true_implies, implies_true, j_ok1_s, j_isL, j_cat_i, j_cat_l, j_cat_r, j_cat_n, j_rf_cat, j_rf_some, j_rf_none, k_w8_0, k_w8_i, k_w8_r, k_w8_l, k_sum0, k_ints, k_nari, k_narz0, k_narz1, k_okv0, k_okv1, k_okv2, k_okv2n, k_okv3, Option.toList_some, Option.toList_none, List.cons_append, List.nil_append, List.append_nil, List.map_cons, List.map_nil, List.sum_cons, List.sum_nil, Nat.add_zero, Nat.zero_add, Nat.reduceAdd, Nat.reduceMul, Nat.reduceSub, Nat.reduceDiv, Nat.reduceMod, Nat.reduceLT, Nat.reduceLeDiff, Nat.reduceEqDiff, Nat.reduceBEq, Nat.reduceBNe, Nat.one_ne_zero, Nat.zero_ne_one, Nat.succ_ne_self, Nat.le_refl, Nat.sub_self, Nat.sub_zero, Nat.zero_le, reduceCtorEq, eq_self, Bool.false_eq_true, pk_mul, nI_add, k_in, nI_clamp, nI_eq, nI_ltI, nI_leI, k_upd, k_eq0, k_lt0, k_0le, k_0lt, k_le0, k_mod]
  exact h X2 hX2
