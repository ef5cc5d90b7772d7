/-! THE CLASS'S CHART: measure, survey -/
noncomputable def cEd (S : Nat → Nat → Nat) (ro : Nat) : Nat → List (Nat × Nat × Nat)
  | 0 => []
  | l + 1 => cEd S ro l ++ @ite _ (rGd S ro l) (Classical.propDecidable _) [(S 2 (2 * l + 1), S 2 (2 * l), S 3 l), (S 2 (2 * l), S 2 (2 * l + 1), S 3 l)] []
theorem cEd_s {S : Nat → Nat → Nat} {ro l : Nat} : cEd S ro (l + 1) = cEd S ro l ++ @ite _ (rGd S ro l) (Classical.propDecidable _) [(S 2 (2 * l + 1), S 2 (2 * l), S 3 l), (S 2 (2 * l), S 2 (2 * l + 1), S 3 l)] [] := rfl
theorem cEd_mem {S : Nat → Nat → Nat} {ro : Nat} {e : Nat × Nat × Nat} : ∀ n, e ∈ cEd S ro n ↔ e ∈ rEd S ro n
  | 0 => Iff.rfl
  | n + 1 => by
    rw [cEd_s, rEd_s, List.mem_append, List.mem_append, cEd_mem n]
    by_cases hg : rGd S ro n
    · rw [if_pos hg, if_pos hg]
      simp only [List.mem_cons, List.not_mem_nil, or_false]
      constructor
      · rintro (h | h | h)
        · exact Or.inl h
        · exact Or.inr (Or.inr h)
        · exact Or.inr (Or.inl h)
      · rintro (h | h | h)
        · exact Or.inl h
        · exact Or.inr (Or.inr h)
        · exact Or.inr (Or.inl h)
    · rw [if_neg hg, if_neg hg]
theorem cEd_len {S : Nat → Nat → Nat} {ro : Nat} : ∀ n, (cEd S ro n).length ≤ 2 * n
  | 0 => Nat.le_refl _
  | n + 1 => by
    have := cEd_len (S := S) (ro := ro) n
    rw [cEd_s, List.length_append]
    split
    · show _ + 2 ≤ _
      omega
    · show _ + 0 ≤ _
      omega
theorem cEd_c {S : Nat → Nat → Nat} (hS : rOK S) {ro n : Nat} {e : Nat × Nat × Nat} (h : e ∈ cEd S ro n) : e.2.2 ≤ 50 := by
  obtain ⟨l, -, -, h3, -⟩ := (rEd_mem n).mp ((cEd_mem n).mp h)
  rw [h3]
  exact hS 3 l
theorem rxs_le {l : List (Nat × Nat × Nat)} : ∀ {G : Nat → Option Nat} {m : Nat}, (∀ e ∈ l, e.2.2 ≤ 50) → (∀ j a, G j = some a → a ≤ m) → ∀ j a, rxs G l j = some a → a ≤ m + 50 * l.length := by
  induction l with
  | nil => intro G m _ h j a hj; have := h j a hj; show a ≤ m + 0; omega
  | cons e r ih =>
    intro G m hl h j a hj
    have h1 := ih (G := rx G e.1 e.2.1 e.2.2) (m := m + 50) (fun x hx => hl x (List.mem_cons_of_mem _ hx)) (rx_le h (hl e List.mem_cons_self)) j a hj
    rw [List.length_cons]
    omega
theorem cRn_le {S : Nat → Nat → Nat} (hS : rOK S) {ro fr : Nat} : ∀ t j a, gRn (g0 fr) (cEd S ro (S 1 0)) t j = some a → a ≤ 1200 * t
  | 0, j, a, h => by
    have h : g0 fr j = some a := h
    unfold g0 at h
    split at h
    · cases h; omega
    · cases h
  | t + 1, j, a, h => by
    have := rxs_le (G := gRn (g0 fr) (cEd S ro (S 1 0)) t) (l := cEd S ro (S 1 0)) (fun e he => cEd_c hS he) (cRn_le hS t) j a h
    have l1 := cEd_len (S := S) (ro := ro) (S 1 0)
    have l2 : S 1 0 ≤ 12 := hS 1 0
    omega
theorem cRn_7 {S : Nat → Nat → Nat} (h : rLk S) {ro fr : Nat} (hf : fr < 8) (j : Nat) : gRn (g0 fr) (cEd S ro (S 1 0)) 7 j = rDs S ro fr j := by
  refine gD_unique (gD_rounds (rE_E h) hf (fun e he => ?_) (fun u v c he => ?_) (by decide)) (rDs_D h hf) j
  · exact (rEd_mem _).mp ((cEd_mem _).mp he)
  · exact (cEd_mem _).mpr ((rEd_mem _).mpr he)
/-- the chart's row of good links -/
def cG (S : Nat → Nat → Nat) (ro : Nat) (A : Nat → Nat → Int32) : Prop := ∀ l, l < S 1 0 → (rGd S ro l → A 17 l = nI 1) ∧ (¬ rGd S ro l → A 17 l = nI 0)
set_option maxHeartbeats 4000000 in
set_option maxRecDepth 100000 in
theorem sp_Chart_measure {S X : Nat → Nat → Nat} {B : Nat → Nat → Int64} {A : Nat → Nat → Int32} {ad : Nat → Nat → Nat} {D ro fr : Nat} {post : Option Value → jW → Prop} (hD : D = 15 ∨ D = 16) (hI : n_inj (cAl S) ad) (hS : rLk S) (hG : cG S ro A) (hf : fr < 8) (h : ∀ F', (∀ j, j < 8 → F' j = nI (eN (rDs S ro fr j))) → post none (cW S X B (aA A D F') ad)) : j_sem m_Chart_measure [.ref (ad 14 0), .int (nI fr), .ref (ad D 0), .ref (ad 5 0), .int (nI (S 1 0))] (cW S X B A ad) 0 0 post := by
  refine j_sem_of (by decide +kernel) (Nat.le_of_ble_eq_true rfl) ?_
  show j_S _ _ 0 [some (.ref (ad 14 0)), some (.int (nI fr)), some (.ref (ad D 0)), some (.ref (ad 5 0)), some (.int (nI (S 1 0))), none, none] [] _ 0 0
  have hK := hS.1
  have hL : S 1 0 ≤ 12 := hK 1 0
  have g17 : ∀ F, cW S X B (aA A D F) ad (ad 17 0) = some (.inl (1, 12, .inl (A 17))) := fun F => by rw [cg17 hI, aA_ne _ _ (by omega)]
  have inner : ∀ t, t < 7 → (∀ F, (∀ j, j < 8 → F j = nI (eN (gRn (g0 fr) (cEd S ro (S 1 0)) (t + 1) j))) → j_S m_Chart_measure post 54 [some (.ref (ad 14 0)), some (.int (nI fr)), some (.ref (ad D 0)), some (.ref (ad 5 0)), some (.int (nI (S 1 0))), some (.int (nI (t + 1))), some (.int (nI (S 1 0)))] [] (cW S X B (aA A D F) ad) 0 0) → ∀ d l F, l + d = S 1 0 → (∀ j, j < 8 → F j = nI (eN (rxs (gRn (g0 fr) (cEd S ro (S 1 0)) t) (cEd S ro l) j))) → j_S m_Chart_measure post 23 [some (.ref (ad 14 0)), some (.int (nI fr)), some (.ref (ad D 0)), some (.ref (ad 5 0)), some (.int (nI (S 1 0))), some (.int (nI (t + 1))), some (.int (nI l))] [] (cW S X B (aA A D F) ad) 0 0 := by
    intro t ht next d
    induction d with
    | zero =>
      intro l F e hF
      refine j_runs [23, 54] ok_Chart_measure 8 ?_
      simp (disch := first | omega | simp (disch := omega) only [sA_ne, sA_self]) only [st_Chart_measure, j_k, List.mem_cons, List.not_mem_nil, or_false, or_self, if_false, if_true, ↓reduceIte, List.getElem?_cons_zero, List.getElem?_cons_succ, List.set_cons_zero, List.set_cons_succ, List.length_cons, List.length_nil, g_ld_s, g_v_s, g_ob_s, g_ia_s, g_la_s, g_qa_s, g_al_s, t_i_s, t_a_r, t_a_n, t_a_q, t_l_s, true_and, and_true, and_self, true_or, or_true, Decidable.not_not, not_true_eq_false, not_false_eq_true, false_implies, true_implies, implies_true, j_ok1_s, j_isL, j_cat_i, j_cat_l, j_cat_r, j_cat_n, j_rf_cat, j_rf_some, j_rf_none, k_w8_0, k_w8_i, k_w8_r, k_w8_l, k_sum0, k_ints, k_nari, k_narz0, k_narz1, k_okv0, k_okv1, k_okv2, k_okv2n, k_okv3, Option.toList_some, Option.toList_none, List.cons_append, List.nil_append, List.append_nil, List.map_cons, List.map_nil, List.sum_cons, List.sum_nil, Nat.add_zero, Nat.zero_add, Nat.reduceAdd, Nat.reduceMul, Nat.reduceSub, Nat.reduceDiv, Nat.reduceMod, Nat.reduceLT, Nat.reduceLeDiff, Nat.reduceEqDiff, Nat.reduceBEq, Nat.reduceBNe, Nat.one_ne_zero, Nat.zero_ne_one, Nat.succ_ne_self, Nat.le_refl, Nat.sub_self, Nat.sub_zero, Nat.zero_le, reduceCtorEq, eq_self, Bool.false_eq_true, pk_mul, nI_add, k_in, nI_clamp, nI_eq, nI_ltI, nI_leI, k_upd, k_eq0, k_lt0, k_0le, k_0lt, k_le0, k_mod]
      have el : l = S 1 0 := by omega
      refine ⟨fun _ => ?_, fun c => absurd (by omega) c⟩
      subst el
      exact next F hF
    | succ d ih =>
      intro l F e hF
      have hl : l < S 1 0 := by omega
      have step : ∀ F, (∀ j, j < 8 → F j = nI (eN (rxs (gRn (g0 fr) (cEd S ro (S 1 0)) t) (cEd S ro (l + 1)) j))) → j_S m_Chart_measure post 48 [some (.ref (ad 14 0)), some (.int (nI fr)), some (.ref (ad D 0)), some (.ref (ad 5 0)), some (.int (nI (S 1 0))), some (.int (nI (t + 1))), some (.int (nI l))] [] (cW S X B (aA A D F) ad) 0 0 := by
        intro F hF
        refine j_runs [23] ok_Chart_measure 8 ?_
        simp (disch := first | omega | simp (disch := omega) only [sA_ne, sA_self]) only [st_Chart_measure, j_k, List.mem_cons, List.not_mem_nil, or_false, or_self, if_false, if_true, ↓reduceIte, List.getElem?_cons_zero, List.getElem?_cons_succ, List.set_cons_zero, List.set_cons_succ, List.length_cons, List.length_nil, g_ld_s, g_v_s, g_ob_s, g_ia_s, g_la_s, g_qa_s, g_al_s, t_i_s, t_a_r, t_a_n, t_a_q, t_l_s, true_and, and_true, and_self, true_or, or_true, Decidable.not_not, not_true_eq_false, not_false_eq_true, false_implies, true_implies, implies_true, j_ok1_s, j_isL, j_cat_i, j_cat_l, j_cat_r, j_cat_n, j_rf_cat, j_rf_some, j_rf_none, k_w8_0, k_w8_i, k_w8_r, k_w8_l, k_sum0, k_ints, k_nari, k_narz0, k_narz1, k_okv0, k_okv1, k_okv2, k_okv2n, k_okv3, Option.toList_some, Option.toList_none, List.cons_append, List.nil_append, List.append_nil, List.map_cons, List.map_nil, List.sum_cons, List.sum_nil, Nat.add_zero, Nat.zero_add, Nat.reduceAdd, Nat.reduceMul, Nat.reduceSub, Nat.reduceDiv, Nat.reduceMod, Nat.reduceLT, Nat.reduceLeDiff, Nat.reduceEqDiff, Nat.reduceBEq, Nat.reduceBNe, Nat.one_ne_zero, Nat.zero_ne_one, Nat.succ_ne_self, Nat.le_refl, Nat.sub_self, Nat.sub_zero, Nat.zero_le, reduceCtorEq, eq_self, Bool.false_eq_true, pk_mul, nI_add, k_in, nI_clamp, nI_eq, nI_ltI, nI_leI, k_upd, k_eq0, k_lt0, k_0le, k_0lt, k_le0, k_mod]
        exact ih (l + 1) F (by omega) hF
      by_cases hg : rGd S ro l
      · have a17 := (hG l hl).1 hg
        rw [cEd_s, if_pos hg] at step
        have bl := cEd_len (S := S) (ro := ro) l
        have bd : ∀ j a, rxs (gRn (g0 fr) (cEd S ro (S 1 0)) t) (cEd S ro l) j = some a → a ≤ 20000 := by
          intro j a hj
          have := rxs_le (G := gRn (g0 fr) (cEd S ro (S 1 0)) t) (l := cEd S ro l) (fun e he => cEd_c hK he) (cRn_le hK t) j a hj
          omega
        refine j_runs [48] ok_Chart_measure 30 ?_
        simp (disch := first | omega | simp (disch := omega) only [sA_ne, sA_self]) only [st_Chart_measure, cg14 hI, g17, a17, cg5 hI, cRow_lt, j_k, List.mem_cons, List.not_mem_nil, or_false, or_self, if_false, if_true, ↓reduceIte, List.getElem?_cons_zero, List.getElem?_cons_succ, List.set_cons_zero, List.set_cons_succ, List.length_cons, List.length_nil, g_ld_s, g_v_s, g_ob_s, g_ia_s, g_la_s, g_qa_s, g_al_s, t_i_s, t_a_r, t_a_n, t_a_q, t_l_s, true_and, and_true, and_self, true_or, or_true, Decidable.not_not, not_true_eq_false, not_false_eq_true, false_implies, true_implies, implies_true, j_ok1_s, j_isL, j_cat_i, j_cat_l, j_cat_r, j_cat_n, j_rf_cat, j_rf_some, j_rf_none, k_w8_0, k_w8_i, k_w8_r, k_w8_l, k_sum0, k_ints, k_nari, k_narz0, k_narz1, k_okv0, k_okv1, k_okv2, k_okv2n, k_okv3, Option.toList_some, Option.toList_none, List.cons_append, List.nil_append, List.append_nil, List.map_cons, List.map_nil, List.sum_cons, List.sum_nil, Nat.add_zero, Nat.zero_add, Nat.reduceAdd, Nat.reduceMul, Nat.reduceSub, Nat.reduceDiv, Nat.reduceMod, Nat.reduceLT, Nat.reduceLeDiff, Nat.reduceEqDiff, Nat.reduceBEq, Nat.reduceBNe, Nat.one_ne_zero, Nat.zero_ne_one, Nat.succ_ne_self, Nat.le_refl, Nat.sub_self, Nat.sub_zero, Nat.zero_le, reduceCtorEq, eq_self, Bool.false_eq_true, pk_mul, nI_add, k_in, nI_clamp, nI_eq, nI_ltI, nI_leI, k_upd, k_eq0, k_lt0, k_0le, k_0lt, k_le0, k_mod]
        refine ⟨fun c => absurd c (by omega), fun _ => ?_⟩
        refine g_call0 (sp_Chart_shorten hD hI hK hl bd (by decide) (by rw [aA_self]; exact hF) (fun F' hF' => ?_))
        simp (disch := first | omega | simp (disch := omega) only [sA_ne, sA_self]) only [st_Chart_measure, aA_aA, j_k, List.mem_cons, List.not_mem_nil, or_false, or_self, if_false, if_true, ↓reduceIte, List.getElem?_cons_zero, List.getElem?_cons_succ, List.set_cons_zero, List.set_cons_succ, List.length_cons, List.length_nil, g_ld_s, g_v_s, g_ob_s, g_ia_s, g_la_s, g_qa_s, g_al_s, t_i_s, t_a_r, t_a_n, t_a_q, t_l_s, true_and, and_true, and_self, true_or, or_true, Decidable.not_not, not_true_eq_false, not_false_eq_true, false_implies, true_implies, implies_true, j_ok1_s, j_isL, j_cat_i, j_cat_l, j_cat_r, j_cat_n, j_rf_cat, j_rf_some, j_rf_none, k_w8_0, k_w8_i, k_w8_r, k_w8_l, k_sum0, k_ints, k_nari, k_narz0, k_narz1, k_okv0, k_okv1, k_okv2, k_okv2n, k_okv3, Option.toList_some, Option.toList_none, List.cons_append, List.nil_append, List.append_nil, List.map_cons, List.map_nil, List.sum_cons, List.sum_nil, Nat.add_zero, Nat.zero_add, Nat.reduceAdd, Nat.reduceMul, Nat.reduceSub, Nat.reduceDiv, Nat.reduceMod, Nat.reduceLT, Nat.reduceLeDiff, Nat.reduceEqDiff, Nat.reduceBEq, Nat.reduceBNe, Nat.one_ne_zero, Nat.zero_ne_one, Nat.succ_ne_self, Nat.le_refl, Nat.sub_self, Nat.sub_zero, Nat.zero_le, reduceCtorEq, eq_self, Bool.false_eq_true, pk_mul, nI_add, k_in, nI_clamp, nI_eq, nI_ltI, nI_leI, k_upd, k_eq0, k_lt0, k_0le, k_0lt, k_le0, k_mod]
        refine step F' (fun j hj => ?_)
        rw [rxs_app]
        exact hF' j hj
      · have a17 := (hG l hl).2 hg
        rw [cEd_s, if_neg hg, List.append_nil] at step
        refine j_runs [48] ok_Chart_measure 30 ?_
        simp (disch := first | omega | simp (disch := omega) only [sA_ne, sA_self]) only [st_Chart_measure, cg14 hI, g17, a17, cg5 hI, cRow_lt, j_k, List.mem_cons, List.not_mem_nil, or_false, or_self, if_false, if_true, ↓reduceIte, List.getElem?_cons_zero, List.getElem?_cons_succ, List.set_cons_zero, List.set_cons_succ, List.length_cons, List.length_nil, g_ld_s, g_v_s, g_ob_s, g_ia_s, g_la_s, g_qa_s, g_al_s, t_i_s, t_a_r, t_a_n, t_a_q, t_l_s, true_and, and_true, and_self, true_or, or_true, Decidable.not_not, not_true_eq_false, not_false_eq_true, false_implies, true_implies, implies_true, j_ok1_s, j_isL, j_cat_i, j_cat_l, j_cat_r, j_cat_n, j_rf_cat, j_rf_some, j_rf_none, k_w8_0, k_w8_i, k_w8_r, k_w8_l, k_sum0, k_ints, k_nari, k_narz0, k_narz1, k_okv0, k_okv1, k_okv2, k_okv2n, k_okv3, Option.toList_some, Option.toList_none, List.cons_append, List.nil_append, List.append_nil, List.map_cons, List.map_nil, List.sum_cons, List.sum_nil, Nat.add_zero, Nat.zero_add, Nat.reduceAdd, Nat.reduceMul, Nat.reduceSub, Nat.reduceDiv, Nat.reduceMod, Nat.reduceLT, Nat.reduceLeDiff, Nat.reduceEqDiff, Nat.reduceBEq, Nat.reduceBNe, Nat.one_ne_zero, Nat.zero_ne_one, Nat.succ_ne_self, Nat.le_refl, Nat.sub_self, Nat.sub_zero, Nat.zero_le, reduceCtorEq, eq_self, Bool.false_eq_true, pk_mul, nI_add, k_in, nI_clamp, nI_eq, nI_ltI, nI_leI, k_upd, k_eq0, k_lt0, k_0le, k_0lt, k_le0, k_mod]
        refine ⟨fun c => absurd c (by omega), fun _ => ?_⟩
        exact step F hF
  have outer : ∀ d t F Y, t + d = 7 → (∀ j, j < 8 → F j = nI (eN (gRn (g0 fr) (cEd S ro (S 1 0)) t j))) → j_S m_Chart_measure post 13 [some (.ref (ad 14 0)), some (.int (nI fr)), some (.ref (ad D 0)), some (.ref (ad 5 0)), some (.int (nI (S 1 0))), some (.int (nI (t + 1))), Y] [] (cW S X B (aA A D F) ad) 0 0 := by
    intro d
    induction d with
    | zero =>
      intro t F Y e hF
      have et : t = 7 := by omega
      subst et
      refine j_runs [] ok_Chart_measure 8 ?_
      simp (disch := first | omega | simp (disch := omega) only [sA_ne, sA_self]) only [st_Chart_measure, j_k, List.mem_cons, List.not_mem_nil, or_false, or_self, if_false, if_true, ↓reduceIte, List.getElem?_cons_zero, List.getElem?_cons_succ, List.set_cons_zero, List.set_cons_succ, List.length_cons, List.length_nil, g_ld_s, g_v_s, g_ob_s, g_ia_s, g_la_s, g_qa_s, g_al_s, t_i_s, t_a_r, t_a_n, t_a_q, t_l_s, true_and, and_true, and_self, true_or, or_true, Decidable.not_not, not_true_eq_false, not_false_eq_true, false_implies, true_implies, implies_true, j_ok1_s, j_isL, j_cat_i, j_cat_l, j_cat_r, j_cat_n, j_rf_cat, j_rf_some, j_rf_none, k_w8_0, k_w8_i, k_w8_r, k_w8_l, k_sum0, k_ints, k_nari, k_narz0, k_narz1, k_okv0, k_okv1, k_okv2, k_okv2n, k_okv3, Option.toList_some, Option.toList_none, List.cons_append, List.nil_append, List.append_nil, List.map_cons, List.map_nil, List.sum_cons, List.sum_nil, Nat.add_zero, Nat.zero_add, Nat.reduceAdd, Nat.reduceMul, Nat.reduceSub, Nat.reduceDiv, Nat.reduceMod, Nat.reduceLT, Nat.reduceLeDiff, Nat.reduceEqDiff, Nat.reduceBEq, Nat.reduceBNe, Nat.one_ne_zero, Nat.zero_ne_one, Nat.succ_ne_self, Nat.le_refl, Nat.sub_self, Nat.sub_zero, Nat.zero_le, reduceCtorEq, eq_self, Bool.false_eq_true, pk_mul, nI_add, k_in, nI_clamp, nI_eq, nI_ltI, nI_leI, k_upd, k_eq0, k_lt0, k_0le, k_0lt, k_le0, k_mod]
      exact h F (fun j hj => by rw [hF j hj, cRn_7 hS hf])
    | succ d ih =>
      intro t F Y e hF
      refine j_runs [23] ok_Chart_measure 8 ?_
      simp (disch := first | omega | simp (disch := omega) only [sA_ne, sA_self]) only [st_Chart_measure, j_k, List.mem_cons, List.not_mem_nil, or_false, or_self, if_false, if_true, ↓reduceIte, List.getElem?_cons_zero, List.getElem?_cons_succ, List.set_cons_zero, List.set_cons_succ, List.length_cons, List.length_nil, g_ld_s, g_v_s, g_ob_s, g_ia_s, g_la_s, g_qa_s, g_al_s, t_i_s, t_a_r, t_a_n, t_a_q, t_l_s, true_and, and_true, and_self, true_or, or_true, Decidable.not_not, not_true_eq_false, not_false_eq_true, false_implies, true_implies, implies_true, j_ok1_s, j_isL, j_cat_i, j_cat_l, j_cat_r, j_cat_n, j_rf_cat, j_rf_some, j_rf_none, k_w8_0, k_w8_i, k_w8_r, k_w8_l, k_sum0, k_ints, k_nari, k_narz0, k_narz1, k_okv0, k_okv1, k_okv2, k_okv2n, k_okv3, Option.toList_some, Option.toList_none, List.cons_append, List.nil_append, List.append_nil, List.map_cons, List.map_nil, List.sum_cons, List.sum_nil, Nat.add_zero, Nat.zero_add, Nat.reduceAdd, Nat.reduceMul, Nat.reduceSub, Nat.reduceDiv, Nat.reduceMod, Nat.reduceLT, Nat.reduceLeDiff, Nat.reduceEqDiff, Nat.reduceBEq, Nat.reduceBNe, Nat.one_ne_zero, Nat.zero_ne_one, Nat.succ_ne_self, Nat.le_refl, Nat.sub_self, Nat.sub_zero, Nat.zero_le, reduceCtorEq, eq_self, Bool.false_eq_true, pk_mul, nI_add, k_in, nI_clamp, nI_eq, nI_ltI, nI_leI, k_upd, k_eq0, k_lt0, k_0le, k_0lt, k_le0, k_mod]
      refine ⟨fun c => absurd c (by omega), fun _ => ?_⟩
      refine inner t (by omega) (fun F' hF' => ?_) (S 1 0) 0 F (by omega) hF
      refine j_runs [13] ok_Chart_measure 8 ?_
      simp (disch := first | omega | simp (disch := omega) only [sA_ne, sA_self]) only [st_Chart_measure, j_k, List.mem_cons, List.not_mem_nil, or_false, or_self, if_false, if_true, ↓reduceIte, List.getElem?_cons_zero, List.getElem?_cons_succ, List.set_cons_zero, List.set_cons_succ, List.length_cons, List.length_nil, g_ld_s, g_v_s, g_ob_s, g_ia_s, g_la_s, g_qa_s, g_al_s, t_i_s, t_a_r, t_a_n, t_a_q, t_l_s, true_and, and_true, and_self, true_or, or_true, Decidable.not_not, not_true_eq_false, not_false_eq_true, false_implies, true_implies, implies_true, j_ok1_s, j_isL, j_cat_i, j_cat_l, j_cat_r, j_cat_n, j_rf_cat, j_rf_some, j_rf_none, k_w8_0, k_w8_i, k_w8_r, k_w8_l, k_sum0, k_ints, k_nari, k_narz0, k_narz1, k_okv0, k_okv1, k_okv2, k_okv2n, k_okv3, Option.toList_some, Option.toList_none, List.cons_append, List.nil_append, List.append_nil, List.map_cons, List.map_nil, List.sum_cons, List.sum_nil, Nat.add_zero, Nat.zero_add, Nat.reduceAdd, Nat.reduceMul, Nat.reduceSub, Nat.reduceDiv, Nat.reduceMod, Nat.reduceLT, Nat.reduceLeDiff, Nat.reduceEqDiff, Nat.reduceBEq, Nat.reduceBNe, Nat.one_ne_zero, Nat.zero_ne_one, Nat.succ_ne_self, Nat.le_refl, Nat.sub_self, Nat.sub_zero, Nat.zero_le, reduceCtorEq, eq_self, Bool.false_eq_true, pk_mul, nI_add, k_in, nI_clamp, nI_eq, nI_ltI, nI_leI, k_upd, k_eq0, k_lt0, k_0le, k_0lt, k_le0, k_mod]
      exact ih (t + 1) F' _ (by omega) hF'
  refine j_runs [13] ok_Chart_measure 30 ?_
  simp (disch := first | omega | simp (disch := omega) only [sA_ne, sA_self]) only [st_Chart_measure, j_k, List.mem_cons, List.not_mem_nil, or_false, or_self, if_false, if_true, ↓reduceIte, List.getElem?_cons_zero, List.getElem?_cons_succ, List.set_cons_zero, List.set_cons_succ, List.length_cons, List.length_nil, g_ld_s, g_v_s, g_ob_s, g_ia_s, g_la_s, g_qa_s, g_al_s, t_i_s, t_a_r, t_a_n, t_a_q, t_l_s, true_and, and_true, and_self, true_or, or_true, Decidable.not_not, not_true_eq_false, not_false_eq_true, false_implies, true_implies, implies_true, j_ok1_s, j_isL, j_cat_i, j_cat_l, j_cat_r, j_cat_n, j_rf_cat, j_rf_some, j_rf_none, k_w8_0, k_w8_i, k_w8_r, k_w8_l, k_sum0, k_ints, k_nari, k_narz0, k_narz1, k_okv0, k_okv1, k_okv2, k_okv2n, k_okv3, Option.toList_some, Option.toList_none, List.cons_append, List.nil_append, List.append_nil, List.map_cons, List.map_nil, List.sum_cons, List.sum_nil, Nat.add_zero, Nat.zero_add, Nat.reduceAdd, Nat.reduceMul, Nat.reduceSub, Nat.reduceDiv, Nat.reduceMod, Nat.reduceLT, Nat.reduceLeDiff, Nat.reduceEqDiff, Nat.reduceBEq, Nat.reduceBNe, Nat.one_ne_zero, Nat.zero_ne_one, Nat.succ_ne_self, Nat.le_refl, Nat.sub_self, Nat.sub_zero, Nat.zero_le, reduceCtorEq, eq_self, Bool.false_eq_true]
  refine g_call0 (sp_Arrays_fill (cgD hD hI) (by decide) (fun g hg => ?_))
  rw [cpD hD hI]
  simp (disch := first | omega | simp (disch := omega) only [sA_ne, sA_self]) only [st_Chart_measure, cgD hD hI, cpD hD hI, aA_self, aA_aA, j_k, List.mem_cons, List.not_mem_nil, or_false, or_self, if_false, if_true, ↓reduceIte, List.getElem?_cons_zero, List.getElem?_cons_succ, List.set_cons_zero, List.set_cons_succ, List.length_cons, List.length_nil, g_ld_s, g_v_s, g_ob_s, g_ia_s, g_la_s, g_qa_s, g_al_s, t_i_s, t_a_r, t_a_n, t_a_q, t_l_s, true_and, and_true, and_self, true_or, or_true, Decidable.not_not, not_true_eq_false, not_false_eq_true, false_implies, true_implies, implies_true, j_ok1_s, j_isL, j_cat_i, j_cat_l, j_cat_r, j_cat_n, j_rf_cat, j_rf_some, j_rf_none, k_w8_0, k_w8_i, k_w8_r, k_w8_l, k_sum0, k_ints, k_nari, k_narz0, k_narz1, k_okv0, k_okv1, k_okv2, k_okv2n, k_okv3, Option.toList_some, Option.toList_none, List.cons_append, List.nil_append, List.append_nil, List.map_cons, List.map_nil, List.sum_cons, List.sum_nil, Nat.add_zero, Nat.zero_add, Nat.reduceAdd, Nat.reduceMul, Nat.reduceSub, Nat.reduceDiv, Nat.reduceMod, Nat.reduceLT, Nat.reduceLeDiff, Nat.reduceEqDiff, Nat.reduceBEq, Nat.reduceBNe, Nat.one_ne_zero, Nat.zero_ne_one, Nat.succ_ne_self, Nat.le_refl, Nat.sub_self, Nat.sub_zero, Nat.zero_le, reduceCtorEq, eq_self, Bool.false_eq_true, pk_mul, nI_add, k_in, nI_clamp, nI_eq, nI_ltI, nI_leI, k_upd, k_eq0, k_lt0, k_0le, k_0lt, k_le0, k_mod]
  refine outer 7 0 _ _ rfl (fun j hj => ?_)
  rw [upd_c]
  show _ = nI (eN (g0 fr j))
  unfold g0
  by_cases e : j = fr
  · rw [if_pos e, if_pos e]; rfl
  · rw [if_neg e, if_neg e, hg j hj]; rfl
set_option maxHeartbeats 4000000 in
set_option maxRecDepth 100000 in
theorem sp_Chart_survey {S X : Nat → Nat → Nat} {B : Nat → Nat → Int64} {A : Nat → Nat → Int32} {ad : Nat → Nat → Nat} {ro : Nat} {post : Option Value → jW → Prop} (hI : n_inj (cAl S) ad) (hS : rLk S) (hC : cI S X) (hr : ro < 8) (h : ∀ A', cG S ro A' → (∀ j, j < 8 → A' 15 j = nI (eN (rDs S ro ro j))) → post none (cW S X B A' ad)) : j_sem m_Chart_survey [.ref (ad 14 0), .int (nI ro), .ref (ad 4 ro), .ref (ad 5 0), .int (nI (S 1 0))] (cW S X B A ad) 0 0 post := by
  refine j_sem_of (by decide +kernel) (Nat.le_of_ble_eq_true rfl) ?_
  show j_S _ _ 0 [some (.ref (ad 14 0)), some (.int (nI ro)), some (.ref (ad 4 ro)), some (.ref (ad 5 0)), some (.int (nI (S 1 0))), none, none, none] [] _ 0 0
  have hK := hS.1
  have hL : S 1 0 ≤ 12 := hK 1 0
  have head : ∀ d l g Y Z, l + d = S 1 0 → (∀ i, i < l → (rGd S ro i → g i = nI 1) ∧ (¬ rGd S ro i → g i = nI 0)) → j_S m_Chart_survey post 3 [some (.ref (ad 14 0)), some (.int (nI ro)), some (.ref (ad 4 ro)), some (.ref (ad 5 0)), some (.int (nI (S 1 0))), some (.int (nI l)), Y, Z] [] (cW S X B (aA A 17 g) ad) 0 0 := by
    intro d
    induction d with
    | zero =>
      intro l g Y Z e hg
      refine j_runs [] ok_Chart_survey 16 ?_
      simp (disch := first | omega | simp (disch := omega) only [sA_ne, sA_self]) only [st_Chart_survey, cg14 hI, j_k, List.mem_cons, List.not_mem_nil, or_false, or_self, if_false, if_true, ↓reduceIte, List.getElem?_cons_zero, List.getElem?_cons_succ, List.set_cons_zero, List.set_cons_succ, List.length_cons, List.length_nil, g_ld_s, g_v_s, g_ob_s, g_ia_s, g_la_s, g_qa_s, g_al_s, t_i_s, t_a_r, t_a_n, t_a_q, t_l_s, true_and, and_true, and_self, true_or, or_true, Decidable.not_not, not_true_eq_false, not_false_eq_true, false_implies, true_implies, implies_true, j_ok1_s, j_isL, j_cat_i, j_cat_l, j_cat_r, j_cat_n, j_rf_cat, j_rf_some, j_rf_none, k_w8_0, k_w8_i, k_w8_r, k_w8_l, k_sum0, k_ints, k_nari, k_narz0, k_narz1, k_okv0, k_okv1, k_okv2, k_okv2n, k_okv3, Option.toList_some, Option.toList_none, List.cons_append, List.nil_append, List.append_nil, List.map_cons, List.map_nil, List.sum_cons, List.sum_nil, Nat.add_zero, Nat.zero_add, Nat.reduceAdd, Nat.reduceMul, Nat.reduceSub, Nat.reduceDiv, Nat.reduceMod, Nat.reduceLT, Nat.reduceLeDiff, Nat.reduceEqDiff, Nat.reduceBEq, Nat.reduceBNe, Nat.one_ne_zero, Nat.zero_ne_one, Nat.succ_ne_self, Nat.le_refl, Nat.sub_self, Nat.sub_zero, Nat.zero_le, reduceCtorEq, eq_self, Bool.false_eq_true, pk_mul, nI_add, k_in, nI_clamp, nI_eq, nI_ltI, nI_leI, k_upd, k_eq0, k_lt0, k_0le, k_0lt, k_le0, k_mod]
      refine ⟨fun _ => ?_, fun c => absurd (by omega) c⟩
      have hG : cG S ro (aA A 17 g) := fun i hi => by
        rw [aA_self]
        exact hg i (by omega)
      refine g_call0 (sp_Chart_measure (Or.inl rfl) hI hS hG hr (fun F' hF' => ?_))
      simp (disch := first | omega | simp (disch := omega) only [sA_ne, sA_self]) only [st_Chart_survey, j_k, List.mem_cons, List.not_mem_nil, or_false, or_self, if_false, if_true, ↓reduceIte, List.getElem?_cons_zero, List.getElem?_cons_succ, List.set_cons_zero, List.set_cons_succ, List.length_cons, List.length_nil, g_ld_s, g_v_s, g_ob_s, g_ia_s, g_la_s, g_qa_s, g_al_s, t_i_s, t_a_r, t_a_n, t_a_q, t_l_s, true_and, and_true, and_self, true_or, or_true, Decidable.not_not, not_true_eq_false, not_false_eq_true, false_implies, true_implies, implies_true, j_ok1_s, j_isL, j_cat_i, j_cat_l, j_cat_r, j_cat_n, j_rf_cat, j_rf_some, j_rf_none, k_w8_0, k_w8_i, k_w8_r, k_w8_l, k_sum0, k_ints, k_nari, k_narz0, k_narz1, k_okv0, k_okv1, k_okv2, k_okv2n, k_okv3, Option.toList_some, Option.toList_none, List.cons_append, List.nil_append, List.append_nil, List.map_cons, List.map_nil, List.sum_cons, List.sum_nil, Nat.add_zero, Nat.zero_add, Nat.reduceAdd, Nat.reduceMul, Nat.reduceSub, Nat.reduceDiv, Nat.reduceMod, Nat.reduceLT, Nat.reduceLeDiff, Nat.reduceEqDiff, Nat.reduceBEq, Nat.reduceBNe, Nat.one_ne_zero, Nat.zero_ne_one, Nat.succ_ne_self, Nat.le_refl, Nat.sub_self, Nat.sub_zero, Nat.zero_le, reduceCtorEq, eq_self, Bool.false_eq_true, pk_mul, nI_add, k_in, nI_clamp, nI_eq, nI_ltI, nI_leI, k_upd, k_eq0, k_lt0, k_0le, k_0lt, k_le0, k_mod]
      refine h _ (fun i hi => ?_) (fun j hj => ?_)
      · rw [aA_ne _ _ (by decide)]
        exact hG i hi
      · rw [aA_self]
        exact hF' j hj
    | succ d ih =>
      intro l g Y Z e hg
      have hl : l < S 1 0 := by omega
      have b1 : S 2 (2 * l) ≤ 7 := hK 2 _
      have b2 : S 2 (2 * l + 1) ≤ 7 := hK 2 _
      have c15 := fun i => hC.2.2.2.1 i
      have put : ∀ Y Z z, z ≤ 1 → (z = 1 ↔ rGd S ro l) → j_S m_Chart_survey post 73 [some (.ref (ad 14 0)), some (.int (nI ro)), some (.ref (ad 4 ro)), some (.ref (ad 5 0)), some (.int (nI (S 1 0))), some (.int (nI l)), Y, Z] [.int (nI z), .int (nI l), .ref (ad 17 0)] (cW S X B (aA A 17 g) ad) 0 0 := by
        intro Y Z z hz hzg
        refine j_runs [3] ok_Chart_survey 8 ?_
        simp (disch := first | omega | simp (disch := omega) only [sA_ne, sA_self]) only [st_Chart_survey, cg17 hI, cp_a17 hI, aA_self, aA_aA, k_nb, j_k, List.mem_cons, List.not_mem_nil, or_false, or_self, if_false, if_true, ↓reduceIte, List.getElem?_cons_zero, List.getElem?_cons_succ, List.set_cons_zero, List.set_cons_succ, List.length_cons, List.length_nil, g_ld_s, g_v_s, g_ob_s, g_ia_s, g_la_s, g_qa_s, g_al_s, t_i_s, t_a_r, t_a_n, t_a_q, t_l_s, true_and, and_true, and_self, true_or, or_true, Decidable.not_not, not_true_eq_false, not_false_eq_true, false_implies, true_implies, implies_true, j_ok1_s, j_isL, j_cat_i, j_cat_l, j_cat_r, j_cat_n, j_rf_cat, j_rf_some, j_rf_none, k_w8_0, k_w8_i, k_w8_r, k_w8_l, k_sum0, k_ints, k_nari, k_narz0, k_narz1, k_okv0, k_okv1, k_okv2, k_okv2n, k_okv3, Option.toList_some, Option.toList_none, List.cons_append, List.nil_append, List.append_nil, List.map_cons, List.map_nil, List.sum_cons, List.sum_nil, Nat.add_zero, Nat.zero_add, Nat.reduceAdd, Nat.reduceMul, Nat.reduceSub, Nat.reduceDiv, Nat.reduceMod, Nat.reduceLT, Nat.reduceLeDiff, Nat.reduceEqDiff, Nat.reduceBEq, Nat.reduceBNe, Nat.one_ne_zero, Nat.zero_ne_one, Nat.succ_ne_self, Nat.le_refl, Nat.sub_self, Nat.sub_zero, Nat.zero_le, reduceCtorEq, eq_self, Bool.false_eq_true, pk_mul, nI_add, k_in, nI_clamp, nI_eq, nI_ltI, nI_leI, k_upd, k_eq0, k_lt0, k_0le, k_0lt, k_le0, k_mod]
        refine ih (l + 1) _ _ _ (by omega) (fun i hi => ?_)
        rw [upd_c]
        by_cases ei : i = l
        · rw [if_pos ei, ei]
          refine ⟨fun q => by rw [hzg.mpr q], fun q => ?_⟩
          have : z = 0 := by
            have : z ≠ 1 := fun e => q (hzg.mp e)
            omega
          rw [this]
        · rw [if_neg ei]
          exact hg i (by omega)
      by_cases ca : S 15 (8 * ro + S 2 (2 * l)) = 0
      · have en : cAds 8 (fun j => S 15 (8 * ro + j)) (ad 18) (S 2 (2 * l)) = none := cAds_0 ca
        have ng : ¬ rGd S ro l := fun q => by have := q.1; omega
        by_cases cb : S 15 (8 * ro + S 2 (2 * l + 1)) = 0
        · have en2 : cAds 8 (fun j => S 15 (8 * ro + j)) (ad 18) (S 2 (2 * l + 1)) = none := cAds_0 cb
          refine j_runs [73] ok_Chart_survey 40 ?_
          simp (disch := first | omega | simp (disch := omega) only [sA_ne, sA_self]) only [st_Chart_survey, cg4 hI hr, cg5 hI, cg6 hI hl, cg14 hI, en, en2, cRow_lt, j_k, List.mem_cons, List.not_mem_nil, or_false, or_self, if_false, if_true, ↓reduceIte, List.getElem?_cons_zero, List.getElem?_cons_succ, List.set_cons_zero, List.set_cons_succ, List.length_cons, List.length_nil, g_ld_s, g_v_s, g_ob_s, g_ia_s, g_la_s, g_qa_s, g_al_s, t_i_s, t_a_r, t_a_n, t_a_q, t_l_s, true_and, and_true, and_self, true_or, or_true, Decidable.not_not, not_true_eq_false, not_false_eq_true, false_implies, true_implies, implies_true, j_ok1_s, j_isL, j_cat_i, j_cat_l, j_cat_r, j_cat_n, j_rf_cat, j_rf_some, j_rf_none, k_w8_0, k_w8_i, k_w8_r, k_w8_l, k_sum0, k_ints, k_nari, k_narz0, k_narz1, k_okv0, k_okv1, k_okv2, k_okv2n, k_okv3, Option.toList_some, Option.toList_none, List.cons_append, List.nil_append, List.append_nil, List.map_cons, List.map_nil, List.sum_cons, List.sum_nil, Nat.add_zero, Nat.zero_add, Nat.reduceAdd, Nat.reduceMul, Nat.reduceSub, Nat.reduceDiv, Nat.reduceMod, Nat.reduceLT, Nat.reduceLeDiff, Nat.reduceEqDiff, Nat.reduceBEq, Nat.reduceBNe, Nat.one_ne_zero, Nat.zero_ne_one, Nat.succ_ne_self, Nat.le_refl, Nat.sub_self, Nat.sub_zero, Nat.zero_le, reduceCtorEq, eq_self, Bool.false_eq_true, pk_mul, nI_add, k_in, nI_clamp, nI_eq, nI_ltI, nI_leI, k_upd, k_eq0, k_lt0, k_0le, k_0lt, k_le0, k_mod]
          refine ⟨fun c => absurd c (by omega), fun _ => ?_⟩
          exact put _ _ 0 (by decide) ⟨fun q => absurd q (by decide), fun q => absurd q ng⟩
        · have en2 : cAds 8 (fun j => S 15 (8 * ro + j)) (ad 18) (S 2 (2 * l + 1)) = some (ad 18 (S 15 (8 * ro + S 2 (2 * l + 1)))) := cAds_1 (by omega) cb
          refine j_runs [73] ok_Chart_survey 40 ?_
          simp (disch := first | omega | simp (disch := omega) only [sA_ne, sA_self]) only [st_Chart_survey, cg4 hI hr, cg5 hI, cg6 hI hl, cg14 hI, en, en2, cRow_lt, j_k, List.mem_cons, List.not_mem_nil, or_false, or_self, if_false, if_true, ↓reduceIte, List.getElem?_cons_zero, List.getElem?_cons_succ, List.set_cons_zero, List.set_cons_succ, List.length_cons, List.length_nil, g_ld_s, g_v_s, g_ob_s, g_ia_s, g_la_s, g_qa_s, g_al_s, t_i_s, t_a_r, t_a_n, t_a_q, t_l_s, true_and, and_true, and_self, true_or, or_true, Decidable.not_not, not_true_eq_false, not_false_eq_true, false_implies, true_implies, implies_true, j_ok1_s, j_isL, j_cat_i, j_cat_l, j_cat_r, j_cat_n, j_rf_cat, j_rf_some, j_rf_none, k_w8_0, k_w8_i, k_w8_r, k_w8_l, k_sum0, k_ints, k_nari, k_narz0, k_narz1, k_okv0, k_okv1, k_okv2, k_okv2n, k_okv3, Option.toList_some, Option.toList_none, List.cons_append, List.nil_append, List.append_nil, List.map_cons, List.map_nil, List.sum_cons, List.sum_nil, Nat.add_zero, Nat.zero_add, Nat.reduceAdd, Nat.reduceMul, Nat.reduceSub, Nat.reduceDiv, Nat.reduceMod, Nat.reduceLT, Nat.reduceLeDiff, Nat.reduceEqDiff, Nat.reduceBEq, Nat.reduceBNe, Nat.one_ne_zero, Nat.zero_ne_one, Nat.succ_ne_self, Nat.le_refl, Nat.sub_self, Nat.sub_zero, Nat.zero_le, reduceCtorEq, eq_self, Bool.false_eq_true, pk_mul, nI_add, k_in, nI_clamp, nI_eq, nI_ltI, nI_leI, k_upd, k_eq0, k_lt0, k_0le, k_0lt, k_le0, k_mod]
          refine ⟨fun c => absurd c (by omega), fun _ => ?_⟩
          exact put _ _ 0 (by decide) ⟨fun q => absurd q (by decide), fun q => absurd q ng⟩
      · have en : cAds 8 (fun j => S 15 (8 * ro + j)) (ad 18) (S 2 (2 * l)) = some (ad 18 (S 15 (8 * ro + S 2 (2 * l)))) := cAds_1 (by omega) ca
        have p1 : 1 ≤ S 15 (8 * ro + S 2 (2 * l)) := by omega
        have p2 := c15 (8 * ro + S 2 (2 * l))
        have s1 : S 11 (S 15 (8 * ro + S 2 (2 * l))) ≤ 4095 := hK 11 _
        by_cases cb : S 15 (8 * ro + S 2 (2 * l + 1)) = 0
        · have en2 : cAds 8 (fun j => S 15 (8 * ro + j)) (ad 18) (S 2 (2 * l + 1)) = none := cAds_0 cb
          have ng : ¬ rGd S ro l := fun q => by have := q.2.1; omega
          refine j_runs [73] ok_Chart_survey 40 ?_
          simp (disch := first | omega | simp (disch := omega) only [sA_ne, sA_self]) only [st_Chart_survey, cg4 hI hr, cg5 hI, cg6 hI hl, cg14 hI, en, en2, cRow_lt, j_k, List.mem_cons, List.not_mem_nil, or_false, or_self, if_false, if_true, ↓reduceIte, List.getElem?_cons_zero, List.getElem?_cons_succ, List.set_cons_zero, List.set_cons_succ, List.length_cons, List.length_nil, g_ld_s, g_v_s, g_ob_s, g_ia_s, g_la_s, g_qa_s, g_al_s, t_i_s, t_a_r, t_a_n, t_a_q, t_l_s, true_and, and_true, and_self, true_or, or_true, Decidable.not_not, not_true_eq_false, not_false_eq_true, false_implies, true_implies, implies_true, j_ok1_s, j_isL, j_cat_i, j_cat_l, j_cat_r, j_cat_n, j_rf_cat, j_rf_some, j_rf_none, k_w8_0, k_w8_i, k_w8_r, k_w8_l, k_sum0, k_ints, k_nari, k_narz0, k_narz1, k_okv0, k_okv1, k_okv2, k_okv2n, k_okv3, Option.toList_some, Option.toList_none, List.cons_append, List.nil_append, List.append_nil, List.map_cons, List.map_nil, List.sum_cons, List.sum_nil, Nat.add_zero, Nat.zero_add, Nat.reduceAdd, Nat.reduceMul, Nat.reduceSub, Nat.reduceDiv, Nat.reduceMod, Nat.reduceLT, Nat.reduceLeDiff, Nat.reduceEqDiff, Nat.reduceBEq, Nat.reduceBNe, Nat.one_ne_zero, Nat.zero_ne_one, Nat.succ_ne_self, Nat.le_refl, Nat.sub_self, Nat.sub_zero, Nat.zero_le, reduceCtorEq, eq_self, Bool.false_eq_true, pk_mul, nI_add, k_in, nI_clamp, nI_eq, nI_ltI, nI_leI, k_upd, k_eq0, k_lt0, k_0le, k_0lt, k_le0, k_mod]
          refine ⟨fun c => absurd c (by omega), fun _ => ?_⟩
          exact put _ _ 0 (by decide) ⟨fun q => absurd q (by decide), fun q => absurd q ng⟩
        · have en2 : cAds 8 (fun j => S 15 (8 * ro + j)) (ad 18) (S 2 (2 * l + 1)) = some (ad 18 (S 15 (8 * ro + S 2 (2 * l + 1)))) := cAds_1 (by omega) cb
          have p3 : 1 ≤ S 15 (8 * ro + S 2 (2 * l + 1)) := by omega
          have p4 := c15 (8 * ro + S 2 (2 * l + 1))
          have s2 : S 11 (S 15 (8 * ro + S 2 (2 * l + 1))) ≤ 4095 := hK 11 _
          have gi : rGd S ro l ↔ (S 11 (S 15 (8 * ro + S 2 (2 * l))) / 2 ^ l % 2 = 1 ∧ S 11 (S 15 (8 * ro + S 2 (2 * l + 1))) / 2 ^ l % 2 = 1) := by
            rw [← k_bit2]
            exact ⟨fun q => q.2.2, fun q => ⟨p1, p3, q⟩⟩
          refine j_runs [73] ok_Chart_survey 60 ?_
          simp (disch := first | omega | simp (disch := omega) only [sA_ne, sA_self]) only [st_Chart_survey, cg4 hI hr, cg5 hI, cg6 hI hl, cg14 hI, cg18 hI p1 p2, en, en2, cRow_lt, j_k, List.mem_cons, List.not_mem_nil, or_false, or_self, if_false, if_true, ↓reduceIte, List.getElem?_cons_zero, List.getElem?_cons_succ, List.set_cons_zero, List.set_cons_succ, List.length_cons, List.length_nil, g_ld_s, g_v_s, g_ob_s, g_ia_s, g_la_s, g_qa_s, g_al_s, t_i_s, t_a_r, t_a_n, t_a_q, t_l_s, true_and, and_true, and_self, true_or, or_true, Decidable.not_not, not_true_eq_false, not_false_eq_true, false_implies, true_implies, implies_true, j_ok1_s, j_isL, j_cat_i, j_cat_l, j_cat_r, j_cat_n, j_rf_cat, j_rf_some, j_rf_none, k_w8_0, k_w8_i, k_w8_r, k_w8_l, k_sum0, k_ints, k_nari, k_narz0, k_narz1, k_okv0, k_okv1, k_okv2, k_okv2n, k_okv3, Option.toList_some, Option.toList_none, List.cons_append, List.nil_append, List.append_nil, List.map_cons, List.map_nil, List.sum_cons, List.sum_nil, Nat.add_zero, Nat.zero_add, Nat.reduceAdd, Nat.reduceMul, Nat.reduceSub, Nat.reduceDiv, Nat.reduceMod, Nat.reduceLT, Nat.reduceLeDiff, Nat.reduceEqDiff, Nat.reduceBEq, Nat.reduceBNe, Nat.one_ne_zero, Nat.zero_ne_one, Nat.succ_ne_self, Nat.le_refl, Nat.sub_self, Nat.sub_zero, Nat.zero_le, reduceCtorEq, eq_self, Bool.false_eq_true, pk_mul, nI_add, k_in, nI_clamp, nI_eq, nI_ltI, nI_leI, k_upd, k_eq0, k_lt0, k_0le, k_0lt, k_le0, k_mod]
          refine ⟨fun c => absurd c (by omega), fun _ => ?_⟩
          refine g_call0 (sp_Advert_hasLink (cg18 hI p1 p2) s1 (by omega) (fun c1 => ?_) (fun c1 => ?_))
          · simp (disch := first | omega | simp (disch := omega) only [sA_ne, sA_self]) only [st_Chart_survey, cg18 hI p3 p4, j_k, List.mem_cons, List.not_mem_nil, or_false, or_self, if_false, if_true, ↓reduceIte, List.getElem?_cons_zero, List.getElem?_cons_succ, List.set_cons_zero, List.set_cons_succ, List.length_cons, List.length_nil, g_ld_s, g_v_s, g_ob_s, g_ia_s, g_la_s, g_qa_s, g_al_s, t_i_s, t_a_r, t_a_n, t_a_q, t_l_s, true_and, and_true, and_self, true_or, or_true, Decidable.not_not, not_true_eq_false, not_false_eq_true, false_implies, true_implies, implies_true, j_ok1_s, j_isL, j_cat_i, j_cat_l, j_cat_r, j_cat_n, j_rf_cat, j_rf_some, j_rf_none, k_w8_0, k_w8_i, k_w8_r, k_w8_l, k_sum0, k_ints, k_nari, k_narz0, k_narz1, k_okv0, k_okv1, k_okv2, k_okv2n, k_okv3, Option.toList_some, Option.toList_none, List.cons_append, List.nil_append, List.append_nil, List.map_cons, List.map_nil, List.sum_cons, List.sum_nil, Nat.add_zero, Nat.zero_add, Nat.reduceAdd, Nat.reduceMul, Nat.reduceSub, Nat.reduceDiv, Nat.reduceMod, Nat.reduceLT, Nat.reduceLeDiff, Nat.reduceEqDiff, Nat.reduceBEq, Nat.reduceBNe, Nat.one_ne_zero, Nat.zero_ne_one, Nat.succ_ne_self, Nat.le_refl, Nat.sub_self, Nat.sub_zero, Nat.zero_le, reduceCtorEq, eq_self, Bool.false_eq_true, pk_mul, nI_add, k_in, nI_clamp, nI_eq, nI_ltI, nI_leI, k_upd, k_eq0, k_lt0, k_0le, k_0lt, k_le0, k_mod]
            refine g_call0 (sp_Advert_hasLink (cg18 hI p3 p4) s2 (by omega) (fun c2 => ?_) (fun c2 => ?_))
            · simp (disch := first | omega | simp (disch := omega) only [sA_ne, sA_self]) only [st_Chart_survey, j_k, List.mem_cons, List.not_mem_nil, or_false, or_self, if_false, if_true, ↓reduceIte, List.getElem?_cons_zero, List.getElem?_cons_succ, List.set_cons_zero, List.set_cons_succ, List.length_cons, List.length_nil, g_ld_s, g_v_s, g_ob_s, g_ia_s, g_la_s, g_qa_s, g_al_s, t_i_s, t_a_r, t_a_n, t_a_q, t_l_s, true_and, and_true, and_self, true_or, or_true, Decidable.not_not, not_true_eq_false, not_false_eq_true, false_implies, true_implies, implies_true, j_ok1_s, j_isL, j_cat_i, j_cat_l, j_cat_r, j_cat_n, j_rf_cat, j_rf_some, j_rf_none, k_w8_0, k_w8_i, k_w8_r, k_w8_l, k_sum0, k_ints, k_nari, k_narz0, k_narz1, k_okv0, k_okv1, k_okv2, k_okv2n, k_okv3, Option.toList_some, Option.toList_none, List.cons_append, List.nil_append, List.append_nil, List.map_cons, List.map_nil, List.sum_cons, List.sum_nil, Nat.add_zero, Nat.zero_add, Nat.reduceAdd, Nat.reduceMul, Nat.reduceSub, Nat.reduceDiv, Nat.reduceMod, Nat.reduceLT, Nat.reduceLeDiff, Nat.reduceEqDiff, Nat.reduceBEq, Nat.reduceBNe, Nat.one_ne_zero, Nat.zero_ne_one, Nat.succ_ne_self, Nat.le_refl, Nat.sub_self, Nat.sub_zero, Nat.zero_le, reduceCtorEq, eq_self, Bool.false_eq_true, pk_mul, nI_add, k_in, nI_clamp, nI_eq, nI_ltI, nI_leI, k_upd, k_eq0, k_lt0, k_0le, k_0lt, k_le0, k_mod]
              exact put _ _ 1 (by decide) ⟨fun _ => gi.mpr ⟨c1, c2⟩, fun _ => rfl⟩
            · simp (disch := first | omega | simp (disch := omega) only [sA_ne, sA_self]) only [st_Chart_survey, j_k, List.mem_cons, List.not_mem_nil, or_false, or_self, if_false, if_true, ↓reduceIte, List.getElem?_cons_zero, List.getElem?_cons_succ, List.set_cons_zero, List.set_cons_succ, List.length_cons, List.length_nil, g_ld_s, g_v_s, g_ob_s, g_ia_s, g_la_s, g_qa_s, g_al_s, t_i_s, t_a_r, t_a_n, t_a_q, t_l_s, true_and, and_true, and_self, true_or, or_true, Decidable.not_not, not_true_eq_false, not_false_eq_true, false_implies, true_implies, implies_true, j_ok1_s, j_isL, j_cat_i, j_cat_l, j_cat_r, j_cat_n, j_rf_cat, j_rf_some, j_rf_none, k_w8_0, k_w8_i, k_w8_r, k_w8_l, k_sum0, k_ints, k_nari, k_narz0, k_narz1, k_okv0, k_okv1, k_okv2, k_okv2n, k_okv3, Option.toList_some, Option.toList_none, List.cons_append, List.nil_append, List.append_nil, List.map_cons, List.map_nil, List.sum_cons, List.sum_nil, Nat.add_zero, Nat.zero_add, Nat.reduceAdd, Nat.reduceMul, Nat.reduceSub, Nat.reduceDiv, Nat.reduceMod, Nat.reduceLT, Nat.reduceLeDiff, Nat.reduceEqDiff, Nat.reduceBEq, Nat.reduceBNe, Nat.one_ne_zero, Nat.zero_ne_one, Nat.succ_ne_self, Nat.le_refl, Nat.sub_self, Nat.sub_zero, Nat.zero_le, reduceCtorEq, eq_self, Bool.false_eq_true, pk_mul, nI_add, k_in, nI_clamp, nI_eq, nI_ltI, nI_leI, k_upd, k_eq0, k_lt0, k_0le, k_0lt, k_le0, k_mod]
              exact put _ _ 0 (by decide) ⟨fun q => absurd q (by decide), fun q => absurd (gi.mp q).2 c2⟩
          · simp (disch := first | omega | simp (disch := omega) only [sA_ne, sA_self]) only [st_Chart_survey, j_k, List.mem_cons, List.not_mem_nil, or_false, or_self, if_false, if_true, ↓reduceIte, List.getElem?_cons_zero, List.getElem?_cons_succ, List.set_cons_zero, List.set_cons_succ, List.length_cons, List.length_nil, g_ld_s, g_v_s, g_ob_s, g_ia_s, g_la_s, g_qa_s, g_al_s, t_i_s, t_a_r, t_a_n, t_a_q, t_l_s, true_and, and_true, and_self, true_or, or_true, Decidable.not_not, not_true_eq_false, not_false_eq_true, false_implies, true_implies, implies_true, j_ok1_s, j_isL, j_cat_i, j_cat_l, j_cat_r, j_cat_n, j_rf_cat, j_rf_some, j_rf_none, k_w8_0, k_w8_i, k_w8_r, k_w8_l, k_sum0, k_ints, k_nari, k_narz0, k_narz1, k_okv0, k_okv1, k_okv2, k_okv2n, k_okv3, Option.toList_some, Option.toList_none, List.cons_append, List.nil_append, List.append_nil, List.map_cons, List.map_nil, List.sum_cons, List.sum_nil, Nat.add_zero, Nat.zero_add, Nat.reduceAdd, Nat.reduceMul, Nat.reduceSub, Nat.reduceDiv, Nat.reduceMod, Nat.reduceLT, Nat.reduceLeDiff, Nat.reduceEqDiff, Nat.reduceBEq, Nat.reduceBNe, Nat.one_ne_zero, Nat.zero_ne_one, Nat.succ_ne_self, Nat.le_refl, Nat.sub_self, Nat.sub_zero, Nat.zero_le, reduceCtorEq, eq_self, Bool.false_eq_true, pk_mul, nI_add, k_in, nI_clamp, nI_eq, nI_ltI, nI_leI, k_upd, k_eq0, k_lt0, k_0le, k_0lt, k_le0, k_mod]
            exact put _ _ 0 (by decide) ⟨fun q => absurd q (by decide), fun q => absurd (gi.mp q).1 c1⟩
  refine j_runs [3] ok_Chart_survey 8 ?_
  simp (disch := first | omega | simp (disch := omega) only [sA_ne, sA_self]) only [st_Chart_survey, j_k, List.mem_cons, List.not_mem_nil, or_false, or_self, if_false, if_true, ↓reduceIte, List.getElem?_cons_zero, List.getElem?_cons_succ, List.set_cons_zero, List.set_cons_succ, List.length_cons, List.length_nil, g_ld_s, g_v_s, g_ob_s, g_ia_s, g_la_s, g_qa_s, g_al_s, t_i_s, t_a_r, t_a_n, t_a_q, t_l_s, true_and, and_true, and_self, true_or, or_true, Decidable.not_not, not_true_eq_false, not_false_eq_true, false_implies, true_implies, implies_true, j_ok1_s, j_isL, j_cat_i, j_cat_l, j_cat_r, j_cat_n, j_rf_cat, j_rf_some, j_rf_none, k_w8_0, k_w8_i, k_w8_r, k_w8_l, k_sum0, k_ints, k_nari, k_narz0, k_narz1, k_okv0, k_okv1, k_okv2, k_okv2n, k_okv3, Option.toList_some, Option.toList_none, List.cons_append, List.nil_append, List.append_nil, List.map_cons, List.map_nil, List.sum_cons, List.sum_nil, Nat.add_zero, Nat.zero_add, Nat.reduceAdd, Nat.reduceMul, Nat.reduceSub, Nat.reduceDiv, Nat.reduceMod, Nat.reduceLT, Nat.reduceLeDiff, Nat.reduceEqDiff, Nat.reduceBEq, Nat.reduceBNe, Nat.one_ne_zero, Nat.zero_ne_one, Nat.succ_ne_self, Nat.le_refl, Nat.sub_self, Nat.sub_zero, Nat.zero_le, reduceCtorEq, eq_self, Bool.false_eq_true]
  have := head (S 1 0) 0 (A 17) none none (by omega) (fun i hi => absurd hi (by omega))
  have e : aA A 17 (A 17) = A := by
    funext z
    by_cases hz : z = 17
    · subst hz; exact aA_self _ _ _
    · exact aA_ne _ _ hz
  rw [e] at this
  exact this
