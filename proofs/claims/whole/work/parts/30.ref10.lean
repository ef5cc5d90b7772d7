/-! good and measure -/
def oI (o : Option Nat) : Int32 := match o with
  | none => -1
  | some a => nI a
/-- a link that router ro sees from both ends -/
def rGd (S : Nat → Nat → Nat) (ro l : Nat) : Prop := 0 < S 15 (8 * ro + S 2 (2 * l)) ∧ 0 < S 15 (8 * ro + S 2 (2 * l + 1)) ∧ ¬ (S 11 (S 15 (8 * ro + S 2 (2 * l))) &&& S 11 (S 15 (8 * ro + S 2 (2 * l + 1)))) &&& 2 ^ l = 0
set_option maxHeartbeats 4000000 in
set_option maxRecDepth 100000 in
theorem sp_Ref_good {S : Nat → Nat → Nat} {F : Nat → Int32} {ad : Nat → Nat → Nat} {ro l : Nat} {post : Option Value → jW → Prop} (hI : n_inj rAl ad) (hS : rOK S) (hr : ro < 8) (hl : l < 12) (h1 : rGd S ro l → post (some (.int (nI 1))) (rW S F ad)) (h0 : ¬ rGd S ro l → post (some (.int (nI 0))) (rW S F ad)) : j_sem m_Ref_good [.ref (ad 0 0), .int (nI ro), .int (nI l)] (rW S F ad) 0 0 post := by
  refine j_sem_of (by decide +kernel) (Nat.le_of_ble_eq_true rfl) ?_
  show j_S _ _ 0 [some (.ref (ad 0 0)), some (.int (nI ro)), some (.int (nI l)), none, none] [] _ 0 0
  have b1 : S 2 (2 * l) ≤ 7 := hS 2 _
  have b2 : S 2 (2 * l + 1) ≤ 7 := hS 2 _
  have b3 : S 15 (8 * ro + S 2 (2 * l)) ≤ 1029 := hS 15 _
  have b4 : S 15 (8 * ro + S 2 (2 * l + 1)) ≤ 1029 := hS 15 _
  have b5 : (S 11 (S 15 (8 * ro + S 2 (2 * l))) &&& S 11 (S 15 (8 * ro + S 2 (2 * l + 1)))) &&& 2 ^ l ≤ 4095 := Nat.le_trans Nat.and_le_left (Nat.le_trans Nat.and_le_left (hS 11 _))
  refine j_runs [] ok_Ref_good 80 ?_
  simp (disch := first | omega | simp (disch := omega) only [sA_ne, sA_self]) only [st_Ref_good, rW_get hI, j_k, List.mem_cons, List.not_mem_nil, or_false, or_self, if_false, if_true, ↓reduceIte, List.getElem?_cons_zero, List.getElem?_cons_succ, List.set_cons_zero, List.set_cons_succ, List.length_cons, List.length_nil, g_ld_s, g_v_s, g_ob_s, g_ia_s, g_la_s, g_qa_s, g_al_s, t_i_s, t_a_r, t_a_n, t_a_q, t_l_s, true_and, and_true, and_self, true_or, or_true, Decidable.not_not, not_true_eq_false, not_false_eq_true, false_implies, true_implies, implies_true, j_ok1_s, j_isL, j_cat_i, j_cat_l, j_cat_r, j_cat_n, j_rf_cat, j_rf_some, j_rf_none, k_w8_0, k_w8_i, k_w8_r, k_w8_l, k_sum0, k_ints, k_nari, k_narz0, k_narz1, k_okv0, k_okv1, k_okv2, k_okv2n, k_okv3, Option.toList_some, Option.toList_none, List.cons_append, List.nil_append, List.append_nil, List.map_cons, List.map_nil, List.sum_cons, List.sum_nil, Nat.add_zero, Nat.zero_add, Nat.reduceAdd, Nat.reduceMul, Nat.reduceSub, Nat.reduceDiv, Nat.reduceMod, Nat.reduceLT, Nat.reduceLeDiff, Nat.reduceEqDiff, Nat.reduceBEq, Nat.reduceBNe, Nat.one_ne_zero, Nat.zero_ne_one, Nat.succ_ne_self, Nat.le_refl, Nat.sub_self, Nat.sub_zero, Nat.zero_le, reduceCtorEq, eq_self, Bool.false_eq_true, pk_mul, nI_add, k_in, nI_clamp, nI_eq, nI_ltI, nI_leI, k_upd, k_eq0, k_lt0, k_0le, k_0lt, k_le0, k_mod, k_shl1, k_and]
  refine ⟨fun c => h0 (fun q => ?_), fun c => ⟨fun c' => h0 (fun q => ?_), fun c' => ⟨fun c'' => h0 (fun q => q.2.2 c''), fun c'' => h1 ⟨by omega, by omega, c''⟩⟩⟩⟩
  · have := q.1; omega
  · have := q.2.1; omega
/-- one road of a link is tried: from x to y, at the cost c -/
def rx (G : Nat → Option Nat) (x y c : Nat) : Nat → Option Nat := match G x with
  | none => G
  | some a => match G y with
    | none => va_up G y (some (a + c))
    | some b => if a + c < b then va_up G y (some (a + c)) else G
noncomputable def rM1 (S : Nat → Nat → Nat) (ro : Nat) (G : Nat → Option Nat) (l e : Nat) : Nat → Option Nat := @ite _ (rGd S ro l) (Classical.propDecidable _) (rx G (S 2 (2 * l + e)) (S 2 (2 * l + 1 - e)) (S 3 l)) G
noncomputable def rMs (S : Nat → Nat → Nat) (ro fr : Nat) : Nat → Nat → Option Nat
  | 0 => fun d => if d = fr then some 0 else none
  | i + 1 => rM1 S ro (rMs S ro fr i) (i / 2 % S 1 0) (i % 2)
theorem rx_none {G : Nat → Option Nat} {x y c : Nat} (h : G x = none) : rx G x y c = G := by
  unfold rx
  rw [h]
theorem rx_new {G : Nat → Option Nat} {x y c a : Nat} (h : G x = some a) (h2 : G y = none) : rx G x y c = va_up G y (some (a + c)) := by
  unfold rx
  rw [h]
  dsimp only
  rw [h2]
theorem rx_low {G : Nat → Option Nat} {x y c a b : Nat} (h : G x = some a) (h2 : G y = some b) (h3 : a + c < b) : rx G x y c = va_up G y (some (a + c)) := by
  unfold rx
  rw [h]
  dsimp only
  rw [h2]
  dsimp only
  rw [if_pos h3]
theorem rx_high {G : Nat → Option Nat} {x y c a b : Nat} (h : G x = some a) (h2 : G y = some b) (h3 : ¬ a + c < b) : rx G x y c = G := by
  unfold rx
  rw [h]
  dsimp only
  rw [h2]
  dsimp only
  rw [if_neg h3]
/-- what a try can do -/
theorem rx_cases (G : Nat → Option Nat) (x y c : Nat) : rx G x y c = G ∨ ∃ a, G x = some a ∧ rx G x y c = va_up G y (some (a + c)) ∧ ∀ b, G y = some b → a + c < b := by
  cases hx : G x with
  | none => exact Or.inl (rx_none hx)
  | some a =>
    cases hy : G y with
    | none => exact Or.inr ⟨a, rfl, rx_new hx hy, fun b q => by cases q⟩
    | some b =>
      by_cases h : a + c < b
      · exact Or.inr ⟨a, rfl, rx_low hx hy h, fun b' q => by cases q; exact h⟩
      · exact Or.inl (rx_high hx hy h)
theorem rx_le {G : Nat → Option Nat} {x y c m : Nat} (h : ∀ j a, G j = some a → a ≤ m) (hc : c ≤ 50) : ∀ j a, rx G x y c j = some a → a ≤ m + 50 := by
  intro j a hj
  rcases rx_cases G x y c with e | ⟨b, hb, e, -⟩
  · rw [e] at hj
    have := h j a hj
    omega
  · rw [e] at hj
    have hb' := h x b hb
    unfold va_up at hj
    split at hj
    · cases hj; omega
    · have := h j a hj; omega
theorem rMs_le {S : Nat → Nat → Nat} (hS : rOK S) {ro fr : Nat} : ∀ i j a, rMs S ro fr i j = some a → a ≤ 50 * i
  | 0, j, a, h => by
    unfold rMs at h
    split at h
    · cases h; omega
    · cases h
  | i + 1, j, a, h => by
    unfold rMs rM1 at h
    split at h
    · have := rx_le (rMs_le hS i) (hS 3 _) j a h
      omega
    · have := rMs_le hS i j a h
      omega
theorem k_m1lt : ((-1 : Int32) < 0) ↔ True := ⟨fun _ => trivial, fun _ => by decide⟩
theorem k_m1ge : ((0 : Int32) ≤ -1) ↔ False := ⟨fun h => absurd h (by decide), False.elim⟩
theorem k_updo {F : Nat → Int32} {G : Nat → Option Nat} (h : ∀ j, j < 8 → F j = oI (G j)) (y a : Nat) : ∀ j, j < 8 → upd F y (nI a) j = oI (va_up G y (some a) j) := by
  intro j hj
  unfold upd va_up
  split
  · rfl
  · exact h j hj
set_option maxHeartbeats 4000000 in
set_option maxRecDepth 100000 in
theorem sp_Ref_measure {S : Nat → Nat → Nat} {F : Nat → Int32} {ad : Nat → Nat → Nat} {ro fr : Nat} {post : Option Value → jW → Prop} (hI : n_inj rAl ad) (hS : rOK S) (hr : ro < 8) (hfr : fr < 8) (h : ∀ F', (∀ j, j < 8 → F' j = oI (rMs S ro fr (16 * S 1 0) j)) → post none (rW S F' ad)) : j_sem m_Ref_measure [.ref (ad 0 0), .int (nI ro), .int (nI fr)] (rW S F ad) 0 0 post := by
  refine j_sem_of (by decide +kernel) (Nat.le_of_ble_eq_true rfl) ?_
  show j_S _ _ 0 [some (.ref (ad 0 0)), some (.int (nI ro)), some (.int (nI fr)), none, none, none, none] [] _ 0 0
  have hL : S 1 0 ≤ 12 := hS 1 0
  have head : ∀ d i F X Y Z, i + d = 16 * S 1 0 → (∀ j, j < 8 → F j = oI (rMs S ro fr i j)) → j_S m_Ref_measure post 32 [some (.ref (ad 0 0)), some (.int (nI ro)), some (.int (nI fr)), some (.int (nI i)), X, Y, Z] [] (rW S F ad) 0 0 := by
    intro d
    induction d with
    | zero =>
      intro i F X Y Z e hF
      refine j_runs [] ok_Ref_measure 20 ?_
      simp (disch := first | omega | simp (disch := omega) only [sA_ne, sA_self]) only [st_Ref_measure, rW_get hI, j_k, List.mem_cons, List.not_mem_nil, or_false, or_self, if_false, if_true, ↓reduceIte, List.getElem?_cons_zero, List.getElem?_cons_succ, List.set_cons_zero, List.set_cons_succ, List.length_cons, List.length_nil, g_ld_s, g_v_s, g_ob_s, g_ia_s, g_la_s, g_qa_s, g_al_s, t_i_s, t_a_r, t_a_n, t_a_q, t_l_s, true_and, and_true, and_self, true_or, or_true, Decidable.not_not, not_true_eq_false, not_false_eq_true, false_implies, true_implies, implies_true, j_ok1_s, j_isL, j_cat_i, j_cat_l, j_cat_r, j_cat_n, j_rf_cat, j_rf_some, j_rf_none, k_w8_0, k_w8_i, k_w8_r, k_w8_l, k_sum0, k_ints, k_nari, k_narz0, k_narz1, k_okv0, k_okv1, k_okv2, k_okv2n, k_okv3, Option.toList_some, Option.toList_none, List.cons_append, List.nil_append, List.append_nil, List.map_cons, List.map_nil, List.sum_cons, List.sum_nil, Nat.add_zero, Nat.zero_add, Nat.reduceAdd, Nat.reduceMul, Nat.reduceSub, Nat.reduceDiv, Nat.reduceMod, Nat.reduceLT, Nat.reduceLeDiff, Nat.reduceEqDiff, Nat.reduceBEq, Nat.reduceBNe, Nat.one_ne_zero, Nat.zero_ne_one, Nat.succ_ne_self, Nat.le_refl, Nat.sub_self, Nat.sub_zero, Nat.zero_le, reduceCtorEq, eq_self, Bool.false_eq_true, pk_mul, nI_add, k_in, nI_clamp, nI_eq, nI_ltI, nI_leI, k_upd, k_eq0, k_lt0, k_0le, k_0lt, k_le0, k_mod]
      refine ⟨fun _ => h F ?_, fun c => absurd (by omega) c⟩
      rw [← (show i = 16 * S 1 0 by omega)]
      exact hF
    | succ d ih =>
      intro i F X Y Z e hF
      have hL0 : 0 < S 1 0 := by omega
      have hl : i / 2 % S 1 0 < S 1 0 := Nat.mod_lt _ hL0
      have hi2 : i % 2 < 2 := Nat.mod_lt _ (by decide)
      have hdm : i / 2 / S 1 0 * S 1 0 ≤ i / 2 := Nat.div_mul_le_self _ _
      have next : ∀ F', (∀ j, j < 8 → F' j = oI (rM1 S ro (rMs S ro fr i) (i / 2 % S 1 0) (i % 2) j)) → ∀ X Y Z, j_S m_Ref_measure post 165 [some (.ref (ad 0 0)), some (.int (nI ro)), some (.int (nI fr)), some (.int (nI i)), X, Y, Z] [] (rW S F' ad) 0 0 := by
        intro F' hF' X Y Z
        refine j_runs [32] ok_Ref_measure 20 ?_
        simp (disch := first | omega | simp (disch := omega) only [sA_ne, sA_self]) only [st_Ref_measure, rW_get hI, j_k, List.mem_cons, List.not_mem_nil, or_false, or_self, if_false, if_true, ↓reduceIte, List.getElem?_cons_zero, List.getElem?_cons_succ, List.set_cons_zero, List.set_cons_succ, List.length_cons, List.length_nil, g_ld_s, g_v_s, g_ob_s, g_ia_s, g_la_s, g_qa_s, g_al_s, t_i_s, t_a_r, t_a_n, t_a_q, t_l_s, true_and, and_true, and_self, true_or, or_true, Decidable.not_not, not_true_eq_false, not_false_eq_true, false_implies, true_implies, implies_true, j_ok1_s, j_isL, j_cat_i, j_cat_l, j_cat_r, j_cat_n, j_rf_cat, j_rf_some, j_rf_none, k_w8_0, k_w8_i, k_w8_r, k_w8_l, k_sum0, k_ints, k_nari, k_narz0, k_narz1, k_okv0, k_okv1, k_okv2, k_okv2n, k_okv3, Option.toList_some, Option.toList_none, List.cons_append, List.nil_append, List.append_nil, List.map_cons, List.map_nil, List.sum_cons, List.sum_nil, Nat.add_zero, Nat.zero_add, Nat.reduceAdd, Nat.reduceMul, Nat.reduceSub, Nat.reduceDiv, Nat.reduceMod, Nat.reduceLT, Nat.reduceLeDiff, Nat.reduceEqDiff, Nat.reduceBEq, Nat.reduceBNe, Nat.one_ne_zero, Nat.zero_ne_one, Nat.succ_ne_self, Nat.le_refl, Nat.sub_self, Nat.sub_zero, Nat.zero_le, reduceCtorEq, eq_self, Bool.false_eq_true, pk_mul, nI_add, k_in, nI_clamp, nI_eq, nI_ltI, nI_leI, k_upd, k_eq0, k_lt0, k_0le, k_0lt, k_le0, k_mod]
        exact ih (i + 1) F' X Y Z (by omega) hF'
      generalize hlg : i / 2 % S 1 0 = l at *
      generalize heg : i % 2 = e2 at *
      have b2 : S 2 (2 * l + e2) ≤ 7 := hS 2 _
      have b2' : S 2 (2 * l + 1 - e2) ≤ 7 := hS 2 _
      have b3 : S 3 l ≤ 50 := hS 3 _
      have hx := hF (S 2 (2 * l + e2)) (by omega)
      have hy := hF (S 2 (2 * l + 1 - e2)) (by omega)
      have gx := rMs_le hS (ro := ro) (fr := fr) i (S 2 (2 * l + e2))
      have gy := rMs_le hS (ro := ro) (fr := fr) i (S 2 (2 * l + 1 - e2))
      generalize hG : rMs S ro fr i = G at *
      unfold rM1 at next
      refine j_runs [165] ok_Ref_measure 200 ?_
      simp (disch := first | omega | simp (disch := omega) only [sA_ne, sA_self]) only [st_Ref_measure, rW_get hI, j_k, List.mem_cons, List.not_mem_nil, or_false, or_self, if_false, if_true, ↓reduceIte, List.getElem?_cons_zero, List.getElem?_cons_succ, List.set_cons_zero, List.set_cons_succ, List.length_cons, List.length_nil, g_ld_s, g_v_s, g_ob_s, g_ia_s, g_la_s, g_qa_s, g_al_s, t_i_s, t_a_r, t_a_n, t_a_q, t_l_s, true_and, and_true, and_self, true_or, or_true, Decidable.not_not, not_true_eq_false, not_false_eq_true, false_implies, true_implies, implies_true, j_ok1_s, j_isL, j_cat_i, j_cat_l, j_cat_r, j_cat_n, j_rf_cat, j_rf_some, j_rf_none, k_w8_0, k_w8_i, k_w8_r, k_w8_l, k_sum0, k_ints, k_nari, k_narz0, k_narz1, k_okv0, k_okv1, k_okv2, k_okv2n, k_okv3, Option.toList_some, Option.toList_none, List.cons_append, List.nil_append, List.append_nil, List.map_cons, List.map_nil, List.sum_cons, List.sum_nil, Nat.add_zero, Nat.zero_add, Nat.reduceAdd, Nat.reduceMul, Nat.reduceSub, Nat.reduceDiv, Nat.reduceMod, Nat.reduceLT, Nat.reduceLeDiff, Nat.reduceEqDiff, Nat.reduceBEq, Nat.reduceBNe, Nat.one_ne_zero, Nat.zero_ne_one, Nat.succ_ne_self, Nat.le_refl, Nat.sub_self, Nat.sub_zero, Nat.zero_le, reduceCtorEq, eq_self, Bool.false_eq_true, pk_mul, nI_add, k_in, nI_clamp, nI_eq, nI_ltI, nI_leI, k_upd, k_eq0, k_lt0, k_0le, k_0lt, k_le0, k_mod, k_div, pk_sub, hlg, heg]
      refine ⟨fun c => absurd c (by omega), fun _ => ⟨by omega, ?_⟩⟩
      refine g_call0 (sp_Ref_good (l := l) hI hS hr (by omega) (fun cg => ?_) (fun cg => ?_))
      · rw [if_pos cg] at next
        simp (disch := first | omega | simp (disch := omega) only [sA_ne, sA_self]) only [st_Ref_measure, rW_get hI, j_k, List.mem_cons, List.not_mem_nil, or_false, or_self, if_false, if_true, ↓reduceIte, List.getElem?_cons_zero, List.getElem?_cons_succ, List.set_cons_zero, List.set_cons_succ, List.length_cons, List.length_nil, g_ld_s, g_v_s, g_ob_s, g_ia_s, g_la_s, g_qa_s, g_al_s, t_i_s, t_a_r, t_a_n, t_a_q, t_l_s, true_and, and_true, and_self, true_or, or_true, Decidable.not_not, not_true_eq_false, not_false_eq_true, false_implies, true_implies, implies_true, j_ok1_s, j_isL, j_cat_i, j_cat_l, j_cat_r, j_cat_n, j_rf_cat, j_rf_some, j_rf_none, k_w8_0, k_w8_i, k_w8_r, k_w8_l, k_sum0, k_ints, k_nari, k_narz0, k_narz1, k_okv0, k_okv1, k_okv2, k_okv2n, k_okv3, Option.toList_some, Option.toList_none, List.cons_append, List.nil_append, List.append_nil, List.map_cons, List.map_nil, List.sum_cons, List.sum_nil, Nat.add_zero, Nat.zero_add, Nat.reduceAdd, Nat.reduceMul, Nat.reduceSub, Nat.reduceDiv, Nat.reduceMod, Nat.reduceLT, Nat.reduceLeDiff, Nat.reduceEqDiff, Nat.reduceBEq, Nat.reduceBNe, Nat.one_ne_zero, Nat.zero_ne_one, Nat.succ_ne_self, Nat.le_refl, Nat.sub_self, Nat.sub_zero, Nat.zero_le, reduceCtorEq, eq_self, Bool.false_eq_true, pk_mul, nI_add, k_in, nI_clamp, nI_eq, nI_ltI, nI_leI, k_upd, k_eq0, k_lt0, k_0le, k_0lt, k_le0, k_mod, hx, hy]
        cases ex : G (S 2 (2 * l + e2)) with
        | none =>
          rw [rx_none ex] at next
          simp (disch := first | omega | simp (disch := omega) only [sA_ne, sA_self]) only [oI, k_m1ge, k_m1lt, j_k, List.mem_cons, List.not_mem_nil, or_false, or_self, if_false, if_true, ↓reduceIte, List.getElem?_cons_zero, List.getElem?_cons_succ, List.set_cons_zero, List.set_cons_succ, List.length_cons, List.length_nil, g_ld_s, g_v_s, g_ob_s, g_ia_s, g_la_s, g_qa_s, g_al_s, t_i_s, t_a_r, t_a_n, t_a_q, t_l_s, true_and, and_true, and_self, true_or, or_true, Decidable.not_not, not_true_eq_false, not_false_eq_true, false_implies, true_implies, implies_true, j_ok1_s, j_isL, j_cat_i, j_cat_l, j_cat_r, j_cat_n, j_rf_cat, j_rf_some, j_rf_none, k_w8_0, k_w8_i, k_w8_r, k_w8_l, k_sum0, k_ints, k_nari, k_narz0, k_narz1, k_okv0, k_okv1, k_okv2, k_okv2n, k_okv3, Option.toList_some, Option.toList_none, List.cons_append, List.nil_append, List.append_nil, List.map_cons, List.map_nil, List.sum_cons, List.sum_nil, Nat.add_zero, Nat.zero_add, Nat.reduceAdd, Nat.reduceMul, Nat.reduceSub, Nat.reduceDiv, Nat.reduceMod, Nat.reduceLT, Nat.reduceLeDiff, Nat.reduceEqDiff, Nat.reduceBEq, Nat.reduceBNe, Nat.one_ne_zero, Nat.zero_ne_one, Nat.succ_ne_self, Nat.le_refl, Nat.sub_self, Nat.sub_zero, Nat.zero_le, reduceCtorEq, eq_self, Bool.false_eq_true]
          exact next F hF _ _ _
        | some a =>
          have ba := gx a ex
          simp (disch := first | omega | simp (disch := omega) only [sA_ne, sA_self]) only [oI, j_k, List.mem_cons, List.not_mem_nil, or_false, or_self, if_false, if_true, ↓reduceIte, List.getElem?_cons_zero, List.getElem?_cons_succ, List.set_cons_zero, List.set_cons_succ, List.length_cons, List.length_nil, g_ld_s, g_v_s, g_ob_s, g_ia_s, g_la_s, g_qa_s, g_al_s, t_i_s, t_a_r, t_a_n, t_a_q, t_l_s, true_and, and_true, and_self, true_or, or_true, Decidable.not_not, not_true_eq_false, not_false_eq_true, false_implies, true_implies, implies_true, j_ok1_s, j_isL, j_cat_i, j_cat_l, j_cat_r, j_cat_n, j_rf_cat, j_rf_some, j_rf_none, k_w8_0, k_w8_i, k_w8_r, k_w8_l, k_sum0, k_ints, k_nari, k_narz0, k_narz1, k_okv0, k_okv1, k_okv2, k_okv2n, k_okv3, Option.toList_some, Option.toList_none, List.cons_append, List.nil_append, List.append_nil, List.map_cons, List.map_nil, List.sum_cons, List.sum_nil, Nat.add_zero, Nat.zero_add, Nat.reduceAdd, Nat.reduceMul, Nat.reduceSub, Nat.reduceDiv, Nat.reduceMod, Nat.reduceLT, Nat.reduceLeDiff, Nat.reduceEqDiff, Nat.reduceBEq, Nat.reduceBNe, Nat.one_ne_zero, Nat.zero_ne_one, Nat.succ_ne_self, Nat.le_refl, Nat.sub_self, Nat.sub_zero, Nat.zero_le, reduceCtorEq, eq_self, Bool.false_eq_true, pk_mul, nI_add, k_in, nI_clamp, nI_eq, nI_ltI, nI_leI, k_upd, k_eq0, k_lt0, k_0le, k_0lt, k_le0, k_mod]
          cases ey : G (S 2 (2 * l + 1 - e2)) with
          | none =>
            rw [rx_new ex ey] at next
            simp (disch := first | omega | simp (disch := omega) only [sA_ne, sA_self]) only [oI, k_m1ge, k_m1lt, j_k, List.mem_cons, List.not_mem_nil, or_false, or_self, if_false, if_true, ↓reduceIte, List.getElem?_cons_zero, List.getElem?_cons_succ, List.set_cons_zero, List.set_cons_succ, List.length_cons, List.length_nil, g_ld_s, g_v_s, g_ob_s, g_ia_s, g_la_s, g_qa_s, g_al_s, t_i_s, t_a_r, t_a_n, t_a_q, t_l_s, true_and, and_true, and_self, true_or, or_true, Decidable.not_not, not_true_eq_false, not_false_eq_true, false_implies, true_implies, implies_true, j_ok1_s, j_isL, j_cat_i, j_cat_l, j_cat_r, j_cat_n, j_rf_cat, j_rf_some, j_rf_none, k_w8_0, k_w8_i, k_w8_r, k_w8_l, k_sum0, k_ints, k_nari, k_narz0, k_narz1, k_okv0, k_okv1, k_okv2, k_okv2n, k_okv3, Option.toList_some, Option.toList_none, List.cons_append, List.nil_append, List.append_nil, List.map_cons, List.map_nil, List.sum_cons, List.sum_nil, Nat.add_zero, Nat.zero_add, Nat.reduceAdd, Nat.reduceMul, Nat.reduceSub, Nat.reduceDiv, Nat.reduceMod, Nat.reduceLT, Nat.reduceLeDiff, Nat.reduceEqDiff, Nat.reduceBEq, Nat.reduceBNe, Nat.one_ne_zero, Nat.zero_ne_one, Nat.succ_ne_self, Nat.le_refl, Nat.sub_self, Nat.sub_zero, Nat.zero_le, reduceCtorEq, eq_self, Bool.false_eq_true, pk_mul, nI_add, k_in, nI_clamp, nI_eq, nI_ltI, nI_leI, k_upd, k_eq0, k_lt0, k_0le, k_0lt, k_le0, k_mod, rW_put hI, hx, ex]
            exact next _ (k_updo hF _ _) _ _ _
          | some b =>
            have bb := gy b ey
            simp (disch := first | omega | simp (disch := omega) only [sA_ne, sA_self]) only [oI, j_k, List.mem_cons, List.not_mem_nil, or_false, or_self, if_false, if_true, ↓reduceIte, List.getElem?_cons_zero, List.getElem?_cons_succ, List.set_cons_zero, List.set_cons_succ, List.length_cons, List.length_nil, g_ld_s, g_v_s, g_ob_s, g_ia_s, g_la_s, g_qa_s, g_al_s, t_i_s, t_a_r, t_a_n, t_a_q, t_l_s, true_and, and_true, and_self, true_or, or_true, Decidable.not_not, not_true_eq_false, not_false_eq_true, false_implies, true_implies, implies_true, j_ok1_s, j_isL, j_cat_i, j_cat_l, j_cat_r, j_cat_n, j_rf_cat, j_rf_some, j_rf_none, k_w8_0, k_w8_i, k_w8_r, k_w8_l, k_sum0, k_ints, k_nari, k_narz0, k_narz1, k_okv0, k_okv1, k_okv2, k_okv2n, k_okv3, Option.toList_some, Option.toList_none, List.cons_append, List.nil_append, List.append_nil, List.map_cons, List.map_nil, List.sum_cons, List.sum_nil, Nat.add_zero, Nat.zero_add, Nat.reduceAdd, Nat.reduceMul, Nat.reduceSub, Nat.reduceDiv, Nat.reduceMod, Nat.reduceLT, Nat.reduceLeDiff, Nat.reduceEqDiff, Nat.reduceBEq, Nat.reduceBNe, Nat.one_ne_zero, Nat.zero_ne_one, Nat.succ_ne_self, Nat.le_refl, Nat.sub_self, Nat.sub_zero, Nat.zero_le, reduceCtorEq, eq_self, Bool.false_eq_true, pk_mul, nI_add, k_in, nI_clamp, nI_eq, nI_ltI, nI_leI, k_upd, k_eq0, k_lt0, k_0le, k_0lt, k_le0, k_mod, rW_put hI]
            refine ⟨fun c => ?_, fun c => ?_⟩
            · rw [rx_high ex ey (by omega)] at next
              exact next F hF _ _ _
            · rw [rx_low ex ey (by omega)] at next
              exact next _ (k_updo hF _ _) _ _ _
      · rw [if_neg cg] at next
        simp (disch := first | omega | simp (disch := omega) only [sA_ne, sA_self]) only [st_Ref_measure, rW_get hI, j_k, List.mem_cons, List.not_mem_nil, or_false, or_self, if_false, if_true, ↓reduceIte, List.getElem?_cons_zero, List.getElem?_cons_succ, List.set_cons_zero, List.set_cons_succ, List.length_cons, List.length_nil, g_ld_s, g_v_s, g_ob_s, g_ia_s, g_la_s, g_qa_s, g_al_s, t_i_s, t_a_r, t_a_n, t_a_q, t_l_s, true_and, and_true, and_self, true_or, or_true, Decidable.not_not, not_true_eq_false, not_false_eq_true, false_implies, true_implies, implies_true, j_ok1_s, j_isL, j_cat_i, j_cat_l, j_cat_r, j_cat_n, j_rf_cat, j_rf_some, j_rf_none, k_w8_0, k_w8_i, k_w8_r, k_w8_l, k_sum0, k_ints, k_nari, k_narz0, k_narz1, k_okv0, k_okv1, k_okv2, k_okv2n, k_okv3, Option.toList_some, Option.toList_none, List.cons_append, List.nil_append, List.append_nil, List.map_cons, List.map_nil, List.sum_cons, List.sum_nil, Nat.add_zero, Nat.zero_add, Nat.reduceAdd, Nat.reduceMul, Nat.reduceSub, Nat.reduceDiv, Nat.reduceMod, Nat.reduceLT, Nat.reduceLeDiff, Nat.reduceEqDiff, Nat.reduceBEq, Nat.reduceBNe, Nat.one_ne_zero, Nat.zero_ne_one, Nat.succ_ne_self, Nat.le_refl, Nat.sub_self, Nat.sub_zero, Nat.zero_le, reduceCtorEq, eq_self, Bool.false_eq_true, pk_mul, nI_add, k_in, nI_clamp, nI_eq, nI_ltI, nI_leI, k_upd, k_eq0, k_lt0, k_0le, k_0lt, k_le0, k_mod]
        exact next F hF _ _ _
  have init : ∀ d i F, i + d = 8 → (∀ j, j < i → F j = oI (rMs S ro fr 0 j)) → j_S m_Ref_measure post 2 [some (.ref (ad 0 0)), some (.int (nI ro)), some (.int (nI fr)), some (.int (nI i)), none, none, none] [] (rW S F ad) 0 0 := by
    intro d
    induction d with
    | zero =>
      intro i F e hF
      have ei : i = 8 := by omega
      subst ei
      refine j_runs [32] ok_Ref_measure 20 ?_
      simp (disch := first | omega | simp (disch := omega) only [sA_ne, sA_self]) only [st_Ref_measure, rW_get hI, j_k, List.mem_cons, List.not_mem_nil, or_false, or_self, if_false, if_true, ↓reduceIte, List.getElem?_cons_zero, List.getElem?_cons_succ, List.set_cons_zero, List.set_cons_succ, List.length_cons, List.length_nil, g_ld_s, g_v_s, g_ob_s, g_ia_s, g_la_s, g_qa_s, g_al_s, t_i_s, t_a_r, t_a_n, t_a_q, t_l_s, true_and, and_true, and_self, true_or, or_true, Decidable.not_not, not_true_eq_false, not_false_eq_true, false_implies, true_implies, implies_true, j_ok1_s, j_isL, j_cat_i, j_cat_l, j_cat_r, j_cat_n, j_rf_cat, j_rf_some, j_rf_none, k_w8_0, k_w8_i, k_w8_r, k_w8_l, k_sum0, k_ints, k_nari, k_narz0, k_narz1, k_okv0, k_okv1, k_okv2, k_okv2n, k_okv3, Option.toList_some, Option.toList_none, List.cons_append, List.nil_append, List.append_nil, List.map_cons, List.map_nil, List.sum_cons, List.sum_nil, Nat.add_zero, Nat.zero_add, Nat.reduceAdd, Nat.reduceMul, Nat.reduceSub, Nat.reduceDiv, Nat.reduceMod, Nat.reduceLT, Nat.reduceLeDiff, Nat.reduceEqDiff, Nat.reduceBEq, Nat.reduceBNe, Nat.one_ne_zero, Nat.zero_ne_one, Nat.succ_ne_self, Nat.le_refl, Nat.sub_self, Nat.sub_zero, Nat.zero_le, reduceCtorEq, eq_self, Bool.false_eq_true, pk_mul, nI_add, k_in, nI_clamp, nI_eq, nI_ltI, nI_leI, k_upd, k_eq0, k_lt0, k_0le, k_0lt, k_le0, k_mod]
      exact head (16 * S 1 0) 0 F none none none (by omega) hF
    | succ d ih =>
      intro i F e hF
      have step : ∀ v, v = oI (rMs S ro fr 0 i) → j_S m_Ref_measure post 24 [some (.ref (ad 0 0)), some (.int (nI ro)), some (.int (nI fr)), some (.int (nI i)), none, none, none] [] (rW S (upd F i v) ad) 0 0 := by
        intro v hv
        refine j_runs [2] ok_Ref_measure 20 ?_
        simp (disch := first | omega | simp (disch := omega) only [sA_ne, sA_self]) only [st_Ref_measure, rW_get hI, j_k, List.mem_cons, List.not_mem_nil, or_false, or_self, if_false, if_true, ↓reduceIte, List.getElem?_cons_zero, List.getElem?_cons_succ, List.set_cons_zero, List.set_cons_succ, List.length_cons, List.length_nil, g_ld_s, g_v_s, g_ob_s, g_ia_s, g_la_s, g_qa_s, g_al_s, t_i_s, t_a_r, t_a_n, t_a_q, t_l_s, true_and, and_true, and_self, true_or, or_true, Decidable.not_not, not_true_eq_false, not_false_eq_true, false_implies, true_implies, implies_true, j_ok1_s, j_isL, j_cat_i, j_cat_l, j_cat_r, j_cat_n, j_rf_cat, j_rf_some, j_rf_none, k_w8_0, k_w8_i, k_w8_r, k_w8_l, k_sum0, k_ints, k_nari, k_narz0, k_narz1, k_okv0, k_okv1, k_okv2, k_okv2n, k_okv3, Option.toList_some, Option.toList_none, List.cons_append, List.nil_append, List.append_nil, List.map_cons, List.map_nil, List.sum_cons, List.sum_nil, Nat.add_zero, Nat.zero_add, Nat.reduceAdd, Nat.reduceMul, Nat.reduceSub, Nat.reduceDiv, Nat.reduceMod, Nat.reduceLT, Nat.reduceLeDiff, Nat.reduceEqDiff, Nat.reduceBEq, Nat.reduceBNe, Nat.one_ne_zero, Nat.zero_ne_one, Nat.succ_ne_self, Nat.le_refl, Nat.sub_self, Nat.sub_zero, Nat.zero_le, reduceCtorEq, eq_self, Bool.false_eq_true, pk_mul, nI_add, k_in, nI_clamp, nI_eq, nI_ltI, nI_leI, k_upd, k_eq0, k_lt0, k_0le, k_0lt, k_le0, k_mod]
        refine ih (i + 1) _ (by omega) (fun j hj => ?_)
        unfold upd
        split
        · rename_i q; rw [q, hv]
        · exact hF j (by omega)
      refine j_runs [24] ok_Ref_measure 40 ?_
      simp (disch := first | omega | simp (disch := omega) only [sA_ne, sA_self]) only [st_Ref_measure, rW_get hI, rW_put hI, j_k, List.mem_cons, List.not_mem_nil, or_false, or_self, if_false, if_true, ↓reduceIte, List.getElem?_cons_zero, List.getElem?_cons_succ, List.set_cons_zero, List.set_cons_succ, List.length_cons, List.length_nil, g_ld_s, g_v_s, g_ob_s, g_ia_s, g_la_s, g_qa_s, g_al_s, t_i_s, t_a_r, t_a_n, t_a_q, t_l_s, true_and, and_true, and_self, true_or, or_true, Decidable.not_not, not_true_eq_false, not_false_eq_true, false_implies, true_implies, implies_true, j_ok1_s, j_isL, j_cat_i, j_cat_l, j_cat_r, j_cat_n, j_rf_cat, j_rf_some, j_rf_none, k_w8_0, k_w8_i, k_w8_r, k_w8_l, k_sum0, k_ints, k_nari, k_narz0, k_narz1, k_okv0, k_okv1, k_okv2, k_okv2n, k_okv3, Option.toList_some, Option.toList_none, List.cons_append, List.nil_append, List.append_nil, List.map_cons, List.map_nil, List.sum_cons, List.sum_nil, Nat.add_zero, Nat.zero_add, Nat.reduceAdd, Nat.reduceMul, Nat.reduceSub, Nat.reduceDiv, Nat.reduceMod, Nat.reduceLT, Nat.reduceLeDiff, Nat.reduceEqDiff, Nat.reduceBEq, Nat.reduceBNe, Nat.one_ne_zero, Nat.zero_ne_one, Nat.succ_ne_self, Nat.le_refl, Nat.sub_self, Nat.sub_zero, Nat.zero_le, reduceCtorEq, eq_self, Bool.false_eq_true, pk_mul, nI_add, k_in, nI_clamp, nI_eq, nI_ltI, nI_leI, k_upd, k_eq0, k_lt0, k_0le, k_0lt, k_le0, k_mod]
      refine ⟨fun c => absurd c (by omega), fun _ => ⟨fun c => step _ ?_, fun c => step _ ?_⟩⟩
      · unfold rMs; rw [if_neg c]; rfl
      · unfold rMs; rw [if_pos c]; rfl
  refine j_runs [2] ok_Ref_measure 20 ?_
  simp (disch := first | omega | simp (disch := omega) only [sA_ne, sA_self]) only [st_Ref_measure, rW_get hI, j_k, List.mem_cons, List.not_mem_nil, or_false, or_self, if_false, if_true, ↓reduceIte, List.getElem?_cons_zero, List.getElem?_cons_succ, List.set_cons_zero, List.set_cons_succ, List.length_cons, List.length_nil, g_ld_s, g_v_s, g_ob_s, g_ia_s, g_la_s, g_qa_s, g_al_s, t_i_s, t_a_r, t_a_n, t_a_q, t_l_s, true_and, and_true, and_self, true_or, or_true, Decidable.not_not, not_true_eq_false, not_false_eq_true, false_implies, true_implies, implies_true, j_ok1_s, j_isL, j_cat_i, j_cat_l, j_cat_r, j_cat_n, j_rf_cat, j_rf_some, j_rf_none, k_w8_0, k_w8_i, k_w8_r, k_w8_l, k_sum0, k_ints, k_nari, k_narz0, k_narz1, k_okv0, k_okv1, k_okv2, k_okv2n, k_okv3, Option.toList_some, Option.toList_none, List.cons_append, List.nil_append, List.append_nil, List.map_cons, List.map_nil, List.sum_cons, List.sum_nil, Nat.add_zero, Nat.zero_add, Nat.reduceAdd, Nat.reduceMul, Nat.reduceSub, Nat.reduceDiv, Nat.reduceMod, Nat.reduceLT, Nat.reduceLeDiff, Nat.reduceEqDiff, Nat.reduceBEq, Nat.reduceBNe, Nat.one_ne_zero, Nat.zero_ne_one, Nat.succ_ne_self, Nat.le_refl, Nat.sub_self, Nat.sub_zero, Nat.zero_le, reduceCtorEq, eq_self, Bool.false_eq_true, pk_mul, nI_add, k_in, nI_clamp, nI_eq, nI_ltI, nI_leI, k_upd, k_eq0, k_lt0, k_0le, k_0lt, k_le0, k_mod]
  exact init 8 0 F rfl (fun j hj => absurd hj (by omega))
