/-- what shareBoth has put after n turns -/
def rSh (S : Nat → Nat → Nat) (l : Nat) : Nat → Nat → Nat → Nat
  | 0 => S
  | i + 1 => if 0 < S 15 (8 * S 2 (2 * l + i / 8) + i % 8) then rPut (rSh S l i) (S 2 (2 * l + i / 8)) l (S 15 (8 * S 2 (2 * l + i / 8) + i % 8)) else rSh S l i
theorem rSh_ok {S : Nat → Nat → Nat} (h : rOK S) {l : Nat} : ∀ n, rOK (rSh S l n)
  | 0 => h
  | i + 1 => by
    unfold rSh
    split
    · exact rPut_ok (rSh_ok h i) (h 15 _)
    · exact rSh_ok h i
theorem rSh_keeps {S : Nat → Nat → Nat} {l k : Nat} (h1 : k ≠ 16) (h2 : k ≠ 17) : ∀ n, rSh S l n k = S k
  | 0 => rfl
  | i + 1 => by
    unfold rSh
    split
    · rw [rPut_keeps h1 h2]; exact rSh_keeps h1 h2 i
    · exact rSh_keeps h1 h2 i
theorem k_div {a d : Nat} (ha : a < 2 ^ 31) (h0 : 0 < d) (hd : d < 2 ^ 31) : nI a / nI d = nI (a / d) := pk_div ha h0 hd
set_option maxHeartbeats 4000000 in
set_option maxRecDepth 100000 in
theorem sp_Ref_shareBoth {S : Nat → Nat → Nat} {F : Nat → Int32} {ad : Nat → Nat → Nat} {l : Nat} {post : Option Value → jW → Prop} (hI : n_inj rAl ad) (hS : rOK S) (hl : l < 12) (h : post none (rW (rSh S l 16) F ad)) : j_sem m_Ref_shareBoth [.ref (ad 0 0), .int (nI l)] (rW S F ad) 0 0 post := by
  refine j_sem_of (by decide +kernel) (Nat.le_of_ble_eq_true rfl) ?_
  show j_S _ _ 0 [some (.ref (ad 0 0)), some (.int (nI l)), none, none, none] [] _ 0 0
  have e2 : ∀ i, rSh S l i 2 = S 2 := rSh_keeps (by decide) (by decide)
  have e15 : ∀ i, rSh S l i 15 = S 15 := rSh_keeps (by decide) (by decide)
  have head : ∀ d i X Y, i + d = 16 → j_S m_Ref_shareBoth post 2 [some (.ref (ad 0 0)), some (.int (nI l)), some (.int (nI i)), X, Y] [] (rW (rSh S l i) F ad) 0 0 := by
    intro d
    induction d with
    | zero =>
      intro i X Y e
      have ei : i = 16 := by omega
      subst ei
      refine j_runs [2] ok_Ref_shareBoth 8 ?_
      simp (disch := first | omega | simp (disch := omega) only [sA_ne, sA_self]) only [st_Ref_shareBoth, j_k, List.mem_cons, List.not_mem_nil, or_false, or_self, if_false, if_true, ↓reduceIte, List.getElem?_cons_zero, List.getElem?_cons_succ, List.set_cons_zero, List.set_cons_succ, List.length_cons, List.length_nil, g_ld_s, g_v_s, g_ob_s, g_ia_s, g_la_s, g_qa_s, g_al_s, t_i_s, t_a_r, t_a_n, t_a_q, t_l_s, true_and, and_true, and_self, true_or, or_true, Decidable.not_not, not_true_eq_false, not_false_eq_true, false_implies, true_implies, implies_true, j_ok1_s, j_isL, j_cat_i, j_cat_l, j_cat_r, j_cat_n, j_rf_cat, j_rf_some, j_rf_none, k_w8_0, k_w8_i, k_w8_r, k_w8_l, k_sum0, k_ints, k_nari, k_narz0, k_narz1, k_okv0, k_okv1, k_okv2, k_okv2n, k_okv3, Option.toList_some, Option.toList_none, List.cons_append, List.nil_append, List.append_nil, List.map_cons, List.map_nil, List.sum_cons, List.sum_nil, Nat.add_zero, Nat.zero_add, Nat.reduceAdd, Nat.reduceMul, Nat.reduceSub, Nat.reduceDiv, Nat.reduceMod, Nat.reduceLT, Nat.reduceLeDiff, Nat.reduceEqDiff, Nat.reduceBEq, Nat.reduceBNe, Nat.one_ne_zero, Nat.zero_ne_one, Nat.succ_ne_self, Nat.le_refl, Nat.sub_self, Nat.sub_zero, Nat.zero_le, reduceCtorEq, eq_self, Bool.false_eq_true, pk_mul, nI_add, k_in, nI_clamp, nI_eq, nI_ltI, nI_leI, k_upd, k_eq0, k_lt0, k_0le, k_0lt, k_le0, k_mod]
      exact h
    | succ d ih =>
      intro i X Y e
      have hi : i < 16 := by omega
      have hT := rSh_ok hS (l := l) i
      have b2 : S 2 (2 * l + i / 8) ≤ 7 := hS 2 _
      have b15 : S 15 (8 * S 2 (2 * l + i / 8) + i % 8) ≤ 1029 := hS 15 _
      have hd : i / 8 ≤ 1 := by omega
      have next : ∀ X Y, j_S m_Ref_shareBoth post 2 [some (.ref (ad 0 0)), some (.int (nI l)), some (.int (nI (i + 1))), X, Y] [] (rW (rSh S l (i + 1)) F ad) 0 0 := fun X Y => ih (i + 1) X Y (by omega)
      refine j_runs [51] ok_Ref_shareBoth 60 ?_
      simp (disch := first | omega | simp (disch := omega) only [sA_ne, sA_self]) only [st_Ref_shareBoth, rW_get hI, j_k, List.mem_cons, List.not_mem_nil, or_false, or_self, if_false, if_true, ↓reduceIte, List.getElem?_cons_zero, List.getElem?_cons_succ, List.set_cons_zero, List.set_cons_succ, List.length_cons, List.length_nil, g_ld_s, g_v_s, g_ob_s, g_ia_s, g_la_s, g_qa_s, g_al_s, t_i_s, t_a_r, t_a_n, t_a_q, t_l_s, true_and, and_true, and_self, true_or, or_true, Decidable.not_not, not_true_eq_false, not_false_eq_true, false_implies, true_implies, implies_true, j_ok1_s, j_isL, j_cat_i, j_cat_l, j_cat_r, j_cat_n, j_rf_cat, j_rf_some, j_rf_none, k_w8_0, k_w8_i, k_w8_r, k_w8_l, k_sum0, k_ints, k_nari, k_narz0, k_narz1, k_okv0, k_okv1, k_okv2, k_okv2n, k_okv3, Option.toList_some, Option.toList_none, List.cons_append, List.nil_append, List.append_nil, List.map_cons, List.map_nil, List.sum_cons, List.sum_nil, Nat.add_zero, Nat.zero_add, Nat.reduceAdd, Nat.reduceMul, Nat.reduceSub, Nat.reduceDiv, Nat.reduceMod, Nat.reduceLT, Nat.reduceLeDiff, Nat.reduceEqDiff, Nat.reduceBEq, Nat.reduceBNe, Nat.one_ne_zero, Nat.zero_ne_one, Nat.succ_ne_self, Nat.le_refl, Nat.sub_self, Nat.sub_zero, Nat.zero_le, reduceCtorEq, eq_self, Bool.false_eq_true, pk_mul, nI_add, k_in, nI_clamp, nI_eq, nI_ltI, nI_leI, k_upd, k_eq0, k_lt0, k_0le, k_0lt, k_le0, k_mod, k_div, pk_sub, e2, e15]
      refine ⟨fun c => absurd c (by omega), fun _ => ⟨fun c => ?_, fun c => ?_⟩⟩
      · refine j_runs [2] ok_Ref_shareBoth 8 ?_
        simp (disch := first | omega | simp (disch := omega) only [sA_ne, sA_self]) only [st_Ref_shareBoth, j_k, List.mem_cons, List.not_mem_nil, or_false, or_self, if_false, if_true, ↓reduceIte, List.getElem?_cons_zero, List.getElem?_cons_succ, List.set_cons_zero, List.set_cons_succ, List.length_cons, List.length_nil, g_ld_s, g_v_s, g_ob_s, g_ia_s, g_la_s, g_qa_s, g_al_s, t_i_s, t_a_r, t_a_n, t_a_q, t_l_s, true_and, and_true, and_self, true_or, or_true, Decidable.not_not, not_true_eq_false, not_false_eq_true, false_implies, true_implies, implies_true, j_ok1_s, j_isL, j_cat_i, j_cat_l, j_cat_r, j_cat_n, j_rf_cat, j_rf_some, j_rf_none, k_w8_0, k_w8_i, k_w8_r, k_w8_l, k_sum0, k_ints, k_nari, k_narz0, k_narz1, k_okv0, k_okv1, k_okv2, k_okv2n, k_okv3, Option.toList_some, Option.toList_none, List.cons_append, List.nil_append, List.append_nil, List.map_cons, List.map_nil, List.sum_cons, List.sum_nil, Nat.add_zero, Nat.zero_add, Nat.reduceAdd, Nat.reduceMul, Nat.reduceSub, Nat.reduceDiv, Nat.reduceMod, Nat.reduceLT, Nat.reduceLeDiff, Nat.reduceEqDiff, Nat.reduceBEq, Nat.reduceBNe, Nat.one_ne_zero, Nat.zero_ne_one, Nat.succ_ne_self, Nat.le_refl, Nat.sub_self, Nat.sub_zero, Nat.zero_le, reduceCtorEq, eq_self, Bool.false_eq_true, pk_mul, nI_add, k_in, nI_clamp, nI_eq, nI_ltI, nI_leI, k_upd, k_eq0, k_lt0, k_0le, k_0lt, k_le0, k_mod]
        have := next (some (.int (nI (S 2 (2 * l + i / 8))))) (some (.int (nI (S 15 (8 * S 2 (2 * l + i / 8) + i % 8)))))
        unfold rSh at this
        rw [if_neg (by omega)] at this
        exact this
      · refine g_call0 (sp_Ref_put hI hT.b (fun q => hT 16 q) hl (by omega) ?_)
        simp (disch := first | omega | simp (disch := omega) only [sA_ne, sA_self]) only [st_Ref_shareBoth, j_k, List.mem_cons, List.not_mem_nil, or_false, or_self, if_false, if_true, ↓reduceIte, List.getElem?_cons_zero, List.getElem?_cons_succ, List.set_cons_zero, List.set_cons_succ, List.length_cons, List.length_nil, g_ld_s, g_v_s, g_ob_s, g_ia_s, g_la_s, g_qa_s, g_al_s, t_i_s, t_a_r, t_a_n, t_a_q, t_l_s, true_and, and_true, and_self, true_or, or_true, Decidable.not_not, not_true_eq_false, not_false_eq_true, false_implies, true_implies, implies_true, j_ok1_s, j_isL, j_cat_i, j_cat_l, j_cat_r, j_cat_n, j_rf_cat, j_rf_some, j_rf_none, k_w8_0, k_w8_i, k_w8_r, k_w8_l, k_sum0, k_ints, k_nari, k_narz0, k_narz1, k_okv0, k_okv1, k_okv2, k_okv2n, k_okv3, Option.toList_some, Option.toList_none, List.cons_append, List.nil_append, List.append_nil, List.map_cons, List.map_nil, List.sum_cons, List.sum_nil, Nat.add_zero, Nat.zero_add, Nat.reduceAdd, Nat.reduceMul, Nat.reduceSub, Nat.reduceDiv, Nat.reduceMod, Nat.reduceLT, Nat.reduceLeDiff, Nat.reduceEqDiff, Nat.reduceBEq, Nat.reduceBNe, Nat.one_ne_zero, Nat.zero_ne_one, Nat.succ_ne_self, Nat.le_refl, Nat.sub_self, Nat.sub_zero, Nat.zero_le, reduceCtorEq, eq_self, Bool.false_eq_true, pk_mul, nI_add, k_in, nI_clamp, nI_eq, nI_ltI, nI_leI, k_upd, k_eq0, k_lt0, k_0le, k_0lt, k_le0, k_mod]
        refine j_runs [2] ok_Ref_shareBoth 8 ?_
        simp (disch := first | omega | simp (disch := omega) only [sA_ne, sA_self]) only [st_Ref_shareBoth, j_k, List.mem_cons, List.not_mem_nil, or_false, or_self, if_false, if_true, ↓reduceIte, List.getElem?_cons_zero, List.getElem?_cons_succ, List.set_cons_zero, List.set_cons_succ, List.length_cons, List.length_nil, g_ld_s, g_v_s, g_ob_s, g_ia_s, g_la_s, g_qa_s, g_al_s, t_i_s, t_a_r, t_a_n, t_a_q, t_l_s, true_and, and_true, and_self, true_or, or_true, Decidable.not_not, not_true_eq_false, not_false_eq_true, false_implies, true_implies, implies_true, j_ok1_s, j_isL, j_cat_i, j_cat_l, j_cat_r, j_cat_n, j_rf_cat, j_rf_some, j_rf_none, k_w8_0, k_w8_i, k_w8_r, k_w8_l, k_sum0, k_ints, k_nari, k_narz0, k_narz1, k_okv0, k_okv1, k_okv2, k_okv2n, k_okv3, Option.toList_some, Option.toList_none, List.cons_append, List.nil_append, List.append_nil, List.map_cons, List.map_nil, List.sum_cons, List.sum_nil, Nat.add_zero, Nat.zero_add, Nat.reduceAdd, Nat.reduceMul, Nat.reduceSub, Nat.reduceDiv, Nat.reduceMod, Nat.reduceLT, Nat.reduceLeDiff, Nat.reduceEqDiff, Nat.reduceBEq, Nat.reduceBNe, Nat.one_ne_zero, Nat.zero_ne_one, Nat.succ_ne_self, Nat.le_refl, Nat.sub_self, Nat.sub_zero, Nat.zero_le, reduceCtorEq, eq_self, Bool.false_eq_true, pk_mul, nI_add, k_in, nI_clamp, nI_eq, nI_ltI, nI_leI, k_upd, k_eq0, k_lt0, k_0le, k_0lt, k_le0, k_mod]
        have := next (some (.int (nI (S 2 (2 * l + i / 8))))) (some (.int (nI (S 15 (8 * S 2 (2 * l + i / 8) + i % 8)))))
        unfold rSh at this
        rw [if_pos (by omega)] at this
        exact this
  refine j_runs [2] ok_Ref_shareBoth 8 ?_
  simp (disch := first | omega | simp (disch := omega) only [sA_ne, sA_self]) only [st_Ref_shareBoth, j_k, List.mem_cons, List.not_mem_nil, or_false, or_self, if_false, if_true, ↓reduceIte, List.getElem?_cons_zero, List.getElem?_cons_succ, List.set_cons_zero, List.set_cons_succ, List.length_cons, List.length_nil, g_ld_s, g_v_s, g_ob_s, g_ia_s, g_la_s, g_qa_s, g_al_s, t_i_s, t_a_r, t_a_n, t_a_q, t_l_s, true_and, and_true, and_self, true_or, or_true, Decidable.not_not, not_true_eq_false, not_false_eq_true, false_implies, true_implies, implies_true, j_ok1_s, j_isL, j_cat_i, j_cat_l, j_cat_r, j_cat_n, j_rf_cat, j_rf_some, j_rf_none, k_w8_0, k_w8_i, k_w8_r, k_w8_l, k_sum0, k_ints, k_nari, k_narz0, k_narz1, k_okv0, k_okv1, k_okv2, k_okv2n, k_okv3, Option.toList_some, Option.toList_none, List.cons_append, List.nil_append, List.append_nil, List.map_cons, List.map_nil, List.sum_cons, List.sum_nil, Nat.add_zero, Nat.zero_add, Nat.reduceAdd, Nat.reduceMul, Nat.reduceSub, Nat.reduceDiv, Nat.reduceMod, Nat.reduceLT, Nat.reduceLeDiff, Nat.reduceEqDiff, Nat.reduceBEq, Nat.reduceBNe, Nat.one_ne_zero, Nat.zero_ne_one, Nat.succ_ne_self, Nat.le_refl, Nat.sub_self, Nat.sub_zero, Nat.zero_le, reduceCtorEq, eq_self, Bool.false_eq_true, pk_mul, nI_add, k_in, nI_clamp, nI_eq, nI_ltI, nI_leI, k_upd, k_eq0, k_lt0, k_0le, k_0lt, k_le0, k_mod]
  exact head 16 0 none none rfl
/-- the link goes up: two tell, and it is shared -/
def rUp (S : Nat → Nat → Nat) (l : Nat) : Nat → Nat → Nat := sA S 5 (va_up (S 5) l 1)
def rRaise (S : Nat → Nat → Nat) (l : Nat) : Nat → Nat → Nat := rSh (rTell (rTell (rUp S l) (S 2 (2 * l))) (S 2 (2 * l + 1))) l 16
theorem rT8_keeps {S : Nat → Nat → Nat} {r k : Nat} (h : k ≠ 8 ∧ k ≠ 14 ∧ k ≠ 9 ∧ k ≠ 10 ∧ k ≠ 11 ∧ k ≠ 12 ∧ k ≠ 13 ∧ k ≠ 15) : rT8 S r k = S k := by
  obtain ⟨h1, h2, h3, h4, h5, h6, h7, h8⟩ := h
  unfold rT8 rT7 rT6 rT5 rT4
  rw [sA_ne _ _ h8, sA_ne _ _ h7, sA_ne _ _ h6, sA_ne _ _ h5, sA_ne _ _ h4, sA_ne _ _ h3, sA_ne _ _ h2, sA_ne _ _ h1]
theorem rTell_keeps {S : Nat → Nat → Nat} {r k : Nat} (h : k ≠ 8 ∧ k ≠ 14 ∧ k ≠ 9 ∧ k ≠ 10 ∧ k ≠ 11 ∧ k ≠ 12 ∧ k ≠ 13 ∧ k ≠ 15 ∧ k ≠ 16 ∧ k ≠ 17) : rTell S r k = S k := by
  unfold rTell
  rw [rSpr_keeps h.2.2.2.2.2.2.2.2.1 h.2.2.2.2.2.2.2.2.2]
  exact rT8_keeps ⟨h.1, h.2.1, h.2.2.1, h.2.2.2.1, h.2.2.2.2.1, h.2.2.2.2.2.1, h.2.2.2.2.2.2.1, h.2.2.2.2.2.2.2.1⟩
theorem rTell_8 {S : Nat → Nat → Nat} {r : Nat} : rTell S r 8 0 = S 8 0 + 1 := by
  unfold rTell
  rw [rSpr_keeps (by decide) (by decide)]
  simp (disch := first | omega | simp (disch := omega) only [sA_ne, sA_self]) only [rT8, rT7, rT6, rT5, rT4, sA_ne, sA_self]
  rfl
theorem rTell_14 {S : Nat → Nat → Nat} {r q : Nat} : rTell S r 14 q = if q = r then S 14 r + 1 else S 14 q := by
  unfold rTell
  rw [rSpr_keeps (by decide) (by decide)]
  simp (disch := first | omega | simp (disch := omega) only [sA_ne, sA_self]) only [rT8, rT7, rT6, rT5, rT4, sA_ne, sA_self]
  rfl
theorem rTell_11 {S : Nat → Nat → Nat} {r i : Nat} : rTell S r 11 i = if i = rX S then rMask S r (S 1 0) else S 11 i := by
  unfold rTell
  rw [rSpr_keeps (by decide) (by decide)]
  simp (disch := first | omega | simp (disch := omega) only [sA_ne, sA_self]) only [rT8, rT7, rT6, rT5, rT4, sA_ne, sA_self]
  rfl
/-- what a call may rest on: two tells are left -/
def rT2 (S : Nat → Nat → Nat) : Prop := rOK S ∧ S 8 0 ≤ 1026 ∧ (∀ r, S 14 r ≤ S 8 0) ∧ ∀ i, S 8 0 < i → S 11 i = 0
theorem rT2.tok {S : Nat → Nat → Nat} (h : rT2 S) {r : Nat} (hr : r < 8) : rTok S r := ⟨h.1, by have := h.2.1; omega, hr, by have := h.2.1; have := h.2.2.1 r; omega, h.2.2.2 _ (by unfold rX; omega)⟩
theorem rT2.tok2 {S : Nat → Nat → Nat} (h : rT2 S) {r q : Nat} (hr : r < 8) (hq : q < 8) : rTok (rTell S r) q := by
  have h1 := rTell_ok (h.tok hr)
  have e8 : rTell S r 8 0 = S 8 0 + 1 := rTell_8
  refine ⟨h1, ?_, hq, ?_, ?_⟩
  · have := h.2.1; omega
  · rw [rTell_14]
    have := h.2.1
    have := h.2.2.1 r
    have := h.2.2.1 q
    split <;> omega
  · rw [rTell_11]
    have : rX (rTell S r) = S 8 0 + 2 := by unfold rX; omega
    rw [this, if_neg (by unfold rX; omega)]
    exact h.2.2.2 _ (by omega)
theorem rUp_T2 {S : Nat → Nat → Nat} (h : rT2 S) {l : Nat} : rT2 (rUp S l) := ⟨h.1.up (k := 5) (Nat.le_refl 1), h.2⟩
set_option maxHeartbeats 4000000 in
set_option maxRecDepth 100000 in
theorem sp_Ref_raise {S : Nat → Nat → Nat} {F : Nat → Int32} {ad : Nat → Nat → Nat} {l : Nat} {post : Option Value → jW → Prop} (hI : n_inj rAl ad) (hT : rT2 S) (hl : l < 12) (h : post none (rW (rRaise S l) F ad)) : j_sem m_Ref_raise [.ref (ad 0 0), .int (nI l)] (rW S F ad) 0 0 post := by
  refine j_sem_of (by decide +kernel) (Nat.le_of_ble_eq_true rfl) ?_
  show j_S _ _ 0 [some (.ref (ad 0 0)), some (.int (nI l))] [] _ 0 0
  have hS := hT.1
  have b1 : S 2 (2 * l) ≤ 7 := hS 2 _
  have b2 : S 2 (2 * l + 1) ≤ 7 := hS 2 _
  have t1 : rTok (rUp S l) (S 2 (2 * l)) := (rUp_T2 hT).tok (by omega)
  have t2 : rTok (rTell (rUp S l) (S 2 (2 * l))) (S 2 (2 * l + 1)) := (rUp_T2 hT).tok2 (by omega) (by omega)
  have k1 : rTell (sA S 5 (va_up (S 5) l 1)) (S 2 (2 * l)) 2 = S 2 := by rw [rTell_keeps (by decide)]; rfl
  refine j_runs [19] ok_Ref_raise 40 ?_
  simp (disch := first | omega | simp (disch := omega) only [sA_ne, sA_self]) only [st_Ref_raise, rW_get hI, rW_put hI, j_k, List.mem_cons, List.not_mem_nil, or_false, or_self, if_false, if_true, ↓reduceIte, List.getElem?_cons_zero, List.getElem?_cons_succ, List.set_cons_zero, List.set_cons_succ, List.length_cons, List.length_nil, g_ld_s, g_v_s, g_ob_s, g_ia_s, g_la_s, g_qa_s, g_al_s, t_i_s, t_a_r, t_a_n, t_a_q, t_l_s, true_and, and_true, and_self, true_or, or_true, Decidable.not_not, not_true_eq_false, not_false_eq_true, false_implies, true_implies, implies_true, j_ok1_s, j_isL, j_cat_i, j_cat_l, j_cat_r, j_cat_n, j_rf_cat, j_rf_some, j_rf_none, k_w8_0, k_w8_i, k_w8_r, k_w8_l, k_sum0, k_ints, k_nari, k_narz0, k_narz1, k_okv0, k_okv1, k_okv2, k_okv2n, k_okv3, Option.toList_some, Option.toList_none, List.cons_append, List.nil_append, List.append_nil, List.map_cons, List.map_nil, List.sum_cons, List.sum_nil, Nat.add_zero, Nat.zero_add, Nat.reduceAdd, Nat.reduceMul, Nat.reduceSub, Nat.reduceDiv, Nat.reduceMod, Nat.reduceLT, Nat.reduceLeDiff, Nat.reduceEqDiff, Nat.reduceBEq, Nat.reduceBNe, Nat.one_ne_zero, Nat.zero_ne_one, Nat.succ_ne_self, Nat.le_refl, Nat.sub_self, Nat.sub_zero, Nat.zero_le, reduceCtorEq, eq_self, Bool.false_eq_true, pk_mul, nI_add, k_in, nI_clamp, nI_eq, nI_ltI, nI_leI, k_upd, k_eq0, k_lt0, k_0le, k_0lt, k_le0, k_mod, k_nb, sA_ne]
  refine g_call0 (sp_Ref_tell hI t1 ?_)
  simp (disch := first | omega | simp (disch := omega) only [sA_ne, sA_self]) only [st_Ref_raise, j_k, List.mem_cons, List.not_mem_nil, or_false, or_self, if_false, if_true, ↓reduceIte, List.getElem?_cons_zero, List.getElem?_cons_succ, List.set_cons_zero, List.set_cons_succ, List.length_cons, List.length_nil, g_ld_s, g_v_s, g_ob_s, g_ia_s, g_la_s, g_qa_s, g_al_s, t_i_s, t_a_r, t_a_n, t_a_q, t_l_s, true_and, and_true, and_self, true_or, or_true, Decidable.not_not, not_true_eq_false, not_false_eq_true, false_implies, true_implies, implies_true, j_ok1_s, j_isL, j_cat_i, j_cat_l, j_cat_r, j_cat_n, j_rf_cat, j_rf_some, j_rf_none, k_w8_0, k_w8_i, k_w8_r, k_w8_l, k_sum0, k_ints, k_nari, k_narz0, k_narz1, k_okv0, k_okv1, k_okv2, k_okv2n, k_okv3, Option.toList_some, Option.toList_none, List.cons_append, List.nil_append, List.append_nil, List.map_cons, List.map_nil, List.sum_cons, List.sum_nil, Nat.add_zero, Nat.zero_add, Nat.reduceAdd, Nat.reduceMul, Nat.reduceSub, Nat.reduceDiv, Nat.reduceMod, Nat.reduceLT, Nat.reduceLeDiff, Nat.reduceEqDiff, Nat.reduceBEq, Nat.reduceBNe, Nat.one_ne_zero, Nat.zero_ne_one, Nat.succ_ne_self, Nat.le_refl, Nat.sub_self, Nat.sub_zero, Nat.zero_le, reduceCtorEq, eq_self, Bool.false_eq_true]
  refine j_runs [33] ok_Ref_raise 40 ?_
  simp (disch := first | omega | simp (disch := omega) only [sA_ne, sA_self]) only [st_Ref_raise, rW_get hI, rW_put hI, j_k, List.mem_cons, List.not_mem_nil, or_false, or_self, if_false, if_true, ↓reduceIte, List.getElem?_cons_zero, List.getElem?_cons_succ, List.set_cons_zero, List.set_cons_succ, List.length_cons, List.length_nil, g_ld_s, g_v_s, g_ob_s, g_ia_s, g_la_s, g_qa_s, g_al_s, t_i_s, t_a_r, t_a_n, t_a_q, t_l_s, true_and, and_true, and_self, true_or, or_true, Decidable.not_not, not_true_eq_false, not_false_eq_true, false_implies, true_implies, implies_true, j_ok1_s, j_isL, j_cat_i, j_cat_l, j_cat_r, j_cat_n, j_rf_cat, j_rf_some, j_rf_none, k_w8_0, k_w8_i, k_w8_r, k_w8_l, k_sum0, k_ints, k_nari, k_narz0, k_narz1, k_okv0, k_okv1, k_okv2, k_okv2n, k_okv3, Option.toList_some, Option.toList_none, List.cons_append, List.nil_append, List.append_nil, List.map_cons, List.map_nil, List.sum_cons, List.sum_nil, Nat.add_zero, Nat.zero_add, Nat.reduceAdd, Nat.reduceMul, Nat.reduceSub, Nat.reduceDiv, Nat.reduceMod, Nat.reduceLT, Nat.reduceLeDiff, Nat.reduceEqDiff, Nat.reduceBEq, Nat.reduceBNe, Nat.one_ne_zero, Nat.zero_ne_one, Nat.succ_ne_self, Nat.le_refl, Nat.sub_self, Nat.sub_zero, Nat.zero_le, reduceCtorEq, eq_self, Bool.false_eq_true, pk_mul, nI_add, k_in, nI_clamp, nI_eq, nI_ltI, nI_leI, k_upd, k_eq0, k_lt0, k_0le, k_0lt, k_le0, k_mod, k1]
  refine g_call0 (sp_Ref_tell hI t2 ?_)
  simp (disch := first | omega | simp (disch := omega) only [sA_ne, sA_self]) only [st_Ref_raise, j_k, List.mem_cons, List.not_mem_nil, or_false, or_self, if_false, if_true, ↓reduceIte, List.getElem?_cons_zero, List.getElem?_cons_succ, List.set_cons_zero, List.set_cons_succ, List.length_cons, List.length_nil, g_ld_s, g_v_s, g_ob_s, g_ia_s, g_la_s, g_qa_s, g_al_s, t_i_s, t_a_r, t_a_n, t_a_q, t_l_s, true_and, and_true, and_self, true_or, or_true, Decidable.not_not, not_true_eq_false, not_false_eq_true, false_implies, true_implies, implies_true, j_ok1_s, j_isL, j_cat_i, j_cat_l, j_cat_r, j_cat_n, j_rf_cat, j_rf_some, j_rf_none, k_w8_0, k_w8_i, k_w8_r, k_w8_l, k_sum0, k_ints, k_nari, k_narz0, k_narz1, k_okv0, k_okv1, k_okv2, k_okv2n, k_okv3, Option.toList_some, Option.toList_none, List.cons_append, List.nil_append, List.append_nil, List.map_cons, List.map_nil, List.sum_cons, List.sum_nil, Nat.add_zero, Nat.zero_add, Nat.reduceAdd, Nat.reduceMul, Nat.reduceSub, Nat.reduceDiv, Nat.reduceMod, Nat.reduceLT, Nat.reduceLeDiff, Nat.reduceEqDiff, Nat.reduceBEq, Nat.reduceBNe, Nat.one_ne_zero, Nat.zero_ne_one, Nat.succ_ne_self, Nat.le_refl, Nat.sub_self, Nat.sub_zero, Nat.zero_le, reduceCtorEq, eq_self, Bool.false_eq_true]
  refine j_runs [38] ok_Ref_raise 40 ?_
  simp (disch := first | omega | simp (disch := omega) only [sA_ne, sA_self]) only [st_Ref_raise, rW_get hI, rW_put hI, j_k, List.mem_cons, List.not_mem_nil, or_false, or_self, if_false, if_true, ↓reduceIte, List.getElem?_cons_zero, List.getElem?_cons_succ, List.set_cons_zero, List.set_cons_succ, List.length_cons, List.length_nil, g_ld_s, g_v_s, g_ob_s, g_ia_s, g_la_s, g_qa_s, g_al_s, t_i_s, t_a_r, t_a_n, t_a_q, t_l_s, true_and, and_true, and_self, true_or, or_true, Decidable.not_not, not_true_eq_false, not_false_eq_true, false_implies, true_implies, implies_true, j_ok1_s, j_isL, j_cat_i, j_cat_l, j_cat_r, j_cat_n, j_rf_cat, j_rf_some, j_rf_none, k_w8_0, k_w8_i, k_w8_r, k_w8_l, k_sum0, k_ints, k_nari, k_narz0, k_narz1, k_okv0, k_okv1, k_okv2, k_okv2n, k_okv3, Option.toList_some, Option.toList_none, List.cons_append, List.nil_append, List.append_nil, List.map_cons, List.map_nil, List.sum_cons, List.sum_nil, Nat.add_zero, Nat.zero_add, Nat.reduceAdd, Nat.reduceMul, Nat.reduceSub, Nat.reduceDiv, Nat.reduceMod, Nat.reduceLT, Nat.reduceLeDiff, Nat.reduceEqDiff, Nat.reduceBEq, Nat.reduceBNe, Nat.one_ne_zero, Nat.zero_ne_one, Nat.succ_ne_self, Nat.le_refl, Nat.sub_self, Nat.sub_zero, Nat.zero_le, reduceCtorEq, eq_self, Bool.false_eq_true, pk_mul, nI_add, k_in, nI_clamp, nI_eq, nI_ltI, nI_leI, k_upd, k_eq0, k_lt0, k_0le, k_0lt, k_le0, k_mod]
  refine g_call0 (sp_Ref_shareBoth hI (rTell_ok t2) hl ?_)
  simp (disch := first | omega | simp (disch := omega) only [sA_ne, sA_self]) only [st_Ref_raise, j_k, List.mem_cons, List.not_mem_nil, or_false, or_self, if_false, if_true, ↓reduceIte, List.getElem?_cons_zero, List.getElem?_cons_succ, List.set_cons_zero, List.set_cons_succ, List.length_cons, List.length_nil, g_ld_s, g_v_s, g_ob_s, g_ia_s, g_la_s, g_qa_s, g_al_s, t_i_s, t_a_r, t_a_n, t_a_q, t_l_s, true_and, and_true, and_self, true_or, or_true, Decidable.not_not, not_true_eq_false, not_false_eq_true, false_implies, true_implies, implies_true, j_ok1_s, j_isL, j_cat_i, j_cat_l, j_cat_r, j_cat_n, j_rf_cat, j_rf_some, j_rf_none, k_w8_0, k_w8_i, k_w8_r, k_w8_l, k_sum0, k_ints, k_nari, k_narz0, k_narz1, k_okv0, k_okv1, k_okv2, k_okv2n, k_okv3, Option.toList_some, Option.toList_none, List.cons_append, List.nil_append, List.append_nil, List.map_cons, List.map_nil, List.sum_cons, List.sum_nil, Nat.add_zero, Nat.zero_add, Nat.reduceAdd, Nat.reduceMul, Nat.reduceSub, Nat.reduceDiv, Nat.reduceMod, Nat.reduceLT, Nat.reduceLeDiff, Nat.reduceEqDiff, Nat.reduceBEq, Nat.reduceBNe, Nat.one_ne_zero, Nat.zero_ne_one, Nat.succ_ne_self, Nat.le_refl, Nat.sub_self, Nat.sub_zero, Nat.zero_le, reduceCtorEq, eq_self, Bool.false_eq_true]
  refine j_runs [] ok_Ref_raise 4 ?_
  simp (disch := first | omega | simp (disch := omega) only [sA_ne, sA_self]) only [st_Ref_raise, j_k, List.mem_cons, List.not_mem_nil, or_false, or_self, if_false, if_true, ↓reduceIte, List.getElem?_cons_zero, List.getElem?_cons_succ, List.set_cons_zero, List.set_cons_succ, List.length_cons, List.length_nil, g_ld_s, g_v_s, g_ob_s, g_ia_s, g_la_s, g_qa_s, g_al_s, t_i_s, t_a_r, t_a_n, t_a_q, t_l_s, true_and, and_true, and_self, true_or, or_true, Decidable.not_not, not_true_eq_false, not_false_eq_true, false_implies, true_implies, implies_true, j_ok1_s, j_isL, j_cat_i, j_cat_l, j_cat_r, j_cat_n, j_rf_cat, j_rf_some, j_rf_none, k_w8_0, k_w8_i, k_w8_r, k_w8_l, k_sum0, k_ints, k_nari, k_narz0, k_narz1, k_okv0, k_okv1, k_okv2, k_okv2n, k_okv3, Option.toList_some, Option.toList_none, List.cons_append, List.nil_append, List.append_nil, List.map_cons, List.map_nil, List.sum_cons, List.sum_nil, Nat.add_zero, Nat.zero_add, Nat.reduceAdd, Nat.reduceMul, Nat.reduceSub, Nat.reduceDiv, Nat.reduceMod, Nat.reduceLT, Nat.reduceLeDiff, Nat.reduceEqDiff, Nat.reduceBEq, Nat.reduceBNe, Nat.one_ne_zero, Nat.zero_ne_one, Nat.succ_ne_self, Nat.le_refl, Nat.sub_self, Nat.sub_zero, Nat.zero_le, reduceCtorEq, eq_self, Bool.false_eq_true]
  exact h
