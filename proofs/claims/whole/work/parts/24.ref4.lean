theorem k_shl1 {l : Nat} (h : l < 12) : nI 1 <<< (nI l &&& 31) = nI (2 ^ l) := by
  have h2 : 2 ^ l < 2 ^ 12 := Nat.pow_lt_pow_right (by decide) h
  rw [k_shl (by omega) (by omega), Nat.one_mul]
theorem sA_sA (S : Nat → Nat → Nat) (k : Nat) (g g' : Nat → Nat) : sA (sA S k g) k g' = sA S k g' := by
  funext k'
  unfold sA
  split <;> rfl
/-- the links that router r has, below n, as a set of bits -/
def rMask (S : Nat → Nat → Nat) (r : Nat) : Nat → Nat
  | 0 => 0
  | l + 1 => if (S 2 (2 * l) = r ∨ S 2 (2 * l + 1) = r) ∧ S 5 l = 1 then rMask S r l ||| 2 ^ l else rMask S r l
theorem rMask_lt (S : Nat → Nat → Nat) (r : Nat) : ∀ n, rMask S r n < 2 ^ n
  | 0 => by show 0 < 1; decide
  | l + 1 => by
    have h := rMask_lt S r l
    have h2 : 2 ^ l < 2 ^ (l + 1) := Nat.pow_lt_pow_right (by decide) (by omega)
    unfold rMask
    split
    · exact Nat.or_lt_two_pow (by omega) h2
    · omega
theorem rMask_le (S : Nat → Nat → Nat) (r : Nat) {n : Nat} (h : n ≤ 12) : rMask S r n ≤ 4095 := by
  have h1 := rMask_lt S r n
  have h2 : 2 ^ n ≤ 2 ^ 12 := Nat.pow_le_pow_right (by decide) h
  omega
def rX (S : Nat → Nat → Nat) : Nat := S 8 0 + 1
def rT4 (S : Nat → Nat → Nat) (r : Nat) : Nat → Nat → Nat := sA (sA (sA (sA S 8 (fun _ => rX S)) 14 (va_up (S 14) r (S 14 r + 1))) 9 (va_up (S 9) (rX S) r)) 10 (va_up (S 10) (rX S) (S 14 r + 1))
def rT5 (S : Nat → Nat → Nat) (r l : Nat) : Nat → Nat → Nat := sA (rT4 S r) 11 (va_up (S 11) (rX S) (rMask S r l))
def rT6 (S : Nat → Nat → Nat) (r : Nat) : Nat → Nat → Nat := sA (rT5 S r (S 1 0)) 12 (va_up (S 12) (rX S) (S 6 r))
def rPre (S : Nat → Nat → Nat) (r : Nat) : Nat → Nat → Nat
  | 0 => S 13
  | k + 1 => va_up (rPre S r k) (3 * rX S + k) (S 7 (3 * r + k))
def rT7 (S : Nat → Nat → Nat) (r k : Nat) : Nat → Nat → Nat := sA (rT6 S r) 13 (rPre S r k)
def rT8 (S : Nat → Nat → Nat) (r : Nat) : Nat → Nat → Nat := sA (rT7 S r 3) 15 (va_up (S 15) (8 * r + r) (rX S))
/-- what tell makes of the reference's numbers -/
def rTell (S : Nat → Nat → Nat) (r : Nat) : Nat → Nat → Nat := rSpr (rT8 S r) r (rX S) 1000 (S 1 0)
/-- what tell wants -/
def rTok (S : Nat → Nat → Nat) (r : Nat) : Prop := rOK S ∧ S 8 0 ≤ 1027 ∧ r < 8 ∧ S 14 r ≤ 4000 ∧ S 11 (rX S) = 0
theorem rT4_ok {S : Nat → Nat → Nat} {r : Nat} (h : rTok S r) : rOK (rT4 S r) := by
  obtain ⟨h0, h1, h2, h3, h4⟩ := h
  have hx : rX S ≤ 1029 := by unfold rX; omega
  have a1 : rOK (sA S 8 (fun _ => rX S)) := h0.sa (fun _ => hx)
  have a2 : rOK (sA (sA S 8 (fun _ => rX S)) 14 (va_up (S 14) r (S 14 r + 1))) := a1.up (k := 14) (show S 14 r + 1 ≤ 5000 by omega)
  have a3 : rOK (sA (sA (sA S 8 (fun _ => rX S)) 14 (va_up (S 14) r (S 14 r + 1))) 9 (va_up (S 9) (rX S) r)) := a2.up (k := 9) (show r ≤ 7 by omega)
  exact a3.up (k := 10) (show S 14 r + 1 ≤ 5000 by omega)
theorem rT5_ok {S : Nat → Nat → Nat} {r l : Nat} (h : rTok S r) (hl : l ≤ 12) : rOK (rT5 S r l) := by
  refine (rT4_ok h).sa (fun i => ?_)
  unfold va_up
  split
  · exact rMask_le S r hl
  · exact h.1 11 i
theorem rT6_ok {S : Nat → Nat → Nat} {r : Nat} (h : rTok S r) : rOK (rT6 S r) := by
  refine (rT5_ok h (h.1 1 0)).sa (fun i => ?_)
  unfold va_up
  split
  · exact h.1 6 r
  · exact h.1 12 i
theorem rPre_le {S : Nat → Nat → Nat} {r : Nat} (h : rOK S) : ∀ k i, rPre S r k i ≤ 5000
  | 0, i => h 13 i
  | k + 1, i => by
    unfold rPre va_up
    split
    · exact h 7 _
    · exact rPre_le h k i
theorem rT7_ok {S : Nat → Nat → Nat} {r k : Nat} (h : rTok S r) : rOK (rT7 S r k) := (rT6_ok h).sa (fun i => rPre_le h.1 k i)
theorem rT8_ok {S : Nat → Nat → Nat} {r : Nat} (h : rTok S r) : rOK (rT8 S r) := by
  refine (rT7_ok h).sa (fun i => ?_)
  unfold va_up
  split
  · have := h.2.1
    show rX S ≤ 1029
    unfold rX
    omega
  · exact h.1 15 i
theorem rTell_ok {S : Nat → Nat → Nat} {r : Nat} (h : rTok S r) : rOK (rTell S r) := rSpr_ok (rT8_ok h) (by
  have := h.2.1
  unfold rX
  omega) _
set_option maxHeartbeats 4000000 in
set_option maxRecDepth 100000 in
theorem sp_Ref_tell {S : Nat → Nat → Nat} {F : Nat → Int32} {ad : Nat → Nat → Nat} {r : Nat} {post : Option Value → jW → Prop} (hI : n_inj rAl ad) (hT : rTok S r) (h : post none (rW (rTell S r) F ad)) : j_sem m_Ref_tell [.ref (ad 0 0), .int (nI r)] (rW S F ad) 0 0 post := by
  refine j_sem_of (by decide +kernel) (Nat.le_of_ble_eq_true rfl) ?_
  show j_S _ _ 0 [some (.ref (ad 0 0)), some (.int (nI r)), none, none] [] _ 0 0
  have hS := hT.1
  obtain ⟨-, h8, hr, h14, h11⟩ := id hT
  have hL : S 1 0 ≤ 12 := hS 1 0
  have hx : rX S ≤ 1028 := by unfold rX; omega
  have ex : S 8 0 + 1 = rX S := rfl
  have p3 : ∀ k, k < 3 → 3 * rX S + k < 3090 := fun k hk => by omega
  -- the last part
  have part8 : ∀ X Y, j_S m_Ref_tell post 172 [some (.ref (ad 0 0)), some (.int (nI r)), X, Y] [] (rW (rT7 S r 3) F ad) 0 0 := by
    intro X Y
    refine j_runs [197] ok_Ref_tell 60 ?_
    have f8 : rT7 S r 3 8 = fun _ => rX S := by simp (disch := first | omega | simp (disch := omega) only [sA_ne, sA_self]) only [rT7, rT6, rT5, rT4, sA_ne, sA_self]
    have f15 : rT7 S r 3 15 = S 15 := by simp (disch := first | omega | simp (disch := omega) only [sA_ne, sA_self]) only [rT7, rT6, rT5, rT4, sA_ne, sA_self]
    have f1 : sA (rT7 S r 3) 15 (va_up (S 15) (8 * r + r) (rX S)) 1 = S 1 := by simp (disch := first | omega | simp (disch := omega) only [sA_ne, sA_self]) only [rT7, rT6, rT5, rT4, sA_ne, sA_self]
    simp (disch := first | omega | simp (disch := omega) only [sA_ne, sA_self]) only [st_Ref_tell, rW_get hI, rW_put hI, j_k, List.mem_cons, List.not_mem_nil, or_false, or_self, if_false, if_true, ↓reduceIte, List.getElem?_cons_zero, List.getElem?_cons_succ, List.set_cons_zero, List.set_cons_succ, List.length_cons, List.length_nil, g_ld_s, g_v_s, g_ob_s, g_ia_s, g_la_s, g_qa_s, g_al_s, t_i_s, t_a_r, t_a_n, t_a_q, t_l_s, true_and, and_true, and_self, true_or, or_true, Decidable.not_not, not_true_eq_false, not_false_eq_true, false_implies, true_implies, implies_true, j_ok1_s, j_isL, j_cat_i, j_cat_l, j_cat_r, j_cat_n, j_rf_cat, j_rf_some, j_rf_none, k_w8_0, k_w8_i, k_w8_r, k_w8_l, k_sum0, k_ints, k_nari, k_narz0, k_narz1, k_okv0, k_okv1, k_okv2, k_okv2n, k_okv3, Option.toList_some, Option.toList_none, List.cons_append, List.nil_append, List.append_nil, List.map_cons, List.map_nil, List.sum_cons, List.sum_nil, Nat.add_zero, Nat.zero_add, Nat.reduceAdd, Nat.reduceMul, Nat.reduceSub, Nat.reduceDiv, Nat.reduceMod, Nat.reduceLT, Nat.reduceLeDiff, Nat.reduceEqDiff, Nat.reduceBEq, Nat.reduceBNe, Nat.one_ne_zero, Nat.zero_ne_one, Nat.succ_ne_self, Nat.le_refl, Nat.sub_self, Nat.sub_zero, Nat.zero_le, reduceCtorEq, eq_self, Bool.false_eq_true, pk_mul, nI_add, k_in, nI_clamp, nI_eq, nI_ltI, nI_leI, k_upd, k_eq0, k_lt0, k_0le, k_0lt, k_le0, k_mod, f8, f15, sA_ne]
    refine g_call0 (sp_Ref_spread (b := 1000) hI (rT8_ok hT) (by omega) hr (fun l hl => ⟨fun q => ?_, fun q => by omega⟩) ?_)
    · exfalso
      have := congrArg Int32.toInt q
      rw [nI_toInt (by omega)] at this
      have e : ((-1 : Int32)).toInt = -1 := by decide
      omega
    · rw [f1]
      simp (disch := first | omega | simp (disch := omega) only [sA_ne, sA_self]) only [st_Ref_tell, j_k, List.mem_cons, List.not_mem_nil, or_false, or_self, if_false, if_true, ↓reduceIte, List.getElem?_cons_zero, List.getElem?_cons_succ, List.set_cons_zero, List.set_cons_succ, List.length_cons, List.length_nil, g_ld_s, g_v_s, g_ob_s, g_ia_s, g_la_s, g_qa_s, g_al_s, t_i_s, t_a_r, t_a_n, t_a_q, t_l_s, true_and, and_true, and_self, true_or, or_true, Decidable.not_not, not_true_eq_false, not_false_eq_true, false_implies, true_implies, implies_true, j_ok1_s, j_isL, j_cat_i, j_cat_l, j_cat_r, j_cat_n, j_rf_cat, j_rf_some, j_rf_none, k_w8_0, k_w8_i, k_w8_r, k_w8_l, k_sum0, k_ints, k_nari, k_narz0, k_narz1, k_okv0, k_okv1, k_okv2, k_okv2n, k_okv3, Option.toList_some, Option.toList_none, List.cons_append, List.nil_append, List.append_nil, List.map_cons, List.map_nil, List.sum_cons, List.sum_nil, Nat.add_zero, Nat.zero_add, Nat.reduceAdd, Nat.reduceMul, Nat.reduceSub, Nat.reduceDiv, Nat.reduceMod, Nat.reduceLT, Nat.reduceLeDiff, Nat.reduceEqDiff, Nat.reduceBEq, Nat.reduceBNe, Nat.one_ne_zero, Nat.zero_ne_one, Nat.succ_ne_self, Nat.le_refl, Nat.sub_self, Nat.sub_zero, Nat.zero_le, reduceCtorEq, eq_self, Bool.false_eq_true]
      refine j_runs [] ok_Ref_tell 4 ?_
      simp (disch := first | omega | simp (disch := omega) only [sA_ne, sA_self]) only [st_Ref_tell, j_k, List.mem_cons, List.not_mem_nil, or_false, or_self, if_false, if_true, ↓reduceIte, List.getElem?_cons_zero, List.getElem?_cons_succ, List.set_cons_zero, List.set_cons_succ, List.length_cons, List.length_nil, g_ld_s, g_v_s, g_ob_s, g_ia_s, g_la_s, g_qa_s, g_al_s, t_i_s, t_a_r, t_a_n, t_a_q, t_l_s, true_and, and_true, and_self, true_or, or_true, Decidable.not_not, not_true_eq_false, not_false_eq_true, false_implies, true_implies, implies_true, j_ok1_s, j_isL, j_cat_i, j_cat_l, j_cat_r, j_cat_n, j_rf_cat, j_rf_some, j_rf_none, k_w8_0, k_w8_i, k_w8_r, k_w8_l, k_sum0, k_ints, k_nari, k_narz0, k_narz1, k_okv0, k_okv1, k_okv2, k_okv2n, k_okv3, Option.toList_some, Option.toList_none, List.cons_append, List.nil_append, List.append_nil, List.map_cons, List.map_nil, List.sum_cons, List.sum_nil, Nat.add_zero, Nat.zero_add, Nat.reduceAdd, Nat.reduceMul, Nat.reduceSub, Nat.reduceDiv, Nat.reduceMod, Nat.reduceLT, Nat.reduceLeDiff, Nat.reduceEqDiff, Nat.reduceBEq, Nat.reduceBNe, Nat.one_ne_zero, Nat.zero_ne_one, Nat.succ_ne_self, Nat.le_refl, Nat.sub_self, Nat.sub_zero, Nat.zero_le, reduceCtorEq, eq_self, Bool.false_eq_true]
      exact h
  -- the prefixes
  have part7 : ∀ d k Y, k + d = 3 → j_S m_Ref_tell post 138 [some (.ref (ad 0 0)), some (.int (nI r)), some (.int (nI k)), Y] [] (rW (rT7 S r k) F ad) 0 0 := by
    intro d
    induction d with
    | zero =>
      intro k Y e
      have ek : k = 3 := by omega
      subst ek
      refine j_runs [172] ok_Ref_tell 8 ?_
      simp (disch := first | omega | simp (disch := omega) only [sA_ne, sA_self]) only [st_Ref_tell, j_k, List.mem_cons, List.not_mem_nil, or_false, or_self, if_false, if_true, ↓reduceIte, List.getElem?_cons_zero, List.getElem?_cons_succ, List.set_cons_zero, List.set_cons_succ, List.length_cons, List.length_nil, g_ld_s, g_v_s, g_ob_s, g_ia_s, g_la_s, g_qa_s, g_al_s, t_i_s, t_a_r, t_a_n, t_a_q, t_l_s, true_and, and_true, and_self, true_or, or_true, Decidable.not_not, not_true_eq_false, not_false_eq_true, false_implies, true_implies, implies_true, j_ok1_s, j_isL, j_cat_i, j_cat_l, j_cat_r, j_cat_n, j_rf_cat, j_rf_some, j_rf_none, k_w8_0, k_w8_i, k_w8_r, k_w8_l, k_sum0, k_ints, k_nari, k_narz0, k_narz1, k_okv0, k_okv1, k_okv2, k_okv2n, k_okv3, Option.toList_some, Option.toList_none, List.cons_append, List.nil_append, List.append_nil, List.map_cons, List.map_nil, List.sum_cons, List.sum_nil, Nat.add_zero, Nat.zero_add, Nat.reduceAdd, Nat.reduceMul, Nat.reduceSub, Nat.reduceDiv, Nat.reduceMod, Nat.reduceLT, Nat.reduceLeDiff, Nat.reduceEqDiff, Nat.reduceBEq, Nat.reduceBNe, Nat.one_ne_zero, Nat.zero_ne_one, Nat.succ_ne_self, Nat.le_refl, Nat.sub_self, Nat.sub_zero, Nat.zero_le, reduceCtorEq, eq_self, Bool.false_eq_true, pk_mul, nI_add, k_in, nI_clamp, nI_eq, nI_ltI, nI_leI, k_upd, k_eq0, k_lt0, k_0le, k_0lt, k_le0, k_mod]
      exact part8 _ _
    | succ d ih =>
      intro k Y e
      have hk : k < 3 := by omega
      have f8 : rT7 S r k 8 = fun _ => rX S := by simp (disch := first | omega | simp (disch := omega) only [sA_ne, sA_self]) only [rT7, rT6, rT5, rT4, sA_ne, sA_self]
      have f7 : rT7 S r k 7 = S 7 := by simp (disch := first | omega | simp (disch := omega) only [sA_ne, sA_self]) only [rT7, rT6, rT5, rT4, sA_ne, sA_self]
      have f13 : rT7 S r k 13 = rPre S r k := by simp (disch := first | omega | simp (disch := omega) only [sA_ne, sA_self]) only [rT7, sA_self]
      refine j_runs [138] ok_Ref_tell 40 ?_
      simp (disch := first | omega | simp (disch := omega) only [sA_ne, sA_self]) only [st_Ref_tell, rW_get hI, rW_put hI, j_k, List.mem_cons, List.not_mem_nil, or_false, or_self, if_false, if_true, ↓reduceIte, List.getElem?_cons_zero, List.getElem?_cons_succ, List.set_cons_zero, List.set_cons_succ, List.length_cons, List.length_nil, g_ld_s, g_v_s, g_ob_s, g_ia_s, g_la_s, g_qa_s, g_al_s, t_i_s, t_a_r, t_a_n, t_a_q, t_l_s, true_and, and_true, and_self, true_or, or_true, Decidable.not_not, not_true_eq_false, not_false_eq_true, false_implies, true_implies, implies_true, j_ok1_s, j_isL, j_cat_i, j_cat_l, j_cat_r, j_cat_n, j_rf_cat, j_rf_some, j_rf_none, k_w8_0, k_w8_i, k_w8_r, k_w8_l, k_sum0, k_ints, k_nari, k_narz0, k_narz1, k_okv0, k_okv1, k_okv2, k_okv2n, k_okv3, Option.toList_some, Option.toList_none, List.cons_append, List.nil_append, List.append_nil, List.map_cons, List.map_nil, List.sum_cons, List.sum_nil, Nat.add_zero, Nat.zero_add, Nat.reduceAdd, Nat.reduceMul, Nat.reduceSub, Nat.reduceDiv, Nat.reduceMod, Nat.reduceLT, Nat.reduceLeDiff, Nat.reduceEqDiff, Nat.reduceBEq, Nat.reduceBNe, Nat.one_ne_zero, Nat.zero_ne_one, Nat.succ_ne_self, Nat.le_refl, Nat.sub_self, Nat.sub_zero, Nat.zero_le, reduceCtorEq, eq_self, Bool.false_eq_true, pk_mul, nI_add, k_in, nI_clamp, nI_eq, nI_ltI, nI_leI, k_upd, k_eq0, k_lt0, k_0le, k_0lt, k_le0, k_mod, f8, f7, f13]
      refine ⟨fun c => absurd c (by omega), fun _ => ?_⟩
      have := ih (k + 1) Y (by omega)
      unfold rT7 at this ⊢
      rw [sA_sA]
      exact this
  -- behind the links
  have part6 : ∀ X Y, j_S m_Ref_tell post 121 [some (.ref (ad 0 0)), some (.int (nI r)), X, Y] [] (rW (rT5 S r (S 1 0)) F ad) 0 0 := by
    intro X Y
    have f8 : rT5 S r (S 1 0) 8 = fun _ => rX S := by simp (disch := first | omega | simp (disch := omega) only [sA_ne, sA_self]) only [rT5, rT4, sA_ne, sA_self]
    have f6 : rT5 S r (S 1 0) 6 = S 6 := by simp (disch := first | omega | simp (disch := omega) only [sA_ne, sA_self]) only [rT5, rT4, sA_ne, sA_self]
    have f12 : rT5 S r (S 1 0) 12 = S 12 := by simp (disch := first | omega | simp (disch := omega) only [sA_ne, sA_self]) only [rT5, rT4, sA_ne, sA_self]
    have f13 : rT6 S r 13 = S 13 := by simp (disch := first | omega | simp (disch := omega) only [sA_ne, sA_self]) only [rT6, rT5, rT4, sA_ne, sA_self]
    have hX : ∀ X : Option Value, X = X := fun _ => rfl
    refine j_runs [138] ok_Ref_tell 40 ?_
    simp (disch := first | omega | simp (disch := omega) only [sA_ne, sA_self]) only [st_Ref_tell, rW_get hI, rW_put hI, j_k, List.mem_cons, List.not_mem_nil, or_false, or_self, if_false, if_true, ↓reduceIte, List.getElem?_cons_zero, List.getElem?_cons_succ, List.set_cons_zero, List.set_cons_succ, List.length_cons, List.length_nil, g_ld_s, g_v_s, g_ob_s, g_ia_s, g_la_s, g_qa_s, g_al_s, t_i_s, t_a_r, t_a_n, t_a_q, t_l_s, true_and, and_true, and_self, true_or, or_true, Decidable.not_not, not_true_eq_false, not_false_eq_true, false_implies, true_implies, implies_true, j_ok1_s, j_isL, j_cat_i, j_cat_l, j_cat_r, j_cat_n, j_rf_cat, j_rf_some, j_rf_none, k_w8_0, k_w8_i, k_w8_r, k_w8_l, k_sum0, k_ints, k_nari, k_narz0, k_narz1, k_okv0, k_okv1, k_okv2, k_okv2n, k_okv3, Option.toList_some, Option.toList_none, List.cons_append, List.nil_append, List.append_nil, List.map_cons, List.map_nil, List.sum_cons, List.sum_nil, Nat.add_zero, Nat.zero_add, Nat.reduceAdd, Nat.reduceMul, Nat.reduceSub, Nat.reduceDiv, Nat.reduceMod, Nat.reduceLT, Nat.reduceLeDiff, Nat.reduceEqDiff, Nat.reduceBEq, Nat.reduceBNe, Nat.one_ne_zero, Nat.zero_ne_one, Nat.succ_ne_self, Nat.le_refl, Nat.sub_self, Nat.sub_zero, Nat.zero_le, reduceCtorEq, eq_self, Bool.false_eq_true, pk_mul, nI_add, k_in, nI_clamp, nI_eq, nI_ltI, nI_leI, k_upd, k_eq0, k_lt0, k_0le, k_0lt, k_le0, k_mod, f8, f6, f12]
    have := part7 3 0 Y rfl
    unfold rT7 rPre at this
    rw [← f13] at this
    have e : sA (rT6 S r) 13 (rT6 S r 13) = rT6 S r := by
      funext k'
      unfold sA
      split
      · rename_i q; rw [q]
      · rfl
    rw [e] at this
    exact this
  -- the links
  have part5 : ∀ d l Y, l + d = S 1 0 → j_S m_Ref_tell post 47 [some (.ref (ad 0 0)), some (.int (nI r)), some (.int (nI l)), Y] [] (rW (rT5 S r l) F ad) 0 0 := by
    intro d
    induction d with
    | zero =>
      intro l Y e
      have f1 : rT5 S r l 1 = S 1 := by simp (disch := first | omega | simp (disch := omega) only [sA_ne, sA_self]) only [rT5, rT4, sA_ne, sA_self]
      refine j_runs [121] ok_Ref_tell 8 ?_
      simp (disch := first | omega | simp (disch := omega) only [sA_ne, sA_self]) only [st_Ref_tell, rW_get hI, j_k, List.mem_cons, List.not_mem_nil, or_false, or_self, if_false, if_true, ↓reduceIte, List.getElem?_cons_zero, List.getElem?_cons_succ, List.set_cons_zero, List.set_cons_succ, List.length_cons, List.length_nil, g_ld_s, g_v_s, g_ob_s, g_ia_s, g_la_s, g_qa_s, g_al_s, t_i_s, t_a_r, t_a_n, t_a_q, t_l_s, true_and, and_true, and_self, true_or, or_true, Decidable.not_not, not_true_eq_false, not_false_eq_true, false_implies, true_implies, implies_true, j_ok1_s, j_isL, j_cat_i, j_cat_l, j_cat_r, j_cat_n, j_rf_cat, j_rf_some, j_rf_none, k_w8_0, k_w8_i, k_w8_r, k_w8_l, k_sum0, k_ints, k_nari, k_narz0, k_narz1, k_okv0, k_okv1, k_okv2, k_okv2n, k_okv3, Option.toList_some, Option.toList_none, List.cons_append, List.nil_append, List.append_nil, List.map_cons, List.map_nil, List.sum_cons, List.sum_nil, Nat.add_zero, Nat.zero_add, Nat.reduceAdd, Nat.reduceMul, Nat.reduceSub, Nat.reduceDiv, Nat.reduceMod, Nat.reduceLT, Nat.reduceLeDiff, Nat.reduceEqDiff, Nat.reduceBEq, Nat.reduceBNe, Nat.one_ne_zero, Nat.zero_ne_one, Nat.succ_ne_self, Nat.le_refl, Nat.sub_self, Nat.sub_zero, Nat.zero_le, reduceCtorEq, eq_self, Bool.false_eq_true, pk_mul, nI_add, k_in, nI_clamp, nI_eq, nI_ltI, nI_leI, k_upd, k_eq0, k_lt0, k_0le, k_0lt, k_le0, k_mod, f1]
      refine ⟨fun _ => ?_, fun c => absurd (by omega) c⟩
      rw [show l = S 1 0 by omega]
      exact part6 _ _
    | succ d ih =>
      intro l Y e
      have hl : l < 12 := by omega
      have f1 : rT5 S r l 1 = S 1 := by simp (disch := first | omega | simp (disch := omega) only [sA_ne, sA_self]) only [rT5, rT4, sA_ne, sA_self]
      have f2 : rT5 S r l 2 = S 2 := by simp (disch := first | omega | simp (disch := omega) only [sA_ne, sA_self]) only [rT5, rT4, sA_ne, sA_self]
      have f5 : rT5 S r l 5 = S 5 := by simp (disch := first | omega | simp (disch := omega) only [sA_ne, sA_self]) only [rT5, rT4, sA_ne, sA_self]
      have f8 : rT5 S r l 8 = fun _ => rX S := by simp (disch := first | omega | simp (disch := omega) only [sA_ne, sA_self]) only [rT5, rT4, sA_ne, sA_self]
      have f11 : rT5 S r l 11 = va_up (S 11) (rX S) (rMask S r l) := by simp (disch := first | omega | simp (disch := omega) only [sA_ne, sA_self]) only [rT5, sA_self]
      have b2 := hS.b 2 (2 * l)
      have b2' := hS.b 2 (2 * l + 1)
      have b5 := hS.b 5 l
      have b5' : S 5 l ≤ 1 := hS 5 l
      have next : ∀ Y, j_S m_Ref_tell post 47 [some (.ref (ad 0 0)), some (.int (nI r)), some (.int (nI (l + 1))), Y] [] (rW (rT5 S r (l + 1)) F ad) 0 0 := fun Y => ih (l + 1) Y (by omega)
      have tail : ∀ z, z ≤ 1 → (z = 1 ↔ (S 2 (2 * l) = r ∨ S 2 (2 * l + 1) = r)) → j_S m_Ref_tell post 87 [some (.ref (ad 0 0)), some (.int (nI r)), some (.int (nI l)), some (.int (nI z))] [] (rW (rT5 S r l) F ad) 0 0 := by
        intro z hz hz1
        have skip : ¬ ((S 2 (2 * l) = r ∨ S 2 (2 * l + 1) = r) ∧ S 5 l = 1) → j_S m_Ref_tell post 115 [some (.ref (ad 0 0)), some (.int (nI r)), some (.int (nI l)), some (.int (nI z))] [] (rW (rT5 S r l) F ad) 0 0 := by
          intro c
          refine j_runs [47] ok_Ref_tell 8 ?_
          simp (disch := first | omega | simp (disch := omega) only [sA_ne, sA_self]) only [st_Ref_tell, j_k, List.mem_cons, List.not_mem_nil, or_false, or_self, if_false, if_true, ↓reduceIte, List.getElem?_cons_zero, List.getElem?_cons_succ, List.set_cons_zero, List.set_cons_succ, List.length_cons, List.length_nil, g_ld_s, g_v_s, g_ob_s, g_ia_s, g_la_s, g_qa_s, g_al_s, t_i_s, t_a_r, t_a_n, t_a_q, t_l_s, true_and, and_true, and_self, true_or, or_true, Decidable.not_not, not_true_eq_false, not_false_eq_true, false_implies, true_implies, implies_true, j_ok1_s, j_isL, j_cat_i, j_cat_l, j_cat_r, j_cat_n, j_rf_cat, j_rf_some, j_rf_none, k_w8_0, k_w8_i, k_w8_r, k_w8_l, k_sum0, k_ints, k_nari, k_narz0, k_narz1, k_okv0, k_okv1, k_okv2, k_okv2n, k_okv3, Option.toList_some, Option.toList_none, List.cons_append, List.nil_append, List.append_nil, List.map_cons, List.map_nil, List.sum_cons, List.sum_nil, Nat.add_zero, Nat.zero_add, Nat.reduceAdd, Nat.reduceMul, Nat.reduceSub, Nat.reduceDiv, Nat.reduceMod, Nat.reduceLT, Nat.reduceLeDiff, Nat.reduceEqDiff, Nat.reduceBEq, Nat.reduceBNe, Nat.one_ne_zero, Nat.zero_ne_one, Nat.succ_ne_self, Nat.le_refl, Nat.sub_self, Nat.sub_zero, Nat.zero_le, reduceCtorEq, eq_self, Bool.false_eq_true, pk_mul, nI_add, k_in, nI_clamp, nI_eq, nI_ltI, nI_leI, k_upd, k_eq0, k_lt0, k_0le, k_0lt, k_le0, k_mod]
          have := next (some (.int (nI z)))
          unfold rT5 rMask at this
          rw [if_neg c] at this
          exact this
        refine j_runs [115] ok_Ref_tell 40 ?_
        simp (disch := first | omega | simp (disch := omega) only [sA_ne, sA_self]) only [st_Ref_tell, rW_get hI, rW_put hI, j_k, List.mem_cons, List.not_mem_nil, or_false, or_self, if_false, if_true, ↓reduceIte, List.getElem?_cons_zero, List.getElem?_cons_succ, List.set_cons_zero, List.set_cons_succ, List.length_cons, List.length_nil, g_ld_s, g_v_s, g_ob_s, g_ia_s, g_la_s, g_qa_s, g_al_s, t_i_s, t_a_r, t_a_n, t_a_q, t_l_s, true_and, and_true, and_self, true_or, or_true, Decidable.not_not, not_true_eq_false, not_false_eq_true, false_implies, true_implies, implies_true, j_ok1_s, j_isL, j_cat_i, j_cat_l, j_cat_r, j_cat_n, j_rf_cat, j_rf_some, j_rf_none, k_w8_0, k_w8_i, k_w8_r, k_w8_l, k_sum0, k_ints, k_nari, k_narz0, k_narz1, k_okv0, k_okv1, k_okv2, k_okv2n, k_okv3, Option.toList_some, Option.toList_none, List.cons_append, List.nil_append, List.append_nil, List.map_cons, List.map_nil, List.sum_cons, List.sum_nil, Nat.add_zero, Nat.zero_add, Nat.reduceAdd, Nat.reduceMul, Nat.reduceSub, Nat.reduceDiv, Nat.reduceMod, Nat.reduceLT, Nat.reduceLeDiff, Nat.reduceEqDiff, Nat.reduceBEq, Nat.reduceBNe, Nat.one_ne_zero, Nat.zero_ne_one, Nat.succ_ne_self, Nat.le_refl, Nat.sub_self, Nat.sub_zero, Nat.zero_le, reduceCtorEq, eq_self, Bool.false_eq_true, pk_mul, nI_add, k_in, nI_clamp, nI_eq, nI_ltI, nI_leI, k_upd, k_eq0, k_lt0, k_0le, k_0lt, k_le0, k_mod, f1, f2, f5, f8, f11, k_shl1, k_or, va_up_self]
        refine ⟨fun c => skip (fun q => ?_), fun c => ⟨fun c' => skip (fun q => ?_), fun c' => ?_⟩⟩
        · have := hz1.mpr q.1; omega
        · omega
        · have cond : (S 2 (2 * l) = r ∨ S 2 (2 * l + 1) = r) ∧ S 5 l = 1 := ⟨hz1.mp (by omega), by omega⟩
          refine j_runs [47] ok_Ref_tell 8 ?_
          simp (disch := first | omega | simp (disch := omega) only [sA_ne, sA_self]) only [st_Ref_tell, j_k, List.mem_cons, List.not_mem_nil, or_false, or_self, if_false, if_true, ↓reduceIte, List.getElem?_cons_zero, List.getElem?_cons_succ, List.set_cons_zero, List.set_cons_succ, List.length_cons, List.length_nil, g_ld_s, g_v_s, g_ob_s, g_ia_s, g_la_s, g_qa_s, g_al_s, t_i_s, t_a_r, t_a_n, t_a_q, t_l_s, true_and, and_true, and_self, true_or, or_true, Decidable.not_not, not_true_eq_false, not_false_eq_true, false_implies, true_implies, implies_true, j_ok1_s, j_isL, j_cat_i, j_cat_l, j_cat_r, j_cat_n, j_rf_cat, j_rf_some, j_rf_none, k_w8_0, k_w8_i, k_w8_r, k_w8_l, k_sum0, k_ints, k_nari, k_narz0, k_narz1, k_okv0, k_okv1, k_okv2, k_okv2n, k_okv3, Option.toList_some, Option.toList_none, List.cons_append, List.nil_append, List.append_nil, List.map_cons, List.map_nil, List.sum_cons, List.sum_nil, Nat.add_zero, Nat.zero_add, Nat.reduceAdd, Nat.reduceMul, Nat.reduceSub, Nat.reduceDiv, Nat.reduceMod, Nat.reduceLT, Nat.reduceLeDiff, Nat.reduceEqDiff, Nat.reduceBEq, Nat.reduceBNe, Nat.one_ne_zero, Nat.zero_ne_one, Nat.succ_ne_self, Nat.le_refl, Nat.sub_self, Nat.sub_zero, Nat.zero_le, reduceCtorEq, eq_self, Bool.false_eq_true, pk_mul, nI_add, k_in, nI_clamp, nI_eq, nI_ltI, nI_leI, k_upd, k_eq0, k_lt0, k_0le, k_0lt, k_le0, k_mod]
          have := next (some (.int (nI z)))
          unfold rT5 rMask at this
          rw [if_pos cond] at this
          unfold rT5
          rw [sA_sA, bx_uu]
          exact this
      refine j_runs [87] ok_Ref_tell 40 ?_
      simp (disch := first | omega | simp (disch := omega) only [sA_ne, sA_self]) only [st_Ref_tell, rW_get hI, j_k, List.mem_cons, List.not_mem_nil, or_false, or_self, if_false, if_true, ↓reduceIte, List.getElem?_cons_zero, List.getElem?_cons_succ, List.set_cons_zero, List.set_cons_succ, List.length_cons, List.length_nil, g_ld_s, g_v_s, g_ob_s, g_ia_s, g_la_s, g_qa_s, g_al_s, t_i_s, t_a_r, t_a_n, t_a_q, t_l_s, true_and, and_true, and_self, true_or, or_true, Decidable.not_not, not_true_eq_false, not_false_eq_true, false_implies, true_implies, implies_true, j_ok1_s, j_isL, j_cat_i, j_cat_l, j_cat_r, j_cat_n, j_rf_cat, j_rf_some, j_rf_none, k_w8_0, k_w8_i, k_w8_r, k_w8_l, k_sum0, k_ints, k_nari, k_narz0, k_narz1, k_okv0, k_okv1, k_okv2, k_okv2n, k_okv3, Option.toList_some, Option.toList_none, List.cons_append, List.nil_append, List.append_nil, List.map_cons, List.map_nil, List.sum_cons, List.sum_nil, Nat.add_zero, Nat.zero_add, Nat.reduceAdd, Nat.reduceMul, Nat.reduceSub, Nat.reduceDiv, Nat.reduceMod, Nat.reduceLT, Nat.reduceLeDiff, Nat.reduceEqDiff, Nat.reduceBEq, Nat.reduceBNe, Nat.one_ne_zero, Nat.zero_ne_one, Nat.succ_ne_self, Nat.le_refl, Nat.sub_self, Nat.sub_zero, Nat.zero_le, reduceCtorEq, eq_self, Bool.false_eq_true, pk_mul, nI_add, k_in, nI_clamp, nI_eq, nI_ltI, nI_leI, k_upd, k_eq0, k_lt0, k_0le, k_0lt, k_le0, k_mod, f1, f2, f5]
      refine ⟨fun c => absurd c (by omega), fun _ => ⟨fun c => ?_, fun c => ⟨fun c' => ?_, fun c' => ?_⟩⟩⟩
      · exact tail 1 (by omega) ⟨fun _ => Or.inl c, fun _ => rfl⟩
      · exact tail 0 (by omega) ⟨fun q => absurd q (by decide), fun q => absurd q (by omega)⟩
      · exact tail 1 (by omega) ⟨fun _ => Or.inr c', fun _ => rfl⟩
  refine j_runs [47] ok_Ref_tell 60 ?_
  simp (disch := first | omega | simp (disch := omega) only [sA_ne, sA_self]) only [st_Ref_tell, rW_get hI, rW_put hI, j_k, List.mem_cons, List.not_mem_nil, or_false, or_self, if_false, if_true, ↓reduceIte, List.getElem?_cons_zero, List.getElem?_cons_succ, List.set_cons_zero, List.set_cons_succ, List.length_cons, List.length_nil, g_ld_s, g_v_s, g_ob_s, g_ia_s, g_la_s, g_qa_s, g_al_s, t_i_s, t_a_r, t_a_n, t_a_q, t_l_s, true_and, and_true, and_self, true_or, or_true, Decidable.not_not, not_true_eq_false, not_false_eq_true, false_implies, true_implies, implies_true, j_ok1_s, j_isL, j_cat_i, j_cat_l, j_cat_r, j_cat_n, j_rf_cat, j_rf_some, j_rf_none, k_w8_0, k_w8_i, k_w8_r, k_w8_l, k_sum0, k_ints, k_nari, k_narz0, k_narz1, k_okv0, k_okv1, k_okv2, k_okv2n, k_okv3, Option.toList_some, Option.toList_none, List.cons_append, List.nil_append, List.append_nil, List.map_cons, List.map_nil, List.sum_cons, List.sum_nil, Nat.add_zero, Nat.zero_add, Nat.reduceAdd, Nat.reduceMul, Nat.reduceSub, Nat.reduceDiv, Nat.reduceMod, Nat.reduceLT, Nat.reduceLeDiff, Nat.reduceEqDiff, Nat.reduceBEq, Nat.reduceBNe, Nat.one_ne_zero, Nat.zero_ne_one, Nat.succ_ne_self, Nat.le_refl, Nat.sub_self, Nat.sub_zero, Nat.zero_le, reduceCtorEq, eq_self, Bool.false_eq_true, pk_mul, nI_add, k_in, nI_clamp, nI_eq, nI_ltI, nI_leI, k_upd, k_eq0, k_lt0, k_0le, k_0lt, k_le0, k_mod, ex, sA_ne, sA_self, va_up_self]
  have := part5 (S 1 0) 0 none (by omega)
  unfold rT5 rMask at this
  have e : sA (rT4 S r) 11 (va_up (S 11) (rX S) 0) = rT4 S r := by
    funext k' i'
    unfold sA va_up
    by_cases hk : k' = 11
    · subst hk
      rw [if_pos rfl]
      have f : rT4 S r 11 = S 11 := by simp (disch := first | omega | simp (disch := omega) only [sA_ne, sA_self]) only [rT4, sA_ne, sA_self]
      rw [f]
      split
      · rename_i q; rw [q, h11]
      · rfl
    · rw [if_neg hk]
  rw [e] at this
  exact this
