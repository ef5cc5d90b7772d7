/-! THE CLASS: its bits, and send -/
def cB (S : Nat → Nat → Nat) (B : Nat → Nat → Int64) : Prop := ∀ p r i, p < S 18 0 → r < 8 → i < 512 → ((B p (8 * r + i / 64)).toBitVec.getLsbD (i % 64) = true ↔ rArr S (nI (p + 1)) (nI r) (nI i))
theorem rArr_add {S : Nat → Nat → Nat} {a b c d e : Nat} (hz : S 23 (6 * (S 22 0 + 1) + 5) = 0) {v1 v2 v3 : Int32} : rArr (rAdd S a b c d e) v1 v2 v3 ↔ rArr S v1 v2 v3 := by
  have e23 : rAdd S a b c d e 23 = va_up (va_up (va_up (va_up (va_up (S 23) (6 * (S 22 0 + 1)) a) (6 * (S 22 0 + 1) + 1) b) (6 * (S 22 0 + 1) + 2) c) (6 * (S 22 0 + 1) + 3) d) (6 * (S 22 0 + 1) + 4) e := rfl
  have e22 : rAdd S a b c d e 22 0 = S 22 0 + 1 := rfl
  have same : ∀ p, p ≤ S 22 0 → ∀ j, j < 6 → rAdd S a b c d e 23 (6 * p + j) = S 23 (6 * p + j) := by
    intro p hp j hj
    rw [e23]
    simp (disch := omega) only [va_up_ne]
  have same0 : ∀ p, p ≤ S 22 0 → rAdd S a b c d e 23 (6 * p) = S 23 (6 * p) := fun p hp => same p hp 0 (by decide)
  unfold rArr rBr
  constructor
  · rintro ⟨p, p1, p2, h1, h2, h3, h4, h5⟩
    rw [e22] at p2
    by_cases hp : p = S 22 0 + 1
    · subst hp
      exfalso
      rw [e23] at h3
      simp (disch := omega) only [va_up_ne] at h3
      omega
    · have hp' : p ≤ S 22 0 := by omega
      rw [same p hp' 1 (by decide), same p hp' 2 (by decide)] at h5
      rw [same p hp' 1 (by decide)] at h4
      rw [same0 p hp'] at h1
      rw [same p hp' 4 (by decide)] at h2
      rw [same p hp' 5 (by decide)] at h3
      exact ⟨p, p1, hp', h1, h2, h3, h4, h5⟩
  · rintro ⟨p, p1, p2, h1, h2, h3, h4, h5⟩
    refine ⟨p, p1, by rw [e22]; omega, ?_, ?_, ?_, ?_, ?_⟩
    · rw [same0 p p2]; exact h1
    · rw [same p p2 4 (by decide)]; exact h2
    · rw [same p p2 5 (by decide)]; exact h3
    · rw [same p p2 1 (by decide)]; exact h4
    · rw [same p p2 1 (by decide), same p p2 2 (by decide)]; exact h5
theorem cB.send {S : Nat → Nat → Nat} {B : Nat → Nat → Int64} (h : cB S B) (hS : rOK S) (hP : rPc S) {x n z a b c d e : Nat} : cB (rAdd (rSnd1 S x n z) a b c d e) (va_up B (S 18 0) (fun _ => 0)) := by
  intro p r i hp hr hi
  have hp : p < S 18 0 + 1 := hp
  have b18 : S 18 0 ≤ 12 := hS 18 0
  rw [rArr_add (S := rSnd1 S x n z) (hP.2.2 _ (Nat.lt_succ_self _))]
  show _ ↔ rArr S (nI (p + 1)) (nI r) (nI i)
  by_cases hpp : p = S 18 0
  · subst hpp
    rw [va_up_self]
    constructor
    · intro q
      simp at q
    · rintro ⟨p, p1, p2, h1, -⟩
      exfalso
      have := (hP.2.1 p p1 p2).2.1
      rw [nI_eq (by have := hS.b 23 (6 * p); omega) (by omega)] at h1
      omega
  · rw [va_up_ne _ _ hpp]
    exact h p r i (by omega) hr hi
theorem cB.add {S : Nat → Nat → Nat} {B : Nat → Nat → Int64} (h : cB S B) (hz : S 23 (6 * (S 22 0 + 1) + 5) = 0) {a b c d e : Nat} : cB (rAdd S a b c d e) B := by
  intro p r i hp hr hi
  rw [rArr_add hz]
  exact h p r i hp hr hi
set_option maxHeartbeats 4000000 in
set_option maxRecDepth 100000 in
theorem sp_Net_send {S X : Nat → Nat → Nat} {B : Nat → Nat → Int64} {A : Nat → Nat → Int32} {ad : Nat → Nat → Nat} {v1 v2 v3 : Int32} {z : Nat} {post : Option Value → jW → Prop} (hI : n_inj (cAl S) ad) (hS : rOK S) (hC : cI S X) (hP : rPc S) (hB : cB S B) (hz : z ≤ 1) (h : ∀ B' ad', cB (rSend S v1 v2 v3 z).2 B' → n_inj (cAl (rSend S v1 v2 v3 z).2) ad' → ad' 0 0 = ad 0 0 → post (some (.int (rSend S v1 v2 v3 z).1)) (cW (rSend S v1 v2 v3 z).2 X B' A ad')) : j_sem m_Net_send [.ref (ad 0 0), .int v1, .int v2, .int v3, .int (nI z)] (cW S X B A ad) 3 73 post := by
  refine j_sem_of (by decide +kernel) (Nat.le_of_ble_eq_true rfl) ?_
  show j_S _ _ 0 [some (.ref (ad 0 0)), some (.int v1), some (.int v2), some (.int v3), some (.int (nI z))] [] _ 3 73
  have b18 : S 18 0 ≤ 12 := hS 18 0
  have b22 : S 22 0 ≤ 80 := hS 22 0
  have bad : ¬ sndV v1 v2 v3 → j_S m_Net_send post 25 [some (.ref (ad 0 0)), some (.int v1), some (.int v2), some (.int v3), some (.int (nI z))] [] (cW S X B A ad) 3 73 := by
    intro c
    refine j_runs [] ok_Net_send 8 ?_
    simp (disch := first | omega | simp (disch := omega) only [sA_ne, sA_self]) only [st_Net_send, j_k, List.mem_cons, List.not_mem_nil, or_false, or_self, if_false, if_true, ↓reduceIte, List.getElem?_cons_zero, List.getElem?_cons_succ, List.set_cons_zero, List.set_cons_succ, List.length_cons, List.length_nil, g_ld_s, g_v_s, g_ob_s, g_ia_s, g_la_s, g_qa_s, g_al_s, t_i_s, t_a_r, t_a_n, t_a_q, t_l_s, true_and, and_true, and_self, true_or, or_true, Decidable.not_not, not_true_eq_false, not_false_eq_true, false_implies, true_implies, implies_true, j_ok1_s, j_isL, j_cat_i, j_cat_l, j_cat_r, j_cat_n, j_rf_cat, j_rf_some, j_rf_none, k_w8_0, k_w8_i, k_w8_r, k_w8_l, k_sum0, k_ints, k_nari, k_narz0, k_narz1, k_okv0, k_okv1, k_okv2, k_okv2n, k_okv3, Option.toList_some, Option.toList_none, List.cons_append, List.nil_append, List.append_nil, List.map_cons, List.map_nil, List.sum_cons, List.sum_nil, Nat.add_zero, Nat.zero_add, Nat.reduceAdd, Nat.reduceMul, Nat.reduceSub, Nat.reduceDiv, Nat.reduceMod, Nat.reduceLT, Nat.reduceLeDiff, Nat.reduceEqDiff, Nat.reduceBEq, Nat.reduceBNe, Nat.one_ne_zero, Nat.zero_ne_one, Nat.succ_ne_self, Nat.le_refl, Nat.sub_self, Nat.sub_zero, Nat.zero_le, reduceCtorEq, eq_self, Bool.false_eq_true]
    unfold rSend at h
    rw [if_neg c] at h
    exact h B ad hB hI rfl
  have full : sndV v1 v2 v3 → (S 18 0 = 12 ∨ S 22 0 = 80) → j_S m_Net_send post 45 [some (.ref (ad 0 0)), some (.int v1), some (.int v2), some (.int v3), some (.int (nI z))] [] (cW S X B A ad) 3 73 := by
    intro c c'
    refine j_runs [] ok_Net_send 8 ?_
    simp (disch := first | omega | simp (disch := omega) only [sA_ne, sA_self]) only [st_Net_send, j_k, List.mem_cons, List.not_mem_nil, or_false, or_self, if_false, if_true, ↓reduceIte, List.getElem?_cons_zero, List.getElem?_cons_succ, List.set_cons_zero, List.set_cons_succ, List.length_cons, List.length_nil, g_ld_s, g_v_s, g_ob_s, g_ia_s, g_la_s, g_qa_s, g_al_s, t_i_s, t_a_r, t_a_n, t_a_q, t_l_s, true_and, and_true, and_self, true_or, or_true, Decidable.not_not, not_true_eq_false, not_false_eq_true, false_implies, true_implies, implies_true, j_ok1_s, j_isL, j_cat_i, j_cat_l, j_cat_r, j_cat_n, j_rf_cat, j_rf_some, j_rf_none, k_w8_0, k_w8_i, k_w8_r, k_w8_l, k_sum0, k_ints, k_nari, k_narz0, k_narz1, k_okv0, k_okv1, k_okv2, k_okv2n, k_okv3, Option.toList_some, Option.toList_none, List.cons_append, List.nil_append, List.append_nil, List.map_cons, List.map_nil, List.sum_cons, List.sum_nil, Nat.add_zero, Nat.zero_add, Nat.reduceAdd, Nat.reduceMul, Nat.reduceSub, Nat.reduceDiv, Nat.reduceMod, Nat.reduceLT, Nat.reduceLeDiff, Nat.reduceEqDiff, Nat.reduceBEq, Nat.reduceBNe, Nat.one_ne_zero, Nat.zero_ne_one, Nat.succ_ne_self, Nat.le_refl, Nat.sub_self, Nat.sub_zero, Nat.zero_le, reduceCtorEq, eq_self, Bool.false_eq_true]
    unfold rSend at h
    rw [if_pos c, if_pos c'] at h
    exact h B ad hB hI rfl
  refine j_runs [25, 45] ok_Net_send 200 ?_
  simp (disch := first | omega | simp (disch := omega) only [sA_ne, sA_self]) only [st_Net_send, j_k, List.mem_cons, List.not_mem_nil, or_false, or_self, if_false, if_true, ↓reduceIte, List.getElem?_cons_zero, List.getElem?_cons_succ, List.set_cons_zero, List.set_cons_succ, List.length_cons, List.length_nil, g_ld_s, g_v_s, g_ob_s, g_ia_s, g_la_s, g_qa_s, g_al_s, t_i_s, t_a_r, t_a_n, t_a_q, t_l_s, true_and, and_true, and_self, true_or, or_true, Decidable.not_not, not_true_eq_false, not_false_eq_true, false_implies, true_implies, implies_true, j_ok1_s, j_isL, j_cat_i, j_cat_l, j_cat_r, j_cat_n, j_rf_cat, j_rf_some, j_rf_none, k_w8_0, k_w8_i, k_w8_r, k_w8_l, k_sum0, k_ints, k_nari, k_narz0, k_narz1, k_okv0, k_okv1, k_okv2, k_okv2n, k_okv3, Option.toList_some, Option.toList_none, List.cons_append, List.nil_append, List.append_nil, List.map_cons, List.map_nil, List.sum_cons, List.sum_nil, Nat.add_zero, Nat.zero_add, Nat.reduceAdd, Nat.reduceMul, Nat.reduceSub, Nat.reduceDiv, Nat.reduceMod, Nat.reduceLT, Nat.reduceLeDiff, Nat.reduceEqDiff, Nat.reduceBEq, Nat.reduceBNe, Nat.one_ne_zero, Nat.zero_ne_one, Nat.succ_ne_self, Nat.le_refl, Nat.sub_self, Nat.sub_zero, Nat.zero_le, reduceCtorEq, eq_self, Bool.false_eq_true]
  refine g_call0 (sp_Net_isRouter (fun c1 => ?_) (fun c1 => ?_))
  · simp (disch := first | omega | simp (disch := omega) only [sA_ne, sA_self]) only [st_Net_send, j_k, List.mem_cons, List.not_mem_nil, or_false, or_self, if_false, if_true, ↓reduceIte, List.getElem?_cons_zero, List.getElem?_cons_succ, List.set_cons_zero, List.set_cons_succ, List.length_cons, List.length_nil, g_ld_s, g_v_s, g_ob_s, g_ia_s, g_la_s, g_qa_s, g_al_s, t_i_s, t_a_r, t_a_n, t_a_q, t_l_s, true_and, and_true, and_self, true_or, or_true, Decidable.not_not, not_true_eq_false, not_false_eq_true, false_implies, true_implies, implies_true, j_ok1_s, j_isL, j_cat_i, j_cat_l, j_cat_r, j_cat_n, j_rf_cat, j_rf_some, j_rf_none, k_w8_0, k_w8_i, k_w8_r, k_w8_l, k_sum0, k_ints, k_nari, k_narz0, k_narz1, k_okv0, k_okv1, k_okv2, k_okv2n, k_okv3, Option.toList_some, Option.toList_none, List.cons_append, List.nil_append, List.append_nil, List.map_cons, List.map_nil, List.sum_cons, List.sum_nil, Nat.add_zero, Nat.zero_add, Nat.reduceAdd, Nat.reduceMul, Nat.reduceSub, Nat.reduceDiv, Nat.reduceMod, Nat.reduceLT, Nat.reduceLeDiff, Nat.reduceEqDiff, Nat.reduceBEq, Nat.reduceBNe, Nat.one_ne_zero, Nat.zero_ne_one, Nat.succ_ne_self, Nat.le_refl, Nat.sub_self, Nat.sub_zero, Nat.zero_le, reduceCtorEq, eq_self, Bool.false_eq_true, pk_mul, nI_add, k_in, nI_clamp, nI_eq, nI_ltI, nI_leI, k_upd, k_eq0, k_lt0, k_0le, k_0lt, k_le0, k_mod]
    refine g_call0 (sp_Net_isAddress (fun c2 => ?_) (fun c2 => ?_))
    · simp (disch := first | omega | simp (disch := omega) only [sA_ne, sA_self]) only [st_Net_send, j_k, List.mem_cons, List.not_mem_nil, or_false, or_self, if_false, if_true, ↓reduceIte, List.getElem?_cons_zero, List.getElem?_cons_succ, List.set_cons_zero, List.set_cons_succ, List.length_cons, List.length_nil, g_ld_s, g_v_s, g_ob_s, g_ia_s, g_la_s, g_qa_s, g_al_s, t_i_s, t_a_r, t_a_n, t_a_q, t_l_s, true_and, and_true, and_self, true_or, or_true, Decidable.not_not, not_true_eq_false, not_false_eq_true, false_implies, true_implies, implies_true, j_ok1_s, j_isL, j_cat_i, j_cat_l, j_cat_r, j_cat_n, j_rf_cat, j_rf_some, j_rf_none, k_w8_0, k_w8_i, k_w8_r, k_w8_l, k_sum0, k_ints, k_nari, k_narz0, k_narz1, k_okv0, k_okv1, k_okv2, k_okv2n, k_okv3, Option.toList_some, Option.toList_none, List.cons_append, List.nil_append, List.append_nil, List.map_cons, List.map_nil, List.sum_cons, List.sum_nil, Nat.add_zero, Nat.zero_add, Nat.reduceAdd, Nat.reduceMul, Nat.reduceSub, Nat.reduceDiv, Nat.reduceMod, Nat.reduceLT, Nat.reduceLeDiff, Nat.reduceEqDiff, Nat.reduceBEq, Nat.reduceBNe, Nat.one_ne_zero, Nat.zero_ne_one, Nat.succ_ne_self, Nat.le_refl, Nat.sub_self, Nat.sub_zero, Nat.zero_le, reduceCtorEq, eq_self, Bool.false_eq_true, pk_mul, nI_add, k_in, nI_clamp, nI_eq, nI_ltI, nI_leI, k_upd, k_eq0, k_lt0, k_0le, k_0lt, k_le0, k_mod]
      refine g_call0 (sp_Net_isWithin (fun c3 => ?_) (fun c3 => ?_))
      · have valid : sndV v1 v2 v3 := ⟨c1, c2, c3⟩
        have full := full valid
        obtain ⟨e1, -, i1⟩ := inR_of c1 (by decide) (by decide)
        obtain ⟨e2, -, i2⟩ := inR_of c2 (by decide) (by decide)
        obtain ⟨e3, -, i3⟩ := inR_of c3 (by decide) (by decide)
        unfold rSend at h
        rw [if_pos valid] at h
        clear bad valid
        generalize N v1 = r at *
        generalize N v2 = x at *
        generalize N v3 = n at *
        subst e1 e2 e3
        simp (disch := first | omega | simp (disch := omega) only [sA_ne, sA_self]) only [st_Net_send, cg0 hI, j_k, List.mem_cons, List.not_mem_nil, or_false, or_self, if_false, if_true, ↓reduceIte, List.getElem?_cons_zero, List.getElem?_cons_succ, List.set_cons_zero, List.set_cons_succ, List.length_cons, List.length_nil, g_ld_s, g_v_s, g_ob_s, g_ia_s, g_la_s, g_qa_s, g_al_s, t_i_s, t_a_r, t_a_n, t_a_q, t_l_s, true_and, and_true, and_self, true_or, or_true, Decidable.not_not, not_true_eq_false, not_false_eq_true, false_implies, true_implies, implies_true, j_ok1_s, j_isL, j_cat_i, j_cat_l, j_cat_r, j_cat_n, j_rf_cat, j_rf_some, j_rf_none, k_w8_0, k_w8_i, k_w8_r, k_w8_l, k_sum0, k_ints, k_nari, k_narz0, k_narz1, k_okv0, k_okv1, k_okv2, k_okv2n, k_okv3, Option.toList_some, Option.toList_none, List.cons_append, List.nil_append, List.append_nil, List.map_cons, List.map_nil, List.sum_cons, List.sum_nil, Nat.add_zero, Nat.zero_add, Nat.reduceAdd, Nat.reduceMul, Nat.reduceSub, Nat.reduceDiv, Nat.reduceMod, Nat.reduceLT, Nat.reduceLeDiff, Nat.reduceEqDiff, Nat.reduceBEq, Nat.reduceBNe, Nat.one_ne_zero, Nat.zero_ne_one, Nat.succ_ne_self, Nat.le_refl, Nat.sub_self, Nat.sub_zero, Nat.zero_le, reduceCtorEq, eq_self, Bool.false_eq_true, pk_mul, nI_add, k_in, nI_clamp, nI_eq, nI_ltI, nI_leI, k_upd, k_eq0, k_lt0, k_0le, k_0lt, k_le0, k_mod]
        refine ⟨fun c4 => full (Or.inl c4), fun c4 => ⟨fun c5 => ?_, fun c5 => full (Or.inr c5)⟩⟩
        rw [if_neg (by omega)] at h
        intro q hq
        refine g_calln (mc := 1) (ms := 64) (by decide) (by decide) (sp_Packet_init (j_up_self _ _ _) hz (fun q1 h1 => ?_))
        have m1 : q ≠ q1 := by rintro rfl; rw [j_up_self] at h1; cases h1
        rw [j_up_ne _ _ (Ne.symm m1)] at h1
        rw [j_up_3]
        obtain ⟨ad', k1, k2, k4⟩ := cW_packet (x := x) (n := n) (z := z) hI hC hq h1 m1
        have ne9 : ∀ x, cW S X B A ad x = none → ad 9 0 ≠ x := by rintro x hx rfl; rw [cg9 hI] at hx; cases hx
        have ne0 : ∀ x, cW S X B A ad x = none → ad 0 0 ≠ x := by rintro x hx rfl; rw [cg0 hI] at hx; cases hx
        generalize eW : j_up (j_up (cW S X B A ad) q1 (.inl (2, 64, .inr (.inl (fun _ => 0))))) q (.inr (6, [.int (nI x), .int (nI z), .ref q1])) = W at k4 ⊢
        have w9 : W (ad 9 0) = some (.inl (5, 12, qA (cRow (S 18 0) (ad 10)))) := by
          rw [← eW, j_up_ne _ _ (ne9 q hq), j_up_ne _ _ (ne9 q1 h1)]
          exact cg9 hI
        have w0 : W (ad 0 0) = some (.inr (0, [.int (nI (S 0 0)), .ref (ad 1 0), .ref (ad 5 0), .ref (ad 9 0), .ref (ad 12 0), .ref (ad 14 0), .int (nI (S 1 0)), .int (nI (S 18 0)), .int (nI (S 22 0))])) := by
          rw [← eW, j_up_ne _ _ (ne0 q hq), j_up_ne _ _ (ne0 q1 h1)]
          exact cg0 hI
        have wq : W q = some (.inr (6, [.int (nI x), .int (nI z), .ref q1])) := by
          rw [← eW, j_up_self]
        have n09 : ad 0 0 ≠ ad 9 0 := fun e => by
          have := hI 0 0 9 0 rfl rfl e
          omega
        have e18 : rSnd1 S x n z 18 0 = S 18 0 + 1 := rfl
        have e22 : rSnd1 S x n z 22 0 = S 22 0 := rfl
        have e00 : rSnd1 S x n z 0 0 = S 0 0 := rfl
        simp (disch := first | omega | simp (disch := omega) only [sA_ne, sA_self]) only [st_Net_send, w9, w0, wq, j_up_ne _ _ n09, k4, j_k, List.mem_cons, List.not_mem_nil, or_false, or_self, if_false, if_true, ↓reduceIte, List.getElem?_cons_zero, List.getElem?_cons_succ, List.set_cons_zero, List.set_cons_succ, List.length_cons, List.length_nil, g_ld_s, g_v_s, g_ob_s, g_ia_s, g_la_s, g_qa_s, g_al_s, t_i_s, t_a_r, t_a_n, t_a_q, t_l_s, true_and, and_true, and_self, true_or, or_true, Decidable.not_not, not_true_eq_false, not_false_eq_true, false_implies, true_implies, implies_true, j_ok1_s, j_isL, j_cat_i, j_cat_l, j_cat_r, j_cat_n, j_rf_cat, j_rf_some, j_rf_none, k_w8_0, k_w8_i, k_w8_r, k_w8_l, k_sum0, k_ints, k_nari, k_narz0, k_narz1, k_okv0, k_okv1, k_okv2, k_okv2n, k_okv3, Option.toList_some, Option.toList_none, List.cons_append, List.nil_append, List.append_nil, List.map_cons, List.map_nil, List.sum_cons, List.sum_nil, Nat.add_zero, Nat.zero_add, Nat.reduceAdd, Nat.reduceMul, Nat.reduceSub, Nat.reduceDiv, Nat.reduceMod, Nat.reduceLT, Nat.reduceLeDiff, Nat.reduceEqDiff, Nat.reduceBEq, Nat.reduceBNe, Nat.one_ne_zero, Nat.zero_ne_one, Nat.succ_ne_self, Nat.le_refl, Nat.sub_self, Nat.sub_zero, Nat.zero_le, reduceCtorEq, eq_self, Bool.false_eq_true, pk_mul, nI_add, k_in, nI_clamp, nI_eq, nI_ltI, nI_leI, k_upd, k_eq0, k_lt0, k_0le, k_0lt, k_le0, k_mod]
        intro q2 hq2
        rw [← k2 0 0 rfl]
        have g0 := cg0 (X := X) (B := va_up B (S 18 0) (fun _ => 0)) (A := A) k1
        have g12 := cg12 (X := X) (B := va_up B (S 18 0) (fun _ => 0)) (A := A) k1
        have ne0 : ad' 0 0 ≠ q2 := by rintro rfl; rw [g0] at hq2; cases hq2
        have ne12 : ad' 12 0 ≠ q2 := by rintro rfl; rw [g12] at hq2; cases hq2
        rw [e18, e22, e00] at g0
        simp (disch := first | omega | simp (disch := omega) only [sA_ne, sA_self]) only [st_Net_send, j_up_ne _ _ ne0, g0, j_k, List.mem_cons, List.not_mem_nil, or_false, or_self, if_false, if_true, ↓reduceIte, List.getElem?_cons_zero, List.getElem?_cons_succ, List.set_cons_zero, List.set_cons_succ, List.length_cons, List.length_nil, g_ld_s, g_v_s, g_ob_s, g_ia_s, g_la_s, g_qa_s, g_al_s, t_i_s, t_a_r, t_a_n, t_a_q, t_l_s, true_and, and_true, and_self, true_or, or_true, Decidable.not_not, not_true_eq_false, not_false_eq_true, false_implies, true_implies, implies_true, j_ok1_s, j_isL, j_cat_i, j_cat_l, j_cat_r, j_cat_n, j_rf_cat, j_rf_some, j_rf_none, k_w8_0, k_w8_i, k_w8_r, k_w8_l, k_sum0, k_ints, k_nari, k_narz0, k_narz1, k_okv0, k_okv1, k_okv2, k_okv2n, k_okv3, Option.toList_some, Option.toList_none, List.cons_append, List.nil_append, List.append_nil, List.map_cons, List.map_nil, List.sum_cons, List.sum_nil, Nat.add_zero, Nat.zero_add, Nat.reduceAdd, Nat.reduceMul, Nat.reduceSub, Nat.reduceDiv, Nat.reduceMod, Nat.reduceLT, Nat.reduceLeDiff, Nat.reduceEqDiff, Nat.reduceBEq, Nat.reduceBNe, Nat.one_ne_zero, Nat.zero_ne_one, Nat.succ_ne_self, Nat.le_refl, Nat.sub_self, Nat.sub_zero, Nat.zero_le, reduceCtorEq, eq_self, Bool.false_eq_true, pk_mul, nI_add, k_in, nI_clamp, nI_eq, nI_ltI, nI_leI, k_upd, k_eq0, k_lt0, k_0le, k_0lt, k_le0, k_mod]
        refine g_call0 (sp_Piece_init (j_up_self _ _ _) ?_)
        rw [j_up_up]
        simp (disch := first | omega | simp (disch := omega) only [sA_ne, sA_self]) only [st_Net_send, j_up_ne _ _ ne0, g0, j_k, List.mem_cons, List.not_mem_nil, or_false, or_self, if_false, if_true, ↓reduceIte, List.getElem?_cons_zero, List.getElem?_cons_succ, List.set_cons_zero, List.set_cons_succ, List.length_cons, List.length_nil, g_ld_s, g_v_s, g_ob_s, g_ia_s, g_la_s, g_qa_s, g_al_s, t_i_s, t_a_r, t_a_n, t_a_q, t_l_s, true_and, and_true, and_self, true_or, or_true, Decidable.not_not, not_true_eq_false, not_false_eq_true, false_implies, true_implies, implies_true, j_ok1_s, j_isL, j_cat_i, j_cat_l, j_cat_r, j_cat_n, j_rf_cat, j_rf_some, j_rf_none, k_w8_0, k_w8_i, k_w8_r, k_w8_l, k_sum0, k_ints, k_nari, k_narz0, k_narz1, k_okv0, k_okv1, k_okv2, k_okv2n, k_okv3, Option.toList_some, Option.toList_none, List.cons_append, List.nil_append, List.append_nil, List.map_cons, List.map_nil, List.sum_cons, List.sum_nil, Nat.add_zero, Nat.zero_add, Nat.reduceAdd, Nat.reduceMul, Nat.reduceSub, Nat.reduceDiv, Nat.reduceMod, Nat.reduceLT, Nat.reduceLeDiff, Nat.reduceEqDiff, Nat.reduceBEq, Nat.reduceBNe, Nat.one_ne_zero, Nat.zero_ne_one, Nat.succ_ne_self, Nat.le_refl, Nat.sub_self, Nat.sub_zero, Nat.zero_le, reduceCtorEq, eq_self, Bool.false_eq_true, pk_mul, nI_add, k_in, nI_clamp, nI_eq, nI_ltI, nI_leI, k_upd, k_eq0, k_lt0, k_0le, k_0lt, k_le0, k_mod]
        have hC2 : cI (rSnd1 S x n z) X := hC.congr rfl rfl rfl rfl rfl rfl
        obtain ⟨ad2, l1, l2, l3⟩ := cW_piece (S := rSnd1 S x n z) (a := S 18 0 + 1) (b := 0) (c := n) (d := S 0 0) (e := r) k1 hC2 (hP.2.2 _ (Nat.lt_succ_self _)) hq2
        rw [e18, e22, e00] at l3
        refine g_call0 (sp_Net_addPiece ((j_up_ne _ _ ne0).trans g0) ((j_up_ne _ _ ne12).trans g12) (j_up_self _ _ _) (by omega) ?_)
        rw [e22, l3, ← l2 0 0 rfl]
        have g0 := cg0 (X := X) (B := va_up B (S 18 0) (fun _ => 0)) (A := A) l1
        have e3 : rAdd (rSnd1 S x n z) (S 18 0 + 1) 0 n (S 0 0) r 18 0 = S 18 0 + 1 := rfl
        rw [e3] at g0
        simp (disch := first | omega | simp (disch := omega) only [sA_ne, sA_self]) only [st_Net_send, g0, j_k, List.mem_cons, List.not_mem_nil, or_false, or_self, if_false, if_true, ↓reduceIte, List.getElem?_cons_zero, List.getElem?_cons_succ, List.set_cons_zero, List.set_cons_succ, List.length_cons, List.length_nil, g_ld_s, g_v_s, g_ob_s, g_ia_s, g_la_s, g_qa_s, g_al_s, t_i_s, t_a_r, t_a_n, t_a_q, t_l_s, true_and, and_true, and_self, true_or, or_true, Decidable.not_not, not_true_eq_false, not_false_eq_true, false_implies, true_implies, implies_true, j_ok1_s, j_isL, j_cat_i, j_cat_l, j_cat_r, j_cat_n, j_rf_cat, j_rf_some, j_rf_none, k_w8_0, k_w8_i, k_w8_r, k_w8_l, k_sum0, k_ints, k_nari, k_narz0, k_narz1, k_okv0, k_okv1, k_okv2, k_okv2n, k_okv3, Option.toList_some, Option.toList_none, List.cons_append, List.nil_append, List.append_nil, List.map_cons, List.map_nil, List.sum_cons, List.sum_nil, Nat.add_zero, Nat.zero_add, Nat.reduceAdd, Nat.reduceMul, Nat.reduceSub, Nat.reduceDiv, Nat.reduceMod, Nat.reduceLT, Nat.reduceLeDiff, Nat.reduceEqDiff, Nat.reduceBEq, Nat.reduceBNe, Nat.one_ne_zero, Nat.zero_ne_one, Nat.succ_ne_self, Nat.le_refl, Nat.sub_self, Nat.sub_zero, Nat.zero_le, reduceCtorEq, eq_self, Bool.false_eq_true, pk_mul, nI_add, k_in, nI_clamp, nI_eq, nI_ltI, nI_leI, k_upd, k_eq0, k_lt0, k_0le, k_0lt, k_le0, k_mod]
        exact h _ ad2 (hB.send hS hP) l1 ((l2 0 0 rfl).trans (k2 0 0 rfl))
      · simp (disch := first | omega | simp (disch := omega) only [sA_ne, sA_self]) only [st_Net_send, j_k, List.mem_cons, List.not_mem_nil, or_false, or_self, if_false, if_true, ↓reduceIte, List.getElem?_cons_zero, List.getElem?_cons_succ, List.set_cons_zero, List.set_cons_succ, List.length_cons, List.length_nil, g_ld_s, g_v_s, g_ob_s, g_ia_s, g_la_s, g_qa_s, g_al_s, t_i_s, t_a_r, t_a_n, t_a_q, t_l_s, true_and, and_true, and_self, true_or, or_true, Decidable.not_not, not_true_eq_false, not_false_eq_true, false_implies, true_implies, implies_true, j_ok1_s, j_isL, j_cat_i, j_cat_l, j_cat_r, j_cat_n, j_rf_cat, j_rf_some, j_rf_none, k_w8_0, k_w8_i, k_w8_r, k_w8_l, k_sum0, k_ints, k_nari, k_narz0, k_narz1, k_okv0, k_okv1, k_okv2, k_okv2n, k_okv3, Option.toList_some, Option.toList_none, List.cons_append, List.nil_append, List.append_nil, List.map_cons, List.map_nil, List.sum_cons, List.sum_nil, Nat.add_zero, Nat.zero_add, Nat.reduceAdd, Nat.reduceMul, Nat.reduceSub, Nat.reduceDiv, Nat.reduceMod, Nat.reduceLT, Nat.reduceLeDiff, Nat.reduceEqDiff, Nat.reduceBEq, Nat.reduceBNe, Nat.one_ne_zero, Nat.zero_ne_one, Nat.succ_ne_self, Nat.le_refl, Nat.sub_self, Nat.sub_zero, Nat.zero_le, reduceCtorEq, eq_self, Bool.false_eq_true, pk_mul, nI_add, k_in, nI_clamp, nI_eq, nI_ltI, nI_leI, k_upd, k_eq0, k_lt0, k_0le, k_0lt, k_le0, k_mod]
        exact bad (fun q => c3 q.2.2)
    · simp (disch := first | omega | simp (disch := omega) only [sA_ne, sA_self]) only [st_Net_send, j_k, List.mem_cons, List.not_mem_nil, or_false, or_self, if_false, if_true, ↓reduceIte, List.getElem?_cons_zero, List.getElem?_cons_succ, List.set_cons_zero, List.set_cons_succ, List.length_cons, List.length_nil, g_ld_s, g_v_s, g_ob_s, g_ia_s, g_la_s, g_qa_s, g_al_s, t_i_s, t_a_r, t_a_n, t_a_q, t_l_s, true_and, and_true, and_self, true_or, or_true, Decidable.not_not, not_true_eq_false, not_false_eq_true, false_implies, true_implies, implies_true, j_ok1_s, j_isL, j_cat_i, j_cat_l, j_cat_r, j_cat_n, j_rf_cat, j_rf_some, j_rf_none, k_w8_0, k_w8_i, k_w8_r, k_w8_l, k_sum0, k_ints, k_nari, k_narz0, k_narz1, k_okv0, k_okv1, k_okv2, k_okv2n, k_okv3, Option.toList_some, Option.toList_none, List.cons_append, List.nil_append, List.append_nil, List.map_cons, List.map_nil, List.sum_cons, List.sum_nil, Nat.add_zero, Nat.zero_add, Nat.reduceAdd, Nat.reduceMul, Nat.reduceSub, Nat.reduceDiv, Nat.reduceMod, Nat.reduceLT, Nat.reduceLeDiff, Nat.reduceEqDiff, Nat.reduceBEq, Nat.reduceBNe, Nat.one_ne_zero, Nat.zero_ne_one, Nat.succ_ne_self, Nat.le_refl, Nat.sub_self, Nat.sub_zero, Nat.zero_le, reduceCtorEq, eq_self, Bool.false_eq_true, pk_mul, nI_add, k_in, nI_clamp, nI_eq, nI_ltI, nI_leI, k_upd, k_eq0, k_lt0, k_0le, k_0lt, k_le0, k_mod]
      exact bad (fun q => c2 q.2.1)
  · simp (disch := first | omega | simp (disch := omega) only [sA_ne, sA_self]) only [st_Net_send, j_k, List.mem_cons, List.not_mem_nil, or_false, or_self, if_false, if_true, ↓reduceIte, List.getElem?_cons_zero, List.getElem?_cons_succ, List.set_cons_zero, List.set_cons_succ, List.length_cons, List.length_nil, g_ld_s, g_v_s, g_ob_s, g_ia_s, g_la_s, g_qa_s, g_al_s, t_i_s, t_a_r, t_a_n, t_a_q, t_l_s, true_and, and_true, and_self, true_or, or_true, Decidable.not_not, not_true_eq_false, not_false_eq_true, false_implies, true_implies, implies_true, j_ok1_s, j_isL, j_cat_i, j_cat_l, j_cat_r, j_cat_n, j_rf_cat, j_rf_some, j_rf_none, k_w8_0, k_w8_i, k_w8_r, k_w8_l, k_sum0, k_ints, k_nari, k_narz0, k_narz1, k_okv0, k_okv1, k_okv2, k_okv2n, k_okv3, Option.toList_some, Option.toList_none, List.cons_append, List.nil_append, List.append_nil, List.map_cons, List.map_nil, List.sum_cons, List.sum_nil, Nat.add_zero, Nat.zero_add, Nat.reduceAdd, Nat.reduceMul, Nat.reduceSub, Nat.reduceDiv, Nat.reduceMod, Nat.reduceLT, Nat.reduceLeDiff, Nat.reduceEqDiff, Nat.reduceBEq, Nat.reduceBNe, Nat.one_ne_zero, Nat.zero_ne_one, Nat.succ_ne_self, Nat.le_refl, Nat.sub_self, Nat.sub_zero, Nat.zero_le, reduceCtorEq, eq_self, Bool.false_eq_true, pk_mul, nI_add, k_in, nI_clamp, nI_eq, nI_ltI, nI_leI, k_upd, k_eq0, k_lt0, k_0le, k_0lt, k_le0, k_mod]
    exact bad (fun q => c1 q.1)
