/-! fate and go -/
theorem rRt_cases {S : Nat → Nat → Nat} {ro x : Nat} : rRt S ro x = -4 ∨ rRt S ro x = -3 ∨ ∃ l, l < S 1 0 ∧ rRt S ro x = nI l := by
  have key : ∀ e d l k, rFst S ro e d l = some k → k < l + d := by
    intro e d
    induction d with
    | zero => intro l k h; cases h
    | succ d ih =>
      intro l k h
      unfold rFst at h
      split at h
      · have := Option.some.inj h
        omega
      · have := ih (l + 1) k h
        omega
  unfold rRt
  cases ee : rEnd S ro x with
  | none => exact Or.inr (Or.inl rfl)
  | some e =>
    dsimp only
    by_cases c : e = ro
    · rw [if_pos c]; exact Or.inl rfl
    · rw [if_neg c]
      cases ef : rFst S ro e (S 1 0) 0 with
      | none => exact Or.inr (Or.inl rfl)
      | some l =>
        have := key e (S 1 0) 0 l ef
        exact Or.inr (Or.inr ⟨l, by omega, rfl⟩)
theorem k_nm4 {l : Nat} (h : l < 2 ^ 31) : (nI l = -4) ↔ False := by
  constructor
  · intro q
    have := congrArg Int32.toInt q
    rw [nI_toInt h] at this
    have e : ((-4 : Int32)).toInt = -4 := by decide
    omega
  · exact False.elim
theorem k_nm3 {l : Nat} (h : l < 2 ^ 31) : (nI l = -3) ↔ False := by
  constructor
  · intro q
    have := congrArg Int32.toInt q
    rw [nI_toInt h] at this
    have e : ((-3 : Int32)).toInt = -3 := by decide
    omega
  · exact False.elim
theorem k_m3m4 : ((-3 : Int32) = -4) ↔ False := by decide
/-- why a piece at b stops, 0 if it goes on over link l -/
def rFate (S : Nat → Nat → Nat) (b : Nat) (way : Int32) : Nat := if way = -4 then 1 else if S 23 (b + 3) = 0 then 3 else if way = -3 then 2 else if S 4 (N way) < S 23 (b + 2) ∧ S 21 (S 23 b) = 1 then 4 else 0
set_option maxHeartbeats 4000000 in
set_option maxRecDepth 100000 in
theorem sp_Ref_fate {S : Nat → Nat → Nat} {F : Nat → Int32} {ad : Nat → Nat → Nat} {b : Nat} {way : Int32} {post : Option Value → jW → Prop} (hI : n_inj rAl ad) (hS : rOK S) (hb : b ≤ 480) (hp : S 23 b ≤ 12) (hw : way = -4 ∨ way = -3 ∨ ∃ l, l < S 1 0 ∧ way = nI l) (h : post (some (.int (nI (rFate S b way)))) (rW S F ad)) : j_sem m_Ref_fate [.ref (ad 0 0), .int (nI b), .int way] (rW S F ad) 0 0 post := by
  refine j_sem_of (by decide +kernel) (Nat.le_of_ble_eq_true rfl) ?_
  show j_S _ _ 0 [some (.ref (ad 0 0)), some (.int (nI b)), some (.int way)] [] _ 0 0
  have b3 : S 23 (b + 3) ≤ 500 := hS 23 _
  have b2 : S 23 (b + 2) ≤ 500 := hS 23 _
  have b21 : S 21 (S 23 b) ≤ 1 := hS 21 _
  have bL : S 1 0 ≤ 12 := hS 1 0
  unfold rFate at h
  refine j_runs [] ok_Ref_fate 80 ?_
  rcases hw with rfl | rfl | ⟨l, hl, rfl⟩
  · rw [if_pos rfl] at h
    simp (disch := first | omega | simp (disch := omega) only [sA_ne, sA_self]) only [st_Ref_fate, rW_get hI, j_k, List.mem_cons, List.not_mem_nil, or_false, or_self, if_false, if_true, ↓reduceIte, List.getElem?_cons_zero, List.getElem?_cons_succ, List.set_cons_zero, List.set_cons_succ, List.length_cons, List.length_nil, g_ld_s, g_v_s, g_ob_s, g_ia_s, g_la_s, g_qa_s, g_al_s, t_i_s, t_a_r, t_a_n, t_a_q, t_l_s, true_and, and_true, and_self, true_or, or_true, Decidable.not_not, not_true_eq_false, not_false_eq_true, false_implies, true_implies, implies_true, j_ok1_s, j_isL, j_cat_i, j_cat_l, j_cat_r, j_cat_n, j_rf_cat, j_rf_some, j_rf_none, k_w8_0, k_w8_i, k_w8_r, k_w8_l, k_sum0, k_ints, k_nari, k_narz0, k_narz1, k_okv0, k_okv1, k_okv2, k_okv2n, k_okv3, Option.toList_some, Option.toList_none, List.cons_append, List.nil_append, List.append_nil, List.map_cons, List.map_nil, List.sum_cons, List.sum_nil, Nat.add_zero, Nat.zero_add, Nat.reduceAdd, Nat.reduceMul, Nat.reduceSub, Nat.reduceDiv, Nat.reduceMod, Nat.reduceLT, Nat.reduceLeDiff, Nat.reduceEqDiff, Nat.reduceBEq, Nat.reduceBNe, Nat.one_ne_zero, Nat.zero_ne_one, Nat.succ_ne_self, Nat.le_refl, Nat.sub_self, Nat.sub_zero, Nat.zero_le, reduceCtorEq, eq_self, Bool.false_eq_true, pk_mul, nI_add, k_in, nI_clamp, nI_eq, nI_ltI, nI_leI, k_upd, k_eq0, k_lt0, k_0le, k_0lt, k_le0, k_mod]
    exact h
  · rw [if_neg (by decide)] at h
    simp (disch := first | omega | simp (disch := omega) only [sA_ne, sA_self]) only [st_Ref_fate, rW_get hI, j_k, List.mem_cons, List.not_mem_nil, or_false, or_self, if_false, if_true, ↓reduceIte, List.getElem?_cons_zero, List.getElem?_cons_succ, List.set_cons_zero, List.set_cons_succ, List.length_cons, List.length_nil, g_ld_s, g_v_s, g_ob_s, g_ia_s, g_la_s, g_qa_s, g_al_s, t_i_s, t_a_r, t_a_n, t_a_q, t_l_s, true_and, and_true, and_self, true_or, or_true, Decidable.not_not, not_true_eq_false, not_false_eq_true, false_implies, true_implies, implies_true, j_ok1_s, j_isL, j_cat_i, j_cat_l, j_cat_r, j_cat_n, j_rf_cat, j_rf_some, j_rf_none, k_w8_0, k_w8_i, k_w8_r, k_w8_l, k_sum0, k_ints, k_nari, k_narz0, k_narz1, k_okv0, k_okv1, k_okv2, k_okv2n, k_okv3, Option.toList_some, Option.toList_none, List.cons_append, List.nil_append, List.append_nil, List.map_cons, List.map_nil, List.sum_cons, List.sum_nil, Nat.add_zero, Nat.zero_add, Nat.reduceAdd, Nat.reduceMul, Nat.reduceSub, Nat.reduceDiv, Nat.reduceMod, Nat.reduceLT, Nat.reduceLeDiff, Nat.reduceEqDiff, Nat.reduceBEq, Nat.reduceBNe, Nat.one_ne_zero, Nat.zero_ne_one, Nat.succ_ne_self, Nat.le_refl, Nat.sub_self, Nat.sub_zero, Nat.zero_le, reduceCtorEq, eq_self, Bool.false_eq_true, pk_mul, nI_add, k_in, nI_clamp, nI_eq, nI_ltI, nI_leI, k_upd, k_eq0, k_lt0, k_0le, k_0lt, k_le0, k_mod, k_m3m4]
    refine ⟨fun c => ?_, fun c => ?_⟩
    · rw [if_neg c, if_pos rfl] at h; exact h
    · rw [if_pos c] at h; exact h
  · have b4 : S 4 l ≤ 255 := hS 4 _
    have hN : N (nI l) = l := nI_clamp (by omega)
    rw [if_neg (by rw [k_nm4 (by omega)]; exact id), hN] at h
    simp (disch := first | omega | simp (disch := omega) only [sA_ne, sA_self]) only [st_Ref_fate, rW_get hI, j_k, List.mem_cons, List.not_mem_nil, or_false, or_self, if_false, if_true, ↓reduceIte, List.getElem?_cons_zero, List.getElem?_cons_succ, List.set_cons_zero, List.set_cons_succ, List.length_cons, List.length_nil, g_ld_s, g_v_s, g_ob_s, g_ia_s, g_la_s, g_qa_s, g_al_s, t_i_s, t_a_r, t_a_n, t_a_q, t_l_s, true_and, and_true, and_self, true_or, or_true, Decidable.not_not, not_true_eq_false, not_false_eq_true, false_implies, true_implies, implies_true, j_ok1_s, j_isL, j_cat_i, j_cat_l, j_cat_r, j_cat_n, j_rf_cat, j_rf_some, j_rf_none, k_w8_0, k_w8_i, k_w8_r, k_w8_l, k_sum0, k_ints, k_nari, k_narz0, k_narz1, k_okv0, k_okv1, k_okv2, k_okv2n, k_okv3, Option.toList_some, Option.toList_none, List.cons_append, List.nil_append, List.append_nil, List.map_cons, List.map_nil, List.sum_cons, List.sum_nil, Nat.add_zero, Nat.zero_add, Nat.reduceAdd, Nat.reduceMul, Nat.reduceSub, Nat.reduceDiv, Nat.reduceMod, Nat.reduceLT, Nat.reduceLeDiff, Nat.reduceEqDiff, Nat.reduceBEq, Nat.reduceBNe, Nat.one_ne_zero, Nat.zero_ne_one, Nat.succ_ne_self, Nat.le_refl, Nat.sub_self, Nat.sub_zero, Nat.zero_le, reduceCtorEq, eq_self, Bool.false_eq_true, pk_mul, nI_add, k_in, nI_clamp, nI_eq, nI_ltI, nI_leI, k_upd, k_eq0, k_lt0, k_0le, k_0lt, k_le0, k_mod, k_nm4, k_nm3]
    refine ⟨fun c => ?_, fun c => ?_⟩
    · rw [if_neg c, if_neg (by rw [k_nm3 (by omega)]; exact id)] at h
      refine ⟨fun c1 => ?_, fun c1 => ⟨fun c2 => ?_, fun c2 => ?_⟩⟩
      · rw [if_neg (by omega)] at h; exact h
      · rw [if_neg (by omega)] at h; exact h
      · rw [if_pos ⟨by omega, by omega⟩] at h; exact h
    · rw [if_pos c] at h; exact h
/-- what is known of the pieces -/
def rPc (S : Nat → Nat → Nat) : Prop := S 0 0 ≤ 12 ∧ (∀ p, 1 ≤ p → p ≤ S 22 0 → 1 ≤ S 23 (6 * p) ∧ S 23 (6 * p) ≤ S 18 0 ∧ 1 ≤ S 23 (6 * p + 2) ∧ S 23 (6 * p + 1) + S 23 (6 * p + 2) ≤ S 19 (S 23 (6 * p)) ∧ S 23 (6 * p + 3) ≤ 12 ∧ S 23 (6 * p + 4) ≤ 7) ∧ (∀ p, S 22 0 < p → S 23 (6 * p + 5) = 0)
def rStep (S : Nat → Nat → Nat) (l n : Nat) : Nat := if S 4 l < n then S 4 l / 8 * 8 else n
def rMove (S : Nat → Nat → Nat) (b to st : Nat) : Nat → Nat → Nat := sA S 23 (va_up (va_up (va_up (S 23) (b + 3) (S 23 (b + 3) - 1)) (b + 4) to) (b + 2) st)
/-- the pieces behind the first one -/
def rSplt (S : Nat → Nat → Nat) (pk fi n st li to : Nat) : Nat → Nat → Nat → Nat
  | 0 => S
  | i + 1 => rAdd (rSplt S pk fi n st li to i) pk (fi + (i + 1) * st) (if n - (i + 1) * st < st then n - (i + 1) * st else st) li to
theorem rSplt_22 {S : Nat → Nat → Nat} {pk fi n st li to : Nat} : ∀ i, rSplt S pk fi n st li to i 22 0 = S 22 0 + i
  | 0 => rfl
  | i + 1 => by
    unfold rSplt rAdd
    rw [sA_ne _ _ (by decide), sA_self, rSplt_22 i]
    omega
theorem rSplt_lo {S : Nat → Nat → Nat} {pk fi n st li to j : Nat} (hj : j < 6 * (S 22 0 + 1)) : ∀ i, rSplt S pk fi n st li to i 23 j = S 23 j
  | 0 => rfl
  | i + 1 => by
    unfold rSplt rAdd
    rw [sA_self, rSplt_22 i, va_up_ne _ _ (by omega), va_up_ne _ _ (by omega), va_up_ne _ _ (by omega), va_up_ne _ _ (by omega), va_up_ne _ _ (by omega)]
    exact rSplt_lo hj i
theorem rSplt_keeps {S : Nat → Nat → Nat} {pk fi n st li to k : Nat} (h1 : k ≠ 22) (h2 : k ≠ 23) : ∀ i, rSplt S pk fi n st li to i k = S k
  | 0 => rfl
  | i + 1 => by
    unfold rSplt rAdd
    rw [sA_ne _ _ h2, sA_ne _ _ h1]
    exact rSplt_keeps h1 h2 i
noncomputable def rGo (S : Nat → Nat → Nat) (v : Int32) : Int32 × (Nat → Nat → Nat) :=
  if isMv S v then
    (if rFate S (6 * N v) (rRt S (S 23 (6 * N v + 4)) (S 20 (S 23 (6 * N v)))) = 0 then
      (if 80 < S 22 0 + (S 23 (6 * N v + 2) - 1) / rStep S (N (rRt S (S 23 (6 * N v + 4)) (S 20 (S 23 (6 * N v))))) (S 23 (6 * N v + 2)) then (-2, S)
        else (nI 0, rSplt (rMove S (6 * N v) (rOth S (S 23 (6 * N v + 4)) (N (rRt S (S 23 (6 * N v + 4)) (S 20 (S 23 (6 * N v)))))) (rStep S (N (rRt S (S 23 (6 * N v + 4)) (S 20 (S 23 (6 * N v))))) (S 23 (6 * N v + 2)))) (S 23 (6 * N v)) (S 23 (6 * N v + 1)) (S 23 (6 * N v + 2)) (rStep S (N (rRt S (S 23 (6 * N v + 4)) (S 20 (S 23 (6 * N v))))) (S 23 (6 * N v + 2))) (S 23 (6 * N v + 3) - 1) (rOth S (S 23 (6 * N v + 4)) (N (rRt S (S 23 (6 * N v + 4)) (S 20 (S 23 (6 * N v)))))) ((S 23 (6 * N v + 2) - 1) / rStep S (N (rRt S (S 23 (6 * N v + 4)) (S 20 (S 23 (6 * N v))))) (S 23 (6 * N v + 2)))))
    else (nI (rFate S (6 * N v) (rRt S (S 23 (6 * N v + 4)) (S 20 (S 23 (6 * N v))))), sA S 23 (va_up (S 23) (6 * N v + 5) (rFate S (6 * N v) (rRt S (S 23 (6 * N v + 4)) (S 20 (S 23 (6 * N v))))))))
  else (-1, S)
theorem k_dlt {n st i : Nat} (h1 : 1 ≤ n) (h2 : 0 < st) : (i + 1) * st < n ↔ i < (n - 1) / st := by
  rw [Nat.lt_iff_add_one_le (m := i), Nat.le_div_iff_mul_le h2]
  omega
set_option maxHeartbeats 4000000 in
set_option maxRecDepth 100000 in
theorem sp_Ref_go {S : Nat → Nat → Nat} {F : Nat → Int32} {ad : Nat → Nat → Nat} {v : Int32} {post : Option Value → jW → Prop} (hI : n_inj rAl ad) (hS : rLk S) (hP : rPc S) (h : ∀ F', post (some (.int (rGo S v).1)) (rW (rGo S v).2 F' ad)) : j_sem m_Ref_go [.ref (ad 0 0), .int v] (rW S F ad) 0 0 post := by
  refine j_sem_of (by decide +kernel) (Nat.le_of_ble_eq_true rfl) ?_
  show j_S _ _ 0 [some (.ref (ad 0 0)), some (.int v), none, none, none, none, none, none, none, none, none] [] _ 0 0
  have hO := hS.1
  have b22 : S 22 0 ≤ 80 := hO 22 0
  have b18 : S 18 0 ≤ 12 := hO 18 0
  have bL : S 1 0 ≤ 12 := hO 1 0
  unfold rGo at h
  refine j_runs [65] ok_Ref_go 200 ?_
  simp (disch := first | omega | simp (disch := omega) only [sA_ne, sA_self]) only [st_Ref_go, rW_get hI, j_k, List.mem_cons, List.not_mem_nil, or_false, or_self, if_false, if_true, ↓reduceIte, List.getElem?_cons_zero, List.getElem?_cons_succ, List.set_cons_zero, List.set_cons_succ, List.length_cons, List.length_nil, g_ld_s, g_v_s, g_ob_s, g_ia_s, g_la_s, g_qa_s, g_al_s, t_i_s, t_a_r, t_a_n, t_a_q, t_l_s, true_and, and_true, and_self, true_or, or_true, Decidable.not_not, not_true_eq_false, not_false_eq_true, false_implies, true_implies, implies_true, j_ok1_s, j_isL, j_cat_i, j_cat_l, j_cat_r, j_cat_n, j_rf_cat, j_rf_some, j_rf_none, k_w8_0, k_w8_i, k_w8_r, k_w8_l, k_sum0, k_ints, k_nari, k_narz0, k_narz1, k_okv0, k_okv1, k_okv2, k_okv2n, k_okv3, Option.toList_some, Option.toList_none, List.cons_append, List.nil_append, List.append_nil, List.map_cons, List.map_nil, List.sum_cons, List.sum_nil, Nat.add_zero, Nat.zero_add, Nat.reduceAdd, Nat.reduceMul, Nat.reduceSub, Nat.reduceDiv, Nat.reduceMod, Nat.reduceLT, Nat.reduceLeDiff, Nat.reduceEqDiff, Nat.reduceBEq, Nat.reduceBNe, Nat.one_ne_zero, Nat.zero_ne_one, Nat.succ_ne_self, Nat.le_refl, Nat.sub_self, Nat.sub_zero, Nat.zero_le, reduceCtorEq, eq_self, Bool.false_eq_true]
  refine g_call0 (sp_Ref_still hI hO (fun c => ?_) (fun c => ?_))
  · rw [if_pos c] at h
    obtain ⟨e1, i0, i1⟩ := inR_of c.1 (by decide) (by omega)
    generalize N v = p at *
    subst e1
    obtain ⟨p1, p2, p3, p4, p5, p6⟩ := hP.2.1 p i0 i1
    have bad : S 20 (S 23 (6 * p)) ≤ 255 := hO 20 _
    have b2 : S 23 (6 * p + 2) ≤ 500 := hO 23 _
    have b1 : S 23 (6 * p + 1) ≤ 500 := hO 23 _
    have b19 : S 19 (S 23 (6 * p)) ≤ 500 := hO 19 _
    simp (disch := first | omega | simp (disch := omega) only [sA_ne, sA_self]) only [st_Ref_go, rW_get hI, j_k, List.mem_cons, List.not_mem_nil, or_false, or_self, if_false, if_true, ↓reduceIte, List.getElem?_cons_zero, List.getElem?_cons_succ, List.set_cons_zero, List.set_cons_succ, List.length_cons, List.length_nil, g_ld_s, g_v_s, g_ob_s, g_ia_s, g_la_s, g_qa_s, g_al_s, t_i_s, t_a_r, t_a_n, t_a_q, t_l_s, true_and, and_true, and_self, true_or, or_true, Decidable.not_not, not_true_eq_false, not_false_eq_true, false_implies, true_implies, implies_true, j_ok1_s, j_isL, j_cat_i, j_cat_l, j_cat_r, j_cat_n, j_rf_cat, j_rf_some, j_rf_none, k_w8_0, k_w8_i, k_w8_r, k_w8_l, k_sum0, k_ints, k_nari, k_narz0, k_narz1, k_okv0, k_okv1, k_okv2, k_okv2n, k_okv3, Option.toList_some, Option.toList_none, List.cons_append, List.nil_append, List.append_nil, List.map_cons, List.map_nil, List.sum_cons, List.sum_nil, Nat.add_zero, Nat.zero_add, Nat.reduceAdd, Nat.reduceMul, Nat.reduceSub, Nat.reduceDiv, Nat.reduceMod, Nat.reduceLT, Nat.reduceLeDiff, Nat.reduceEqDiff, Nat.reduceBEq, Nat.reduceBNe, Nat.one_ne_zero, Nat.zero_ne_one, Nat.succ_ne_self, Nat.le_refl, Nat.sub_self, Nat.sub_zero, Nat.zero_le, reduceCtorEq, eq_self, Bool.false_eq_true, pk_mul, nI_add, k_in, nI_clamp, nI_eq, nI_ltI, nI_leI, k_upd, k_eq0, k_lt0, k_0le, k_0lt, k_le0, k_mod]
    refine g_call0 (sp_Ref_routeOf hI hS (by omega) bad (fun F1 => ?_))
    have hway := rRt_cases (S := S) (ro := S 23 (6 * p + 4)) (x := S 20 (S 23 (6 * p)))
    generalize hwg : rRt S (S 23 (6 * p + 4)) (S 20 (S 23 (6 * p))) = way at *
    simp (disch := first | omega | simp (disch := omega) only [sA_ne, sA_self]) only [st_Ref_go, rW_get hI, j_k, List.mem_cons, List.not_mem_nil, or_false, or_self, if_false, if_true, ↓reduceIte, List.getElem?_cons_zero, List.getElem?_cons_succ, List.set_cons_zero, List.set_cons_succ, List.length_cons, List.length_nil, g_ld_s, g_v_s, g_ob_s, g_ia_s, g_la_s, g_qa_s, g_al_s, t_i_s, t_a_r, t_a_n, t_a_q, t_l_s, true_and, and_true, and_self, true_or, or_true, Decidable.not_not, not_true_eq_false, not_false_eq_true, false_implies, true_implies, implies_true, j_ok1_s, j_isL, j_cat_i, j_cat_l, j_cat_r, j_cat_n, j_rf_cat, j_rf_some, j_rf_none, k_w8_0, k_w8_i, k_w8_r, k_w8_l, k_sum0, k_ints, k_nari, k_narz0, k_narz1, k_okv0, k_okv1, k_okv2, k_okv2n, k_okv3, Option.toList_some, Option.toList_none, List.cons_append, List.nil_append, List.append_nil, List.map_cons, List.map_nil, List.sum_cons, List.sum_nil, Nat.add_zero, Nat.zero_add, Nat.reduceAdd, Nat.reduceMul, Nat.reduceSub, Nat.reduceDiv, Nat.reduceMod, Nat.reduceLT, Nat.reduceLeDiff, Nat.reduceEqDiff, Nat.reduceBEq, Nat.reduceBNe, Nat.one_ne_zero, Nat.zero_ne_one, Nat.succ_ne_self, Nat.le_refl, Nat.sub_self, Nat.sub_zero, Nat.zero_le, reduceCtorEq, eq_self, Bool.false_eq_true, pk_mul, nI_add, k_in, nI_clamp, nI_eq, nI_ltI, nI_leI, k_upd, k_eq0, k_lt0, k_0le, k_0lt, k_le0, k_mod]
    refine g_call0 (sp_Ref_fate hI hO (by omega) (by omega) hway ?_)
    have hfl : rFate S (6 * p) way ≤ 4 := by
      unfold rFate
      split
      · decide
      · split
        · decide
        · split
          · decide
          · split <;> decide
    simp (disch := first | omega | simp (disch := omega) only [sA_ne, sA_self]) only [st_Ref_go, rW_get hI, rW_put hI, j_k, List.mem_cons, List.not_mem_nil, or_false, or_self, if_false, if_true, ↓reduceIte, List.getElem?_cons_zero, List.getElem?_cons_succ, List.set_cons_zero, List.set_cons_succ, List.length_cons, List.length_nil, g_ld_s, g_v_s, g_ob_s, g_ia_s, g_la_s, g_qa_s, g_al_s, t_i_s, t_a_r, t_a_n, t_a_q, t_l_s, true_and, and_true, and_self, true_or, or_true, Decidable.not_not, not_true_eq_false, not_false_eq_true, false_implies, true_implies, implies_true, j_ok1_s, j_isL, j_cat_i, j_cat_l, j_cat_r, j_cat_n, j_rf_cat, j_rf_some, j_rf_none, k_w8_0, k_w8_i, k_w8_r, k_w8_l, k_sum0, k_ints, k_nari, k_narz0, k_narz1, k_okv0, k_okv1, k_okv2, k_okv2n, k_okv3, Option.toList_some, Option.toList_none, List.cons_append, List.nil_append, List.append_nil, List.map_cons, List.map_nil, List.sum_cons, List.sum_nil, Nat.add_zero, Nat.zero_add, Nat.reduceAdd, Nat.reduceMul, Nat.reduceSub, Nat.reduceDiv, Nat.reduceMod, Nat.reduceLT, Nat.reduceLeDiff, Nat.reduceEqDiff, Nat.reduceBEq, Nat.reduceBNe, Nat.one_ne_zero, Nat.zero_ne_one, Nat.succ_ne_self, Nat.le_refl, Nat.sub_self, Nat.sub_zero, Nat.zero_le, reduceCtorEq, eq_self, Bool.false_eq_true, pk_mul, nI_add, k_in, nI_clamp, nI_eq, nI_ltI, nI_leI, k_upd, k_eq0, k_lt0, k_0le, k_0lt, k_le0, k_mod]
    refine ⟨fun c0 => ?_, fun c0 => ?_⟩
    · rw [if_pos c0] at h
      have hl : ∃ l, l < S 1 0 ∧ way = nI l := by
        rcases hway with rfl | rfl | q
        · unfold rFate at c0
          rw [if_pos rfl] at c0
          cases c0
        · unfold rFate at c0
          rw [if_neg (by decide)] at c0
          split at c0
          · cases c0
          · rw [if_pos rfl] at c0
            cases c0
        · exact q
      obtain ⟨l, hl, rfl⟩ := hl
      have hN : N (nI l) = l := nI_clamp (by omega)
      have hlife : ¬ S 23 (6 * p + 3) = 0 := by
        intro q
        unfold rFate at c0
        rw [if_neg (by rw [k_nm4 (by omega)]; exact id), if_pos q] at c0
        cases c0
      rw [hN] at h
      have b4 : S 4 l ≤ 255 := hO 4 _
      have w8 : 8 ≤ S 4 l := (hS.2.1 l hl).2.1
      have be : S 2 (2 * l) ≤ 7 := hO 2 _
      have be' : S 2 (2 * l + 1) ≤ 7 := hO 2 _
      have hst : 0 < rStep S l (S 23 (6 * p + 2)) ∧ rStep S l (S 23 (6 * p + 2)) ≤ S 23 (6 * p + 2) := by
        unfold rStep
        split <;> omega
      obtain ⟨st0, st1⟩ := hst
      generalize hsg : rStep S l (S 23 (6 * p + 2)) = st at *
      have hq0 : (S 23 (6 * p + 2) - 1) / st ≤ 500 := Nat.le_trans (Nat.div_le_self _ _) (by omega)
      -- the loop
      have loop : ∀ to, to ≤ 7 → to = rOth S (S 23 (6 * p + 4)) l → S 22 0 + (S 23 (6 * p + 2) - 1) / st ≤ 80 → ∀ d i X Y, i + d = (S 23 (6 * p + 2) - 1) / st → j_S m_Ref_go post 206 [some (.ref (ad 0 0)), some (.int (nI p)), some (.int (nI (6 * p))), some (.int (nI l)), some (.int (nI 0)), some (.int (nI (S 23 (6 * p + 2)))), some (.int (nI st)), some (.int (nI to)), X, some (.int (nI ((i + 1) * st))), Y] [] (rW (rSplt (rMove S (6 * p) to st) (S 23 (6 * p)) (S 23 (6 * p + 1)) (S 23 (6 * p + 2)) st (S 23 (6 * p + 3) - 1) to i) F1 ad) 0 0 := by
        intro to bto eto h80 d
        induction d with
        | zero =>
          intro i X Y ei
          have hge : ¬ (i + 1) * st < S 23 (6 * p + 2) := by
            rw [k_dlt p3 st0]; omega
          have hbd : (i + 1) * st ≤ 1000 := by
            have h3 : i * st ≤ S 23 (6 * p + 2) - 1 := by
              rw [show i = (S 23 (6 * p + 2) - 1) / st by omega]
              exact Nat.div_mul_le_self _ _
            rw [Nat.add_mul]
            omega
          rw [if_neg (by omega)] at h
          have h := h F1
          rw [← eto, ← (show i = (S 23 (6 * p + 2) - 1) / st by omega)] at h
          refine j_runs [] ok_Ref_go 20 ?_
          simp (disch := first | omega | simp (disch := omega) only [sA_ne, sA_self]) only [st_Ref_go, rW_get hI, j_k, List.mem_cons, List.not_mem_nil, or_false, or_self, if_false, if_true, ↓reduceIte, List.getElem?_cons_zero, List.getElem?_cons_succ, List.set_cons_zero, List.set_cons_succ, List.length_cons, List.length_nil, g_ld_s, g_v_s, g_ob_s, g_ia_s, g_la_s, g_qa_s, g_al_s, t_i_s, t_a_r, t_a_n, t_a_q, t_l_s, true_and, and_true, and_self, true_or, or_true, Decidable.not_not, not_true_eq_false, not_false_eq_true, false_implies, true_implies, implies_true, j_ok1_s, j_isL, j_cat_i, j_cat_l, j_cat_r, j_cat_n, j_rf_cat, j_rf_some, j_rf_none, k_w8_0, k_w8_i, k_w8_r, k_w8_l, k_sum0, k_ints, k_nari, k_narz0, k_narz1, k_okv0, k_okv1, k_okv2, k_okv2n, k_okv3, Option.toList_some, Option.toList_none, List.cons_append, List.nil_append, List.append_nil, List.map_cons, List.map_nil, List.sum_cons, List.sum_nil, Nat.add_zero, Nat.zero_add, Nat.reduceAdd, Nat.reduceMul, Nat.reduceSub, Nat.reduceDiv, Nat.reduceMod, Nat.reduceLT, Nat.reduceLeDiff, Nat.reduceEqDiff, Nat.reduceBEq, Nat.reduceBNe, Nat.one_ne_zero, Nat.zero_ne_one, Nat.succ_ne_self, Nat.le_refl, Nat.sub_self, Nat.sub_zero, Nat.zero_le, reduceCtorEq, eq_self, Bool.false_eq_true, pk_mul, nI_add, k_in, nI_clamp, nI_eq, nI_ltI, nI_leI, k_upd, k_eq0, k_lt0, k_0le, k_0lt, k_le0, k_mod]
          exact ⟨fun _ => h, fun c => absurd (by omega) c⟩
        | succ d ih =>
          intro i X Y ei
          have hlt : (i + 1) * st < S 23 (6 * p + 2) := by
            rw [k_dlt p3 st0]; omega
          have e22 : rSplt (rMove S (6 * p) to st) (S 23 (6 * p)) (S 23 (6 * p + 1)) (S 23 (6 * p + 2)) st (S 23 (6 * p + 3) - 1) to i 22 0 = S 22 0 + i := rSplt_22 i
          have elo : ∀ j, j < 6 * (S 22 0 + 1) → rSplt (rMove S (6 * p) to st) (S 23 (6 * p)) (S 23 (6 * p + 1)) (S 23 (6 * p + 2)) st (S 23 (6 * p + 3) - 1) to i 23 j = rMove S (6 * p) to st 23 j := fun j hj => rSplt_lo (S := rMove S (6 * p) to st) hj i
          have ea : rSplt (rMove S (6 * p) to st) (S 23 (6 * p)) (S 23 (6 * p + 1)) (S 23 (6 * p + 2)) st (S 23 (6 * p + 3) - 1) to i 23 (6 * p) = S 23 (6 * p) := by
            rw [elo _ (by omega)]
            unfold rMove
            rw [sA_self, va_up_ne _ _ (by omega), va_up_ne _ _ (by omega), va_up_ne _ _ (by omega)]
          have eb : rSplt (rMove S (6 * p) to st) (S 23 (6 * p)) (S 23 (6 * p + 1)) (S 23 (6 * p + 2)) st (S 23 (6 * p + 3) - 1) to i 23 (6 * p + 1) = S 23 (6 * p + 1) := by
            rw [elo _ (by omega)]
            unfold rMove
            rw [sA_self, va_up_ne _ _ (by omega), va_up_ne _ _ (by omega), va_up_ne _ _ (by omega)]
          have ed : rSplt (rMove S (6 * p) to st) (S 23 (6 * p)) (S 23 (6 * p + 1)) (S 23 (6 * p + 2)) st (S 23 (6 * p + 3) - 1) to i 23 (6 * p + 3) = S 23 (6 * p + 3) - 1 := by
            rw [elo _ (by omega)]
            unfold rMove
            rw [sA_self, va_up_ne _ _ (by omega), va_up_ne _ _ (by omega), va_up_self]
          have next := ih (i + 1) (some (.int (nI (S 22 0 + i + 1)))) (some (.int (nI (if S 23 (6 * p + 2) - (i + 1) * st < st then S 23 (6 * p + 2) - (i + 1) * st else st)))) (by omega)
          have etl : (i + 1) * st + st = (i + 1 + 1) * st := by rw [Nat.add_mul (i + 1) 1 st, Nat.one_mul]
          unfold rSplt at next
          generalize hTg : rSplt (rMove S (6 * p) to st) (S 23 (6 * p)) (S 23 (6 * p + 1)) (S 23 (6 * p + 2)) st (S 23 (6 * p + 3) - 1) to i = T at *
          have at235 : ∀ n, n = (if S 23 (6 * p + 2) - (i + 1) * st < st then S 23 (6 * p + 2) - (i + 1) * st else st) → j_S m_Ref_go post 235 [some (.ref (ad 0 0)), some (.int (nI p)), some (.int (nI (6 * p))), some (.int (nI l)), some (.int (nI 0)), some (.int (nI (S 23 (6 * p + 2)))), some (.int (nI st)), some (.int (nI to)), X, some (.int (nI ((i + 1) * st))), some (.int (nI n))] [] (rW T F1 ad) 0 0 := by
            intro n en
            rw [← en] at next
            refine j_runs [206] ok_Ref_go 60 ?_
            simp (disch := first | omega | simp (disch := omega) only [sA_ne, sA_self]) only [st_Ref_go, rW_get hI, j_k, List.mem_cons, List.not_mem_nil, or_false, or_self, if_false, if_true, ↓reduceIte, List.getElem?_cons_zero, List.getElem?_cons_succ, List.set_cons_zero, List.set_cons_succ, List.length_cons, List.length_nil, g_ld_s, g_v_s, g_ob_s, g_ia_s, g_la_s, g_qa_s, g_al_s, t_i_s, t_a_r, t_a_n, t_a_q, t_l_s, true_and, and_true, and_self, true_or, or_true, Decidable.not_not, not_true_eq_false, not_false_eq_true, false_implies, true_implies, implies_true, j_ok1_s, j_isL, j_cat_i, j_cat_l, j_cat_r, j_cat_n, j_rf_cat, j_rf_some, j_rf_none, k_w8_0, k_w8_i, k_w8_r, k_w8_l, k_sum0, k_ints, k_nari, k_narz0, k_narz1, k_okv0, k_okv1, k_okv2, k_okv2n, k_okv3, Option.toList_some, Option.toList_none, List.cons_append, List.nil_append, List.append_nil, List.map_cons, List.map_nil, List.sum_cons, List.sum_nil, Nat.add_zero, Nat.zero_add, Nat.reduceAdd, Nat.reduceMul, Nat.reduceSub, Nat.reduceDiv, Nat.reduceMod, Nat.reduceLT, Nat.reduceLeDiff, Nat.reduceEqDiff, Nat.reduceBEq, Nat.reduceBNe, Nat.one_ne_zero, Nat.zero_ne_one, Nat.succ_ne_self, Nat.le_refl, Nat.sub_self, Nat.sub_zero, Nat.zero_le, reduceCtorEq, eq_self, Bool.false_eq_true, pk_mul, nI_add, k_in, nI_clamp, nI_eq, nI_ltI, nI_leI, k_upd, k_eq0, k_lt0, k_0le, k_0lt, k_le0, k_mod, ea, eb, ed]
            refine g_call0 (sp_Ref_addPiece hI (by omega) ?_)
            simp (disch := first | omega | simp (disch := omega) only [sA_ne, sA_self]) only [st_Ref_go, rW_get hI, j_k, List.mem_cons, List.not_mem_nil, or_false, or_self, if_false, if_true, ↓reduceIte, List.getElem?_cons_zero, List.getElem?_cons_succ, List.set_cons_zero, List.set_cons_succ, List.length_cons, List.length_nil, g_ld_s, g_v_s, g_ob_s, g_ia_s, g_la_s, g_qa_s, g_al_s, t_i_s, t_a_r, t_a_n, t_a_q, t_l_s, true_and, and_true, and_self, true_or, or_true, Decidable.not_not, not_true_eq_false, not_false_eq_true, false_implies, true_implies, implies_true, j_ok1_s, j_isL, j_cat_i, j_cat_l, j_cat_r, j_cat_n, j_rf_cat, j_rf_some, j_rf_none, k_w8_0, k_w8_i, k_w8_r, k_w8_l, k_sum0, k_ints, k_nari, k_narz0, k_narz1, k_okv0, k_okv1, k_okv2, k_okv2n, k_okv3, Option.toList_some, Option.toList_none, List.cons_append, List.nil_append, List.append_nil, List.map_cons, List.map_nil, List.sum_cons, List.sum_nil, Nat.add_zero, Nat.zero_add, Nat.reduceAdd, Nat.reduceMul, Nat.reduceSub, Nat.reduceDiv, Nat.reduceMod, Nat.reduceLT, Nat.reduceLeDiff, Nat.reduceEqDiff, Nat.reduceBEq, Nat.reduceBNe, Nat.one_ne_zero, Nat.zero_ne_one, Nat.succ_ne_self, Nat.le_refl, Nat.sub_self, Nat.sub_zero, Nat.zero_le, reduceCtorEq, eq_self, Bool.false_eq_true, pk_mul, nI_add, k_in, nI_clamp, nI_eq, nI_ltI, nI_leI, k_upd, k_eq0, k_lt0, k_0le, k_0lt, k_le0, k_mod, etl, e22]
            exact next
          refine j_runs [235] ok_Ref_go 60 ?_
          simp (disch := first | omega | simp (disch := omega) only [sA_ne, sA_self]) only [st_Ref_go, rW_get hI, j_k, List.mem_cons, List.not_mem_nil, or_false, or_self, if_false, if_true, ↓reduceIte, List.getElem?_cons_zero, List.getElem?_cons_succ, List.set_cons_zero, List.set_cons_succ, List.length_cons, List.length_nil, g_ld_s, g_v_s, g_ob_s, g_ia_s, g_la_s, g_qa_s, g_al_s, t_i_s, t_a_r, t_a_n, t_a_q, t_l_s, true_and, and_true, and_self, true_or, or_true, Decidable.not_not, not_true_eq_false, not_false_eq_true, false_implies, true_implies, implies_true, j_ok1_s, j_isL, j_cat_i, j_cat_l, j_cat_r, j_cat_n, j_rf_cat, j_rf_some, j_rf_none, k_w8_0, k_w8_i, k_w8_r, k_w8_l, k_sum0, k_ints, k_nari, k_narz0, k_narz1, k_okv0, k_okv1, k_okv2, k_okv2n, k_okv3, Option.toList_some, Option.toList_none, List.cons_append, List.nil_append, List.append_nil, List.map_cons, List.map_nil, List.sum_cons, List.sum_nil, Nat.add_zero, Nat.zero_add, Nat.reduceAdd, Nat.reduceMul, Nat.reduceSub, Nat.reduceDiv, Nat.reduceMod, Nat.reduceLT, Nat.reduceLeDiff, Nat.reduceEqDiff, Nat.reduceBEq, Nat.reduceBNe, Nat.one_ne_zero, Nat.zero_ne_one, Nat.succ_ne_self, Nat.le_refl, Nat.sub_self, Nat.sub_zero, Nat.zero_le, reduceCtorEq, eq_self, Bool.false_eq_true, pk_mul, nI_add, k_in, nI_clamp, nI_eq, nI_ltI, nI_leI, k_upd, k_eq0, k_lt0, k_0le, k_0lt, k_le0, k_mod, pk_sub]
          refine ⟨fun cq => absurd cq (by omega), fun _ => ⟨fun cq => ?_, fun cq => ?_⟩⟩
          · exact at235 _ (by rw [if_neg (by omega)])
          · exact at235 _ (by rw [if_pos (by omega)])
      have at105 : ∀ X Y Z W, j_S m_Ref_go post 105 [some (.ref (ad 0 0)), some (.int (nI p)), some (.int (nI (6 * p))), some (.int (nI l)), some (.int (nI 0)), some (.int (nI (S 23 (6 * p + 2)))), some (.int (nI st)), X, Y, Z, W] [] (rW S F1 ad) 0 0 := by
        intro X Y Z W
        have at167 : ∀ to, to ≤ 7 → to = rOth S (S 23 (6 * p + 4)) l → S 22 0 + (S 23 (6 * p + 2) - 1) / st ≤ 80 → j_S m_Ref_go post 167 [some (.ref (ad 0 0)), some (.int (nI p)), some (.int (nI (6 * p))), some (.int (nI l)), some (.int (nI 0)), some (.int (nI (S 23 (6 * p + 2)))), some (.int (nI st)), some (.int (nI to)), Y, Z, W] [] (rW S F1 ad) 0 0 := by
          intro to bto eto h80
          have := loop to bto eto h80 ((S 23 (6 * p + 2) - 1) / st) 0 (some (.int (nI 0))) W (by omega)
          rw [Nat.zero_add, Nat.one_mul] at this
          refine j_runs [206] ok_Ref_go 60 ?_
          simp (disch := first | omega | simp (disch := omega) only [sA_ne, sA_self]) only [st_Ref_go, rW_get hI, rW_put hI, j_k, List.mem_cons, List.not_mem_nil, or_false, or_self, if_false, if_true, ↓reduceIte, List.getElem?_cons_zero, List.getElem?_cons_succ, List.set_cons_zero, List.set_cons_succ, List.length_cons, List.length_nil, g_ld_s, g_v_s, g_ob_s, g_ia_s, g_la_s, g_qa_s, g_al_s, t_i_s, t_a_r, t_a_n, t_a_q, t_l_s, true_and, and_true, and_self, true_or, or_true, Decidable.not_not, not_true_eq_false, not_false_eq_true, false_implies, true_implies, implies_true, j_ok1_s, j_isL, j_cat_i, j_cat_l, j_cat_r, j_cat_n, j_rf_cat, j_rf_some, j_rf_none, k_w8_0, k_w8_i, k_w8_r, k_w8_l, k_sum0, k_ints, k_nari, k_narz0, k_narz1, k_okv0, k_okv1, k_okv2, k_okv2n, k_okv3, Option.toList_some, Option.toList_none, List.cons_append, List.nil_append, List.append_nil, List.map_cons, List.map_nil, List.sum_cons, List.sum_nil, Nat.add_zero, Nat.zero_add, Nat.reduceAdd, Nat.reduceMul, Nat.reduceSub, Nat.reduceDiv, Nat.reduceMod, Nat.reduceLT, Nat.reduceLeDiff, Nat.reduceEqDiff, Nat.reduceBEq, Nat.reduceBNe, Nat.one_ne_zero, Nat.zero_ne_one, Nat.succ_ne_self, Nat.le_refl, Nat.sub_self, Nat.sub_zero, Nat.zero_le, reduceCtorEq, eq_self, Bool.false_eq_true, pk_mul, nI_add, k_in, nI_clamp, nI_eq, nI_ltI, nI_leI, k_upd, k_eq0, k_lt0, k_0le, k_0lt, k_le0, k_mod, sA_ne, sA_self, sA_sA, pk_sub]
          exact this
        refine j_runs [167] ok_Ref_go 60 ?_
        simp (disch := first | omega | simp (disch := omega) only [sA_ne, sA_self]) only [st_Ref_go, rW_get hI, j_k, List.mem_cons, List.not_mem_nil, or_false, or_self, if_false, if_true, ↓reduceIte, List.getElem?_cons_zero, List.getElem?_cons_succ, List.set_cons_zero, List.set_cons_succ, List.length_cons, List.length_nil, g_ld_s, g_v_s, g_ob_s, g_ia_s, g_la_s, g_qa_s, g_al_s, t_i_s, t_a_r, t_a_n, t_a_q, t_l_s, true_and, and_true, and_self, true_or, or_true, Decidable.not_not, not_true_eq_false, not_false_eq_true, false_implies, true_implies, implies_true, j_ok1_s, j_isL, j_cat_i, j_cat_l, j_cat_r, j_cat_n, j_rf_cat, j_rf_some, j_rf_none, k_w8_0, k_w8_i, k_w8_r, k_w8_l, k_sum0, k_ints, k_nari, k_narz0, k_narz1, k_okv0, k_okv1, k_okv2, k_okv2n, k_okv3, Option.toList_some, Option.toList_none, List.cons_append, List.nil_append, List.append_nil, List.map_cons, List.map_nil, List.sum_cons, List.sum_nil, Nat.add_zero, Nat.zero_add, Nat.reduceAdd, Nat.reduceMul, Nat.reduceSub, Nat.reduceDiv, Nat.reduceMod, Nat.reduceLT, Nat.reduceLeDiff, Nat.reduceEqDiff, Nat.reduceBEq, Nat.reduceBNe, Nat.one_ne_zero, Nat.zero_ne_one, Nat.succ_ne_self, Nat.le_refl, Nat.sub_self, Nat.sub_zero, Nat.zero_le, reduceCtorEq, eq_self, Bool.false_eq_true, pk_mul, nI_add, k_in, nI_clamp, nI_eq, nI_ltI, nI_leI, k_upd, k_eq0, k_lt0, k_0le, k_0lt, k_le0, k_mod, pk_sub, k_div]
        refine ⟨by omega, fun c80 => ⟨fun ce => ?_, fun ce => ?_⟩, fun c80 => ?_⟩
        · refine at167 _ (by omega) ?_ (by omega)
          unfold rOth
          rw [if_neg ce]
        · refine at167 _ (by omega) ?_ (by omega)
          unfold rOth
          rw [if_pos ce]
        · rw [if_pos (by omega)] at h
          exact h F1
      rw [c0]
      refine j_runs [105] ok_Ref_go 60 ?_
      simp (disch := first | omega | simp (disch := omega) only [sA_ne, sA_self]) only [st_Ref_go, rW_get hI, j_k, List.mem_cons, List.not_mem_nil, or_false, or_self, if_false, if_true, ↓reduceIte, List.getElem?_cons_zero, List.getElem?_cons_succ, List.set_cons_zero, List.set_cons_succ, List.length_cons, List.length_nil, g_ld_s, g_v_s, g_ob_s, g_ia_s, g_la_s, g_qa_s, g_al_s, t_i_s, t_a_r, t_a_n, t_a_q, t_l_s, true_and, and_true, and_self, true_or, or_true, Decidable.not_not, not_true_eq_false, not_false_eq_true, false_implies, true_implies, implies_true, j_ok1_s, j_isL, j_cat_i, j_cat_l, j_cat_r, j_cat_n, j_rf_cat, j_rf_some, j_rf_none, k_w8_0, k_w8_i, k_w8_r, k_w8_l, k_sum0, k_ints, k_nari, k_narz0, k_narz1, k_okv0, k_okv1, k_okv2, k_okv2n, k_okv3, Option.toList_some, Option.toList_none, List.cons_append, List.nil_append, List.append_nil, List.map_cons, List.map_nil, List.sum_cons, List.sum_nil, Nat.add_zero, Nat.zero_add, Nat.reduceAdd, Nat.reduceMul, Nat.reduceSub, Nat.reduceDiv, Nat.reduceMod, Nat.reduceLT, Nat.reduceLeDiff, Nat.reduceEqDiff, Nat.reduceBEq, Nat.reduceBNe, Nat.one_ne_zero, Nat.zero_ne_one, Nat.succ_ne_self, Nat.le_refl, Nat.sub_self, Nat.sub_zero, Nat.zero_le, reduceCtorEq, eq_self, Bool.false_eq_true, pk_mul, nI_add, k_in, nI_clamp, nI_eq, nI_ltI, nI_leI, k_upd, k_eq0, k_lt0, k_0le, k_0lt, k_le0, k_mod, k_div]
      unfold rStep at hsg
      refine ⟨fun cw => ?_, fun cw => ?_⟩
      · rw [if_neg (by omega)] at hsg
        subst hsg
        exact at105 _ _ _ _
      · rw [if_pos (by omega)] at hsg
        subst hsg
        exact at105 _ _ _ _
    · rw [if_neg c0] at h
      exact h F1
  · rw [if_neg c] at h
    simp (disch := first | omega | simp (disch := omega) only [sA_ne, sA_self]) only [st_Ref_go, rW_get hI, j_k, List.mem_cons, List.not_mem_nil, or_false, or_self, if_false, if_true, ↓reduceIte, List.getElem?_cons_zero, List.getElem?_cons_succ, List.set_cons_zero, List.set_cons_succ, List.length_cons, List.length_nil, g_ld_s, g_v_s, g_ob_s, g_ia_s, g_la_s, g_qa_s, g_al_s, t_i_s, t_a_r, t_a_n, t_a_q, t_l_s, true_and, and_true, and_self, true_or, or_true, Decidable.not_not, not_true_eq_false, not_false_eq_true, false_implies, true_implies, implies_true, j_ok1_s, j_isL, j_cat_i, j_cat_l, j_cat_r, j_cat_n, j_rf_cat, j_rf_some, j_rf_none, k_w8_0, k_w8_i, k_w8_r, k_w8_l, k_sum0, k_ints, k_nari, k_narz0, k_narz1, k_okv0, k_okv1, k_okv2, k_okv2n, k_okv3, Option.toList_some, Option.toList_none, List.cons_append, List.nil_append, List.append_nil, List.map_cons, List.map_nil, List.sum_cons, List.sum_nil, Nat.add_zero, Nat.zero_add, Nat.reduceAdd, Nat.reduceMul, Nat.reduceSub, Nat.reduceDiv, Nat.reduceMod, Nat.reduceLT, Nat.reduceLeDiff, Nat.reduceEqDiff, Nat.reduceBEq, Nat.reduceBNe, Nat.one_ne_zero, Nat.zero_ne_one, Nat.succ_ne_self, Nat.le_refl, Nat.sub_self, Nat.sub_zero, Nat.zero_le, reduceCtorEq, eq_self, Bool.false_eq_true, pk_mul, nI_add, k_in, nI_clamp, nI_eq, nI_ltI, nI_leI, k_upd, k_eq0, k_lt0, k_0le, k_0lt, k_le0, k_mod]
    exact h F
