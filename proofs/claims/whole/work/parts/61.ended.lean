/-! THE CLASS: markEnded, ended, arrived -/
abbrev bt (f : Nat → Int64) (r i : Nat) : Bool := (f (8 * r + i / 64)).toBitVec.getLsbD (i % 64)
theorem bt_set {f : Nat → Int64} {r i r' i' : Nat} (hr : r < 8) (hr' : r' < 8) (hi : i < 512) (hi' : i' < 512) : bt (vp_updL f (8 * r + i / 64) (f (8 * r + i / 64) ||| (Int64.ofNat 1 <<< ((nI (i % 64)).toInt64 &&& 63)))) r' i' = true ↔ bt f r' i' = true ∨ (r' = r ∧ i' = i) := by
  have hk : i % 64 < 64 := Nat.mod_lt _ (by decide)
  have e : Int64.ofNat 1 <<< ((nI (i % 64)).toInt64 &&& 63) = lN (1 * 2 ^ (i % 64)) := wb_shl 1 hk
  have hb : (lN (1 * 2 ^ (i % 64))).toBitVec.getLsbD (i' % 64) = decide (i % 64 = i' % 64) := by
    rw [wb_tb, Nat.one_mul, BitVec.getLsbD_ofNat, Nat.testBit_two_pow, decide_eq_true (show i' % 64 < 64 by omega), Bool.true_and]
  show (vp_updL f (8 * r + i / 64) _ (8 * r' + i' / 64)).toBitVec.getLsbD (i' % 64) = true ↔ _
  by_cases hw : 8 * r' + i' / 64 = 8 * r + i / 64
  · have hrr : r' = r ∧ i' / 64 = i / 64 := by omega
    rw [hw, pk_uLs, e, Int64.toBitVec_or, BitVec.getLsbD_or, hb, Bool.or_eq_true, decide_eq_true_iff]
    show _ ↔ (f (8 * r' + i' / 64)).toBitVec.getLsbD (i' % 64) = true ∨ _
    rw [hw]
    constructor
    · rintro (h | h)
      · exact Or.inl h
      · exact Or.inr ⟨hrr.1, by omega⟩
    · rintro (h | ⟨h1, h2⟩)
      · exact Or.inl h
      · exact Or.inr (by rw [h2])
  · rw [pk_uLn hw]
    constructor
    · exact fun h => Or.inl h
    · rintro (h | ⟨h1, h2⟩)
      · exact h
      · exfalso
        apply hw
        rw [h1, h2]
set_option maxHeartbeats 4000000 in
set_option maxRecDepth 100000 in
theorem sp_Packet_markEnded {w : jW} {p b r st n : Nat} {f : Nat → Int64} {x0 x1 : Value} {post : Option Value → jW → Prop} (hp : w p = some (.inr (6, [x0, x1, .ref b]))) (hb : w b = some (.inl (2, 64, .inr (.inl f)))) (hr : r < 8) (hn : st + n ≤ 500) (h : ∀ g, (∀ r' i', r' < 8 → i' < 512 → (bt g r' i' = true ↔ bt f r' i' = true ∨ (r' = r ∧ st ≤ i' ∧ i' < st + n))) → post none (j_up w b (.inl (2, 64, .inr (.inl g))))) : j_sem m_Packet_markEnded [.ref p, .int (nI r), .int (nI st), .int (nI n)] w 0 0 post := by
  refine j_sem_of (by decide +kernel) (Nat.le_of_ble_eq_true rfl) ?_
  show j_S _ _ 0 [some (.ref p), some (.int (nI r)), some (.int (nI st)), some (.int (nI n)), none] [] _ 0 0
  have npb : p ≠ b := by rintro rfl; rw [hp] at hb; cases hb
  have n64 : ¬ nI 64 = 0 := by decide
  have head : ∀ d k g, k + d = n → (∀ r' i', r' < 8 → i' < 512 → (bt g r' i' = true ↔ bt f r' i' = true ∨ (r' = r ∧ st ≤ i' ∧ i' < st + k))) → j_S m_Packet_markEnded post 3 [some (.ref p), some (.int (nI r)), some (.int (nI st)), some (.int (nI n)), some (.int (nI (st + k)))] [] (j_up w b (.inl (2, 64, .inr (.inl g)))) 0 0 := by
    intro d
    induction d with
    | zero =>
      intro k g e hg
      have ek : k = n := by omega
      subst ek
      refine j_runs [] ok_Packet_markEnded 12 ?_
      simp (disch := first | omega | simp (disch := omega) only [sA_ne, sA_self]) only [st_Packet_markEnded, j_k, List.mem_cons, List.not_mem_nil, or_false, or_self, if_false, if_true, ↓reduceIte, List.getElem?_cons_zero, List.getElem?_cons_succ, List.set_cons_zero, List.set_cons_succ, List.length_cons, List.length_nil, g_ld_s, g_v_s, g_ob_s, g_ia_s, g_la_s, g_qa_s, g_al_s, t_i_s, t_a_r, t_a_n, t_a_q, t_l_s, true_and, and_true, and_self, true_or, or_true, Decidable.not_not, not_true_eq_false, not_false_eq_true, false_implies, true_implies, implies_true, j_ok1_s, j_isL, j_cat_i, j_cat_l, j_cat_r, j_cat_n, j_rf_cat, j_rf_some, j_rf_none, k_w8_0, k_w8_i, k_w8_r, k_w8_l, k_sum0, k_ints, k_nari, k_narz0, k_narz1, k_okv0, k_okv1, k_okv2, k_okv2n, k_okv3, Option.toList_some, Option.toList_none, List.cons_append, List.nil_append, List.append_nil, List.map_cons, List.map_nil, List.sum_cons, List.sum_nil, Nat.add_zero, Nat.zero_add, Nat.reduceAdd, Nat.reduceMul, Nat.reduceSub, Nat.reduceDiv, Nat.reduceMod, Nat.reduceLT, Nat.reduceLeDiff, Nat.reduceEqDiff, Nat.reduceBEq, Nat.reduceBNe, Nat.one_ne_zero, Nat.zero_ne_one, Nat.succ_ne_self, Nat.le_refl, Nat.sub_self, Nat.sub_zero, Nat.zero_le, reduceCtorEq, eq_self, Bool.false_eq_true, pk_mul, nI_add, k_in, nI_clamp, nI_eq, nI_ltI, nI_leI, k_upd, k_eq0, k_lt0, k_0le, k_0lt, k_le0, k_mod]
      exact h g hg
    | succ d ih =>
      intro k g e hg
      have hm : nI (st + k) - nI (st + k) / nI 64 * nI 64 = nI ((st + k) % 64) := by
        have : (st + k) / 64 * 64 ≤ st + k := Nat.div_mul_le_self _ _
        rw [k_div (by omega) (by decide) (by decide), pk_mul, pk_sub this, k_mod]
      refine j_runs [3] ok_Packet_markEnded 30 ?_
      simp (disch := first | omega | simp (disch := omega) only [sA_ne, sA_self]) only [st_Packet_markEnded, j_up_ne _ _ npb, hp, j_k, List.mem_cons, List.not_mem_nil, or_false, or_self, if_false, if_true, ↓reduceIte, List.getElem?_cons_zero, List.getElem?_cons_succ, List.set_cons_zero, List.set_cons_succ, List.length_cons, List.length_nil, g_ld_s, g_v_s, g_ob_s, g_ia_s, g_la_s, g_qa_s, g_al_s, t_i_s, t_a_r, t_a_n, t_a_q, t_l_s, true_and, and_true, and_self, true_or, or_true, Decidable.not_not, not_true_eq_false, not_false_eq_true, false_implies, true_implies, implies_true, j_ok1_s, j_isL, j_cat_i, j_cat_l, j_cat_r, j_cat_n, j_rf_cat, j_rf_some, j_rf_none, k_w8_0, k_w8_i, k_w8_r, k_w8_l, k_sum0, k_ints, k_nari, k_narz0, k_narz1, k_okv0, k_okv1, k_okv2, k_okv2n, k_okv3, Option.toList_some, Option.toList_none, List.cons_append, List.nil_append, List.append_nil, List.map_cons, List.map_nil, List.sum_cons, List.sum_nil, Nat.add_zero, Nat.zero_add, Nat.reduceAdd, Nat.reduceMul, Nat.reduceSub, Nat.reduceDiv, Nat.reduceMod, Nat.reduceLT, Nat.reduceLeDiff, Nat.reduceEqDiff, Nat.reduceBEq, Nat.reduceBNe, Nat.one_ne_zero, Nat.zero_ne_one, Nat.succ_ne_self, Nat.le_refl, Nat.sub_self, Nat.sub_zero, Nat.zero_le, reduceCtorEq, eq_self, Bool.false_eq_true, pk_mul, nI_add, k_in, nI_clamp, nI_eq, nI_ltI, nI_leI, k_upd, k_eq0, k_lt0, k_0le, k_0lt, k_le0, k_mod]
      refine ⟨fun c => absurd c (by omega), fun _ => ?_⟩
      refine g_call0 (sp_Packet_word hr (by omega) ?_)
      rw [Nat.mul_comm r 8]
      simp (disch := first | omega | simp (disch := omega) only [sA_ne, sA_self]) only [st_Packet_markEnded, j_up_self, j_up_up, hm, n64, k_in, nI_clamp, nI_add, Nat.add_assoc, j_k, List.mem_cons, List.not_mem_nil, or_false, or_self, if_false, if_true, ↓reduceIte, List.getElem?_cons_zero, List.getElem?_cons_succ, List.set_cons_zero, List.set_cons_succ, List.length_cons, List.length_nil, g_ld_s, g_v_s, g_ob_s, g_ia_s, g_la_s, g_qa_s, g_al_s, t_i_s, t_a_r, t_a_n, t_a_q, t_l_s, true_and, and_true, and_self, true_or, or_true, Decidable.not_not, not_true_eq_false, not_false_eq_true, false_implies, true_implies, implies_true, j_ok1_s, j_isL, j_cat_i, j_cat_l, j_cat_r, j_cat_n, j_rf_cat, j_rf_some, j_rf_none, k_w8_0, k_w8_i, k_w8_r, k_w8_l, k_sum0, k_ints, k_nari, k_narz0, k_narz1, k_okv0, k_okv1, k_okv2, k_okv2n, k_okv3, Option.toList_some, Option.toList_none, List.cons_append, List.nil_append, List.append_nil, List.map_cons, List.map_nil, List.sum_cons, List.sum_nil, Nat.add_zero, Nat.zero_add, Nat.reduceAdd, Nat.reduceMul, Nat.reduceSub, Nat.reduceDiv, Nat.reduceMod, Nat.reduceLT, Nat.reduceLeDiff, Nat.reduceEqDiff, Nat.reduceBEq, Nat.reduceBNe, Nat.one_ne_zero, Nat.zero_ne_one, Nat.succ_ne_self, Nat.le_refl, Nat.sub_self, Nat.sub_zero, Nat.zero_le, reduceCtorEq, eq_self, Bool.false_eq_true]
      refine ih (k + 1) _ (by omega) (fun r' i' hr' hi' => ?_)
      have b1 := bt_set (f := g) (r := r) (i := st + k) (r' := r') (i' := i') hr hr' (by omega) hi'
      refine b1.trans ?_
      rw [hg r' i' hr' hi']
      constructor
      · rintro ((q | ⟨q1, q2, q3⟩) | ⟨q1, q2⟩)
        · exact Or.inl q
        · exact Or.inr ⟨q1, q2, by omega⟩
        · exact Or.inr ⟨q1, by omega, by omega⟩
      · rintro (q | ⟨q1, q2, q3⟩)
        · exact Or.inl (Or.inl q)
        · by_cases e : i' = st + k
          · exact Or.inr ⟨q1, e⟩
          · exact Or.inl (Or.inr ⟨q1, q2, by omega⟩)
  refine j_runs [3] ok_Packet_markEnded 12 ?_
  simp (disch := first | omega | simp (disch := omega) only [sA_ne, sA_self]) only [st_Packet_markEnded, j_k, List.mem_cons, List.not_mem_nil, or_false, or_self, if_false, if_true, ↓reduceIte, List.getElem?_cons_zero, List.getElem?_cons_succ, List.set_cons_zero, List.set_cons_succ, List.length_cons, List.length_nil, g_ld_s, g_v_s, g_ob_s, g_ia_s, g_la_s, g_qa_s, g_al_s, t_i_s, t_a_r, t_a_n, t_a_q, t_l_s, true_and, and_true, and_self, true_or, or_true, Decidable.not_not, not_true_eq_false, not_false_eq_true, false_implies, true_implies, implies_true, j_ok1_s, j_isL, j_cat_i, j_cat_l, j_cat_r, j_cat_n, j_rf_cat, j_rf_some, j_rf_none, k_w8_0, k_w8_i, k_w8_r, k_w8_l, k_sum0, k_ints, k_nari, k_narz0, k_narz1, k_okv0, k_okv1, k_okv2, k_okv2n, k_okv3, Option.toList_some, Option.toList_none, List.cons_append, List.nil_append, List.append_nil, List.map_cons, List.map_nil, List.sum_cons, List.sum_nil, Nat.add_zero, Nat.zero_add, Nat.reduceAdd, Nat.reduceMul, Nat.reduceSub, Nat.reduceDiv, Nat.reduceMod, Nat.reduceLT, Nat.reduceLeDiff, Nat.reduceEqDiff, Nat.reduceBEq, Nat.reduceBNe, Nat.one_ne_zero, Nat.zero_ne_one, Nat.succ_ne_self, Nat.le_refl, Nat.sub_self, Nat.sub_zero, Nat.zero_le, reduceCtorEq, eq_self, Bool.false_eq_true, pk_mul, nI_add, k_in, nI_clamp, nI_eq, nI_ltI, nI_leI, k_upd, k_eq0, k_lt0, k_0le, k_0lt, k_le0, k_mod]
  have := head n 0 f (by omega) (fun r' i' _ _ => ⟨fun q => Or.inl q, fun q => q.elim id (fun q => absurd q.2 (by omega))⟩)
  have e : j_up w b (.inl (2, 64, .inr (.inl f))) = w := by
    funext q
    by_cases hq : q = b
    · subst hq; rw [j_up_self, hb]
    · rw [j_up_ne _ _ hq]
  rw [e] at this
  exact this
theorem pop_cnt {S : Nat → Nat → Nat} {B : Nat → Nat → Int64} (hB : cB S B) {p r : Nat} (hp : p < S 18 0) (hr : r < 8) {wd : Nat} (hw : wd < 8) : ∀ k, k ≤ 64 → rCnt S (nI (p + 1)) (nI r) (64 * wd + k) = rCnt S (nI (p + 1)) (nI r) (64 * wd) + pop (B p (8 * r + wd)).toBitVec.toNat k
  | 0, _ => rfl
  | k + 1, hk => by
    have ih := pop_cnt hB hp hr hw k (by omega)
    have hb := hB p r (64 * wd + k) hp hr (by omega)
    rw [show (64 * wd + k) / 64 = wd by omega, show (64 * wd + k) % 64 = k by omega] at hb
    have ht : (B p (8 * r + wd)).toBitVec.toNat / 2 ^ k % 2 = ((B p (8 * r + wd)).toBitVec.getLsbD k).toNat := (Nat.toNat_testBit _ _).symm
    rw [← Nat.add_assoc]
    unfold pop
    conv => lhs; unfold rCnt
    rw [ht, ih]
    by_cases ha : rArr S (nI (p + 1)) (nI r) (nI (64 * wd + k))
    · rw [if_pos ha, hb.mpr ha]
      rfl
    · rw [if_neg ha]
      have : (B p (8 * r + wd)).toBitVec.getLsbD k = false := by
        cases hc : (B p (8 * r + wd)).toBitVec.getLsbD k with
        | false => rfl
        | true => exact absurd (hb.mp hc) ha
      rw [this]
      rfl
theorem cSum_cnt {S : Nat → Nat → Nat} {B : Nat → Nat → Int64} (hB : cB S B) {p r : Nat} (hp : p < S 18 0) (hr : r < 8) : ∀ k, k ≤ 8 → cSum (B p) r k = rCnt S (nI (p + 1)) (nI r) (64 * k)
  | 0, _ => rfl
  | k + 1, hk => by
    unfold cSum
    rw [cSum_cnt hB hp hr k (by omega), show 64 * (k + 1) = 64 * k + 64 by omega, pop_cnt hB hp hr (by omega) 64 (Nat.le_refl _)]
theorem rArr_len {S : Nat → Nat → Nat} (hS : rOK S) (hP : rPc S) {p i : Nat} {v2 : Int32} (hp : p < S 18 0) (hi : i < 512) (h : rArr S (nI (p + 1)) v2 (nI i)) : i < S 19 (p + 1) := by
  obtain ⟨q, q1, q2, h1, -, -, -, h5⟩ := h
  have b18 : S 18 0 ≤ 12 := hS 18 0
  have b := hS.b 23 (6 * q)
  rw [nI_eq (by omega) (by omega)] at h1
  have g := hP.2.1 q q1 q2
  rw [h1] at g
  have b19 : S 19 (p + 1) ≤ 500 := hS 19 _
  rw [nI_ltI (by omega) (by omega)] at h5
  omega
theorem rCnt_len {S : Nat → Nat → Nat} (hS : rOK S) (hP : rPc S) {p : Nat} {v2 : Int32} (hp : p < S 18 0) : ∀ d, S 19 (p + 1) + d ≤ 512 → rCnt S (nI (p + 1)) v2 (S 19 (p + 1) + d) = rCnt S (nI (p + 1)) v2 (S 19 (p + 1))
  | 0, _ => rfl
  | d + 1, h => by
    rw [← Nat.add_assoc]
    conv => lhs; unfold rCnt
    rw [if_neg (fun q => ?_)]
    · exact rCnt_len hS hP hp d (by omega)
    · have := rArr_len hS hP hp (by omega) q
      omega
/-- a packet's number -/
theorem k_pk {v : Int32} {n : Nat} (hn : n ≤ 80) (h : inR v 1 n) : ∃ i, i < n ∧ v = nI (i + 1) ∧ N v = i + 1 := k_pc hn h
set_option maxHeartbeats 4000000 in
set_option maxRecDepth 100000 in
theorem sp_Net_ended {S X : Nat → Nat → Nat} {B : Nat → Nat → Int64} {A : Nat → Nat → Int32} {ad : Nat → Nat → Nat} {v1 v2 : Int32} {post : Option Value → jW → Prop} (hI : n_inj (cAl S) ad) (hS : rOK S) (hP : rPc S) (hB : cB S B) (h : post (some (.int (rEnded S v1 v2))) (cW S X B A ad)) : j_sem m_Net_ended [.ref (ad 0 0), .int v1, .int v2] (cW S X B A ad) 0 0 post := by
  refine j_sem_of (by decide +kernel) (Nat.le_of_ble_eq_true rfl) ?_
  show j_S _ _ 0 [some (.ref (ad 0 0)), some (.int v1), some (.int v2)] [] _ 0 0
  have b18 : S 18 0 ≤ 12 := hS 18 0
  have bad : ¬ (inR v1 1 (S 18 0) ∧ inR v2 0 7) → j_S m_Net_ended post 15 [some (.ref (ad 0 0)), some (.int v1), some (.int v2)] [] (cW S X B A ad) 0 0 := by
    intro c
    refine j_runs [] ok_Net_ended 8 ?_
    simp (disch := first | omega | simp (disch := omega) only [sA_ne, sA_self]) only [st_Net_ended, j_k, List.mem_cons, List.not_mem_nil, or_false, or_self, if_false, if_true, ↓reduceIte, List.getElem?_cons_zero, List.getElem?_cons_succ, List.set_cons_zero, List.set_cons_succ, List.length_cons, List.length_nil, g_ld_s, g_v_s, g_ob_s, g_ia_s, g_la_s, g_qa_s, g_al_s, t_i_s, t_a_r, t_a_n, t_a_q, t_l_s, true_and, and_true, and_self, true_or, or_true, Decidable.not_not, not_true_eq_false, not_false_eq_true, false_implies, true_implies, implies_true, j_ok1_s, j_isL, j_cat_i, j_cat_l, j_cat_r, j_cat_n, j_rf_cat, j_rf_some, j_rf_none, k_w8_0, k_w8_i, k_w8_r, k_w8_l, k_sum0, k_ints, k_nari, k_narz0, k_narz1, k_okv0, k_okv1, k_okv2, k_okv2n, k_okv3, Option.toList_some, Option.toList_none, List.cons_append, List.nil_append, List.append_nil, List.map_cons, List.map_nil, List.sum_cons, List.sum_nil, Nat.add_zero, Nat.zero_add, Nat.reduceAdd, Nat.reduceMul, Nat.reduceSub, Nat.reduceDiv, Nat.reduceMod, Nat.reduceLT, Nat.reduceLeDiff, Nat.reduceEqDiff, Nat.reduceBEq, Nat.reduceBNe, Nat.one_ne_zero, Nat.zero_ne_one, Nat.succ_ne_self, Nat.le_refl, Nat.sub_self, Nat.sub_zero, Nat.zero_le, reduceCtorEq, eq_self, Bool.false_eq_true]
    unfold rEnded at h
    rw [if_neg c] at h
    exact h
  refine j_runs [15] ok_Net_ended 60 ?_
  simp (disch := first | omega | simp (disch := omega) only [sA_ne, sA_self]) only [st_Net_ended, cg0 hI, j_k, List.mem_cons, List.not_mem_nil, or_false, or_self, if_false, if_true, ↓reduceIte, List.getElem?_cons_zero, List.getElem?_cons_succ, List.set_cons_zero, List.set_cons_succ, List.length_cons, List.length_nil, g_ld_s, g_v_s, g_ob_s, g_ia_s, g_la_s, g_qa_s, g_al_s, t_i_s, t_a_r, t_a_n, t_a_q, t_l_s, true_and, and_true, and_self, true_or, or_true, Decidable.not_not, not_true_eq_false, not_false_eq_true, false_implies, true_implies, implies_true, j_ok1_s, j_isL, j_cat_i, j_cat_l, j_cat_r, j_cat_n, j_rf_cat, j_rf_some, j_rf_none, k_w8_0, k_w8_i, k_w8_r, k_w8_l, k_sum0, k_ints, k_nari, k_narz0, k_narz1, k_okv0, k_okv1, k_okv2, k_okv2n, k_okv3, Option.toList_some, Option.toList_none, List.cons_append, List.nil_append, List.append_nil, List.map_cons, List.map_nil, List.sum_cons, List.sum_nil, Nat.add_zero, Nat.zero_add, Nat.reduceAdd, Nat.reduceMul, Nat.reduceSub, Nat.reduceDiv, Nat.reduceMod, Nat.reduceLT, Nat.reduceLeDiff, Nat.reduceEqDiff, Nat.reduceBEq, Nat.reduceBNe, Nat.one_ne_zero, Nat.zero_ne_one, Nat.succ_ne_self, Nat.le_refl, Nat.sub_self, Nat.sub_zero, Nat.zero_le, reduceCtorEq, eq_self, Bool.false_eq_true]
  refine g_call0 (sp_Net_isPacket hI (fun c1 => ?_) (fun c1 => ?_))
  · simp (disch := first | omega | simp (disch := omega) only [sA_ne, sA_self]) only [st_Net_ended, j_k, List.mem_cons, List.not_mem_nil, or_false, or_self, if_false, if_true, ↓reduceIte, List.getElem?_cons_zero, List.getElem?_cons_succ, List.set_cons_zero, List.set_cons_succ, List.length_cons, List.length_nil, g_ld_s, g_v_s, g_ob_s, g_ia_s, g_la_s, g_qa_s, g_al_s, t_i_s, t_a_r, t_a_n, t_a_q, t_l_s, true_and, and_true, and_self, true_or, or_true, Decidable.not_not, not_true_eq_false, not_false_eq_true, false_implies, true_implies, implies_true, j_ok1_s, j_isL, j_cat_i, j_cat_l, j_cat_r, j_cat_n, j_rf_cat, j_rf_some, j_rf_none, k_w8_0, k_w8_i, k_w8_r, k_w8_l, k_sum0, k_ints, k_nari, k_narz0, k_narz1, k_okv0, k_okv1, k_okv2, k_okv2n, k_okv3, Option.toList_some, Option.toList_none, List.cons_append, List.nil_append, List.append_nil, List.map_cons, List.map_nil, List.sum_cons, List.sum_nil, Nat.add_zero, Nat.zero_add, Nat.reduceAdd, Nat.reduceMul, Nat.reduceSub, Nat.reduceDiv, Nat.reduceMod, Nat.reduceLT, Nat.reduceLeDiff, Nat.reduceEqDiff, Nat.reduceBEq, Nat.reduceBNe, Nat.one_ne_zero, Nat.zero_ne_one, Nat.succ_ne_self, Nat.le_refl, Nat.sub_self, Nat.sub_zero, Nat.zero_le, reduceCtorEq, eq_self, Bool.false_eq_true, pk_mul, nI_add, k_in, nI_clamp, nI_eq, nI_ltI, nI_leI, k_upd, k_eq0, k_lt0, k_0le, k_0lt, k_le0, k_mod]
    refine g_call0 (sp_Net_isRouter (fun c2 => ?_) (fun c2 => ?_))
    · unfold rEnded at h
      rw [if_pos ⟨c1, c2⟩] at h
      clear bad
      obtain ⟨p, hp, rfl, hN⟩ := k_pk (by omega) c1
      obtain ⟨e2, -, i2⟩ := inR_of c2 (by decide) (by decide)
      rw [hN] at h
      generalize N v2 = r at *
      subst e2
      have ei : p + 1 - 1 = p := by omega
      have b19 : S 19 (p + 1) ≤ 500 := hS 19 _
      have ec : rCnt S (nI (p + 1)) (nI r) (S 19 (p + 1)) = cSum (B p) r 8 := by
        rw [cSum_cnt hB hp (by omega) 8 (Nat.le_refl _), ← rCnt_len hS hP hp (512 - S 19 (p + 1)) (by omega), show S 19 (p + 1) + (512 - S 19 (p + 1)) = 64 * 8 by omega]
      rw [ec] at h
      simp (disch := first | omega | simp (disch := omega) only [sA_ne, sA_self]) only [st_Net_ended, cg0 hI, cg9 hI, cg10 hI hp, cRow_lt, pk_sub, ei, j_k, List.mem_cons, List.not_mem_nil, or_false, or_self, if_false, if_true, ↓reduceIte, List.getElem?_cons_zero, List.getElem?_cons_succ, List.set_cons_zero, List.set_cons_succ, List.length_cons, List.length_nil, g_ld_s, g_v_s, g_ob_s, g_ia_s, g_la_s, g_qa_s, g_al_s, t_i_s, t_a_r, t_a_n, t_a_q, t_l_s, true_and, and_true, and_self, true_or, or_true, Decidable.not_not, not_true_eq_false, not_false_eq_true, false_implies, true_implies, implies_true, j_ok1_s, j_isL, j_cat_i, j_cat_l, j_cat_r, j_cat_n, j_rf_cat, j_rf_some, j_rf_none, k_w8_0, k_w8_i, k_w8_r, k_w8_l, k_sum0, k_ints, k_nari, k_narz0, k_narz1, k_okv0, k_okv1, k_okv2, k_okv2n, k_okv3, Option.toList_some, Option.toList_none, List.cons_append, List.nil_append, List.append_nil, List.map_cons, List.map_nil, List.sum_cons, List.sum_nil, Nat.add_zero, Nat.zero_add, Nat.reduceAdd, Nat.reduceMul, Nat.reduceSub, Nat.reduceDiv, Nat.reduceMod, Nat.reduceLT, Nat.reduceLeDiff, Nat.reduceEqDiff, Nat.reduceBEq, Nat.reduceBNe, Nat.one_ne_zero, Nat.zero_ne_one, Nat.succ_ne_self, Nat.le_refl, Nat.sub_self, Nat.sub_zero, Nat.zero_le, reduceCtorEq, eq_self, Bool.false_eq_true, pk_mul, nI_add, k_in, nI_clamp, nI_eq, nI_ltI, nI_leI, k_upd, k_eq0, k_lt0, k_0le, k_0lt, k_le0, k_mod]
      refine g_call0 (sp_Packet_countEnded (cg10 hI hp) (cg11 hI hp) (by omega) ?_)
      simp (disch := first | omega | simp (disch := omega) only [sA_ne, sA_self]) only [st_Net_ended, j_k, List.mem_cons, List.not_mem_nil, or_false, or_self, if_false, if_true, ↓reduceIte, List.getElem?_cons_zero, List.getElem?_cons_succ, List.set_cons_zero, List.set_cons_succ, List.length_cons, List.length_nil, g_ld_s, g_v_s, g_ob_s, g_ia_s, g_la_s, g_qa_s, g_al_s, t_i_s, t_a_r, t_a_n, t_a_q, t_l_s, true_and, and_true, and_self, true_or, or_true, Decidable.not_not, not_true_eq_false, not_false_eq_true, false_implies, true_implies, implies_true, j_ok1_s, j_isL, j_cat_i, j_cat_l, j_cat_r, j_cat_n, j_rf_cat, j_rf_some, j_rf_none, k_w8_0, k_w8_i, k_w8_r, k_w8_l, k_sum0, k_ints, k_nari, k_narz0, k_narz1, k_okv0, k_okv1, k_okv2, k_okv2n, k_okv3, Option.toList_some, Option.toList_none, List.cons_append, List.nil_append, List.append_nil, List.map_cons, List.map_nil, List.sum_cons, List.sum_nil, Nat.add_zero, Nat.zero_add, Nat.reduceAdd, Nat.reduceMul, Nat.reduceSub, Nat.reduceDiv, Nat.reduceMod, Nat.reduceLT, Nat.reduceLeDiff, Nat.reduceEqDiff, Nat.reduceBEq, Nat.reduceBNe, Nat.one_ne_zero, Nat.zero_ne_one, Nat.succ_ne_self, Nat.le_refl, Nat.sub_self, Nat.sub_zero, Nat.zero_le, reduceCtorEq, eq_self, Bool.false_eq_true, pk_mul, nI_add, k_in, nI_clamp, nI_eq, nI_ltI, nI_leI, k_upd, k_eq0, k_lt0, k_0le, k_0lt, k_le0, k_mod]
      exact h
    · simp (disch := first | omega | simp (disch := omega) only [sA_ne, sA_self]) only [st_Net_ended, j_k, List.mem_cons, List.not_mem_nil, or_false, or_self, if_false, if_true, ↓reduceIte, List.getElem?_cons_zero, List.getElem?_cons_succ, List.set_cons_zero, List.set_cons_succ, List.length_cons, List.length_nil, g_ld_s, g_v_s, g_ob_s, g_ia_s, g_la_s, g_qa_s, g_al_s, t_i_s, t_a_r, t_a_n, t_a_q, t_l_s, true_and, and_true, and_self, true_or, or_true, Decidable.not_not, not_true_eq_false, not_false_eq_true, false_implies, true_implies, implies_true, j_ok1_s, j_isL, j_cat_i, j_cat_l, j_cat_r, j_cat_n, j_rf_cat, j_rf_some, j_rf_none, k_w8_0, k_w8_i, k_w8_r, k_w8_l, k_sum0, k_ints, k_nari, k_narz0, k_narz1, k_okv0, k_okv1, k_okv2, k_okv2n, k_okv3, Option.toList_some, Option.toList_none, List.cons_append, List.nil_append, List.append_nil, List.map_cons, List.map_nil, List.sum_cons, List.sum_nil, Nat.add_zero, Nat.zero_add, Nat.reduceAdd, Nat.reduceMul, Nat.reduceSub, Nat.reduceDiv, Nat.reduceMod, Nat.reduceLT, Nat.reduceLeDiff, Nat.reduceEqDiff, Nat.reduceBEq, Nat.reduceBNe, Nat.one_ne_zero, Nat.zero_ne_one, Nat.succ_ne_self, Nat.le_refl, Nat.sub_self, Nat.sub_zero, Nat.zero_le, reduceCtorEq, eq_self, Bool.false_eq_true, pk_mul, nI_add, k_in, nI_clamp, nI_eq, nI_ltI, nI_leI, k_upd, k_eq0, k_lt0, k_0le, k_0lt, k_le0, k_mod]
      exact bad (fun q => c2 q.2)
  · simp (disch := first | omega | simp (disch := omega) only [sA_ne, sA_self]) only [st_Net_ended, j_k, List.mem_cons, List.not_mem_nil, or_false, or_self, if_false, if_true, ↓reduceIte, List.getElem?_cons_zero, List.getElem?_cons_succ, List.set_cons_zero, List.set_cons_succ, List.length_cons, List.length_nil, g_ld_s, g_v_s, g_ob_s, g_ia_s, g_la_s, g_qa_s, g_al_s, t_i_s, t_a_r, t_a_n, t_a_q, t_l_s, true_and, and_true, and_self, true_or, or_true, Decidable.not_not, not_true_eq_false, not_false_eq_true, false_implies, true_implies, implies_true, j_ok1_s, j_isL, j_cat_i, j_cat_l, j_cat_r, j_cat_n, j_rf_cat, j_rf_some, j_rf_none, k_w8_0, k_w8_i, k_w8_r, k_w8_l, k_sum0, k_ints, k_nari, k_narz0, k_narz1, k_okv0, k_okv1, k_okv2, k_okv2n, k_okv3, Option.toList_some, Option.toList_none, List.cons_append, List.nil_append, List.append_nil, List.map_cons, List.map_nil, List.sum_cons, List.sum_nil, Nat.add_zero, Nat.zero_add, Nat.reduceAdd, Nat.reduceMul, Nat.reduceSub, Nat.reduceDiv, Nat.reduceMod, Nat.reduceLT, Nat.reduceLeDiff, Nat.reduceEqDiff, Nat.reduceBEq, Nat.reduceBNe, Nat.one_ne_zero, Nat.zero_ne_one, Nat.succ_ne_self, Nat.le_refl, Nat.sub_self, Nat.sub_zero, Nat.zero_le, reduceCtorEq, eq_self, Bool.false_eq_true, pk_mul, nI_add, k_in, nI_clamp, nI_eq, nI_ltI, nI_leI, k_upd, k_eq0, k_lt0, k_0le, k_0lt, k_le0, k_mod]
    exact bad (fun q => c1 q.1)
set_option maxHeartbeats 4000000 in
set_option maxRecDepth 100000 in
theorem sp_Net_arrived {S X : Nat → Nat → Nat} {B : Nat → Nat → Int64} {A : Nat → Nat → Int32} {ad : Nat → Nat → Nat} {v1 v2 v3 : Int32} {post : Option Value → jW → Prop} (hI : n_inj (cAl S) ad) (hS : rOK S) (hP : rPc S) (hB : cB S B) (h1 : rArr S v1 v2 v3 → post (some (.int (nI 1))) (cW S X B A ad)) (h0 : ¬ rArr S v1 v2 v3 → post (some (.int (nI 0))) (cW S X B A ad)) : j_sem m_Net_arrived [.ref (ad 0 0), .int v1, .int v2, .int v3] (cW S X B A ad) 0 0 post := by
  refine j_sem_of (by decide +kernel) (Nat.le_of_ble_eq_true rfl) ?_
  show j_S _ _ 0 [some (.ref (ad 0 0)), some (.int v1), some (.int v2), some (.int v3)] [] _ 0 0
  have b18 : S 18 0 ≤ 12 := hS 18 0
  have need : rArr S v1 v2 v3 → inR v1 1 (S 18 0) ∧ inR v2 0 7 ∧ inR v3 0 499 := by
    rintro ⟨q, q1, q2, rfl, rfl, g3, g4, g5⟩
    obtain ⟨k1, k2, k3, k4, k5, k6⟩ := hP.2.1 q q1 q2
    have b19 : S 19 (S 23 (6 * q)) ≤ 500 := hS 19 _
    refine ⟨inR_mk k1 k2 (by omega), inR_mk (Nat.zero_le _) k6 (by decide), ?_⟩
    have lo : nI 0 ≤ v3 := Int32.le_trans ((nI_leI (by decide) (by omega)).mpr (Nat.zero_le _)) g4
    refine ⟨lo, ?_⟩
    have : ¬ v3 < 0 := fun q => by
      have := Int32.lt_of_lt_of_le q lo
      exact absurd this Int32.lt_irrefl
    obtain ⟨j, hj, rfl⟩ := nI_of this
    rw [nI_ltI hj (by omega)] at g5
    exact (nI_leI hj (by decide)).mpr (by omega)
  have bad : ¬ (inR v1 1 (S 18 0) ∧ inR v2 0 7 ∧ inR v3 0 499) → j_S m_Net_arrived post 26 [some (.ref (ad 0 0)), some (.int v1), some (.int v2), some (.int v3)] [] (cW S X B A ad) 0 0 := by
    intro c
    refine j_runs [] ok_Net_arrived 8 ?_
    simp (disch := first | omega | simp (disch := omega) only [sA_ne, sA_self]) only [st_Net_arrived, j_k, List.mem_cons, List.not_mem_nil, or_false, or_self, if_false, if_true, ↓reduceIte, List.getElem?_cons_zero, List.getElem?_cons_succ, List.set_cons_zero, List.set_cons_succ, List.length_cons, List.length_nil, g_ld_s, g_v_s, g_ob_s, g_ia_s, g_la_s, g_qa_s, g_al_s, t_i_s, t_a_r, t_a_n, t_a_q, t_l_s, true_and, and_true, and_self, true_or, or_true, Decidable.not_not, not_true_eq_false, not_false_eq_true, false_implies, true_implies, implies_true, j_ok1_s, j_isL, j_cat_i, j_cat_l, j_cat_r, j_cat_n, j_rf_cat, j_rf_some, j_rf_none, k_w8_0, k_w8_i, k_w8_r, k_w8_l, k_sum0, k_ints, k_nari, k_narz0, k_narz1, k_okv0, k_okv1, k_okv2, k_okv2n, k_okv3, Option.toList_some, Option.toList_none, List.cons_append, List.nil_append, List.append_nil, List.map_cons, List.map_nil, List.sum_cons, List.sum_nil, Nat.add_zero, Nat.zero_add, Nat.reduceAdd, Nat.reduceMul, Nat.reduceSub, Nat.reduceDiv, Nat.reduceMod, Nat.reduceLT, Nat.reduceLeDiff, Nat.reduceEqDiff, Nat.reduceBEq, Nat.reduceBNe, Nat.one_ne_zero, Nat.zero_ne_one, Nat.succ_ne_self, Nat.le_refl, Nat.sub_self, Nat.sub_zero, Nat.zero_le, reduceCtorEq, eq_self, Bool.false_eq_true]
    exact h0 (fun q => c (need q))
  refine j_runs [26] ok_Net_arrived 60 ?_
  simp (disch := first | omega | simp (disch := omega) only [sA_ne, sA_self]) only [st_Net_arrived, cg0 hI, j_k, List.mem_cons, List.not_mem_nil, or_false, or_self, if_false, if_true, ↓reduceIte, List.getElem?_cons_zero, List.getElem?_cons_succ, List.set_cons_zero, List.set_cons_succ, List.length_cons, List.length_nil, g_ld_s, g_v_s, g_ob_s, g_ia_s, g_la_s, g_qa_s, g_al_s, t_i_s, t_a_r, t_a_n, t_a_q, t_l_s, true_and, and_true, and_self, true_or, or_true, Decidable.not_not, not_true_eq_false, not_false_eq_true, false_implies, true_implies, implies_true, j_ok1_s, j_isL, j_cat_i, j_cat_l, j_cat_r, j_cat_n, j_rf_cat, j_rf_some, j_rf_none, k_w8_0, k_w8_i, k_w8_r, k_w8_l, k_sum0, k_ints, k_nari, k_narz0, k_narz1, k_okv0, k_okv1, k_okv2, k_okv2n, k_okv3, Option.toList_some, Option.toList_none, List.cons_append, List.nil_append, List.append_nil, List.map_cons, List.map_nil, List.sum_cons, List.sum_nil, Nat.add_zero, Nat.zero_add, Nat.reduceAdd, Nat.reduceMul, Nat.reduceSub, Nat.reduceDiv, Nat.reduceMod, Nat.reduceLT, Nat.reduceLeDiff, Nat.reduceEqDiff, Nat.reduceBEq, Nat.reduceBNe, Nat.one_ne_zero, Nat.zero_ne_one, Nat.succ_ne_self, Nat.le_refl, Nat.sub_self, Nat.sub_zero, Nat.zero_le, reduceCtorEq, eq_self, Bool.false_eq_true]
  refine g_call0 (sp_Net_isPacket hI (fun c1 => ?_) (fun c1 => ?_))
  · simp (disch := first | omega | simp (disch := omega) only [sA_ne, sA_self]) only [st_Net_arrived, j_k, List.mem_cons, List.not_mem_nil, or_false, or_self, if_false, if_true, ↓reduceIte, List.getElem?_cons_zero, List.getElem?_cons_succ, List.set_cons_zero, List.set_cons_succ, List.length_cons, List.length_nil, g_ld_s, g_v_s, g_ob_s, g_ia_s, g_la_s, g_qa_s, g_al_s, t_i_s, t_a_r, t_a_n, t_a_q, t_l_s, true_and, and_true, and_self, true_or, or_true, Decidable.not_not, not_true_eq_false, not_false_eq_true, false_implies, true_implies, implies_true, j_ok1_s, j_isL, j_cat_i, j_cat_l, j_cat_r, j_cat_n, j_rf_cat, j_rf_some, j_rf_none, k_w8_0, k_w8_i, k_w8_r, k_w8_l, k_sum0, k_ints, k_nari, k_narz0, k_narz1, k_okv0, k_okv1, k_okv2, k_okv2n, k_okv3, Option.toList_some, Option.toList_none, List.cons_append, List.nil_append, List.append_nil, List.map_cons, List.map_nil, List.sum_cons, List.sum_nil, Nat.add_zero, Nat.zero_add, Nat.reduceAdd, Nat.reduceMul, Nat.reduceSub, Nat.reduceDiv, Nat.reduceMod, Nat.reduceLT, Nat.reduceLeDiff, Nat.reduceEqDiff, Nat.reduceBEq, Nat.reduceBNe, Nat.one_ne_zero, Nat.zero_ne_one, Nat.succ_ne_self, Nat.le_refl, Nat.sub_self, Nat.sub_zero, Nat.zero_le, reduceCtorEq, eq_self, Bool.false_eq_true, pk_mul, nI_add, k_in, nI_clamp, nI_eq, nI_ltI, nI_leI, k_upd, k_eq0, k_lt0, k_0le, k_0lt, k_le0, k_mod]
    refine g_call0 (sp_Net_isRouter (fun c2 => ?_) (fun c2 => ?_))
    · simp (disch := first | omega | simp (disch := omega) only [sA_ne, sA_self]) only [st_Net_arrived, j_k, List.mem_cons, List.not_mem_nil, or_false, or_self, if_false, if_true, ↓reduceIte, List.getElem?_cons_zero, List.getElem?_cons_succ, List.set_cons_zero, List.set_cons_succ, List.length_cons, List.length_nil, g_ld_s, g_v_s, g_ob_s, g_ia_s, g_la_s, g_qa_s, g_al_s, t_i_s, t_a_r, t_a_n, t_a_q, t_l_s, true_and, and_true, and_self, true_or, or_true, Decidable.not_not, not_true_eq_false, not_false_eq_true, false_implies, true_implies, implies_true, j_ok1_s, j_isL, j_cat_i, j_cat_l, j_cat_r, j_cat_n, j_rf_cat, j_rf_some, j_rf_none, k_w8_0, k_w8_i, k_w8_r, k_w8_l, k_sum0, k_ints, k_nari, k_narz0, k_narz1, k_okv0, k_okv1, k_okv2, k_okv2n, k_okv3, Option.toList_some, Option.toList_none, List.cons_append, List.nil_append, List.append_nil, List.map_cons, List.map_nil, List.sum_cons, List.sum_nil, Nat.add_zero, Nat.zero_add, Nat.reduceAdd, Nat.reduceMul, Nat.reduceSub, Nat.reduceDiv, Nat.reduceMod, Nat.reduceLT, Nat.reduceLeDiff, Nat.reduceEqDiff, Nat.reduceBEq, Nat.reduceBNe, Nat.one_ne_zero, Nat.zero_ne_one, Nat.succ_ne_self, Nat.le_refl, Nat.sub_self, Nat.sub_zero, Nat.zero_le, reduceCtorEq, eq_self, Bool.false_eq_true, pk_mul, nI_add, k_in, nI_clamp, nI_eq, nI_ltI, nI_leI, k_upd, k_eq0, k_lt0, k_0le, k_0lt, k_le0, k_mod]
      refine g_call0 (sp_Net_isWithin (fun c3 => ?_) (fun c3 => ?_))
      · clear bad need
        obtain ⟨p, hp, rfl, hN⟩ := k_pk (by omega) c1
        obtain ⟨e2, -, i2⟩ := inR_of c2 (by decide) (by decide)
        obtain ⟨e3, -, i3⟩ := inR_of c3 (by decide) (by decide)
        generalize N v2 = r at *
        generalize N v3 = i at *
        subst e2 e3
        have ei : p + 1 - 1 = p := by omega
        have hb := hB p r i hp (by omega) (by omega)
        simp (disch := first | omega | simp (disch := omega) only [sA_ne, sA_self]) only [st_Net_arrived, cg0 hI, cg9 hI, cg10 hI hp, cRow_lt, pk_sub, ei, j_k, List.mem_cons, List.not_mem_nil, or_false, or_self, if_false, if_true, ↓reduceIte, List.getElem?_cons_zero, List.getElem?_cons_succ, List.set_cons_zero, List.set_cons_succ, List.length_cons, List.length_nil, g_ld_s, g_v_s, g_ob_s, g_ia_s, g_la_s, g_qa_s, g_al_s, t_i_s, t_a_r, t_a_n, t_a_q, t_l_s, true_and, and_true, and_self, true_or, or_true, Decidable.not_not, not_true_eq_false, not_false_eq_true, false_implies, true_implies, implies_true, j_ok1_s, j_isL, j_cat_i, j_cat_l, j_cat_r, j_cat_n, j_rf_cat, j_rf_some, j_rf_none, k_w8_0, k_w8_i, k_w8_r, k_w8_l, k_sum0, k_ints, k_nari, k_narz0, k_narz1, k_okv0, k_okv1, k_okv2, k_okv2n, k_okv3, Option.toList_some, Option.toList_none, List.cons_append, List.nil_append, List.append_nil, List.map_cons, List.map_nil, List.sum_cons, List.sum_nil, Nat.add_zero, Nat.zero_add, Nat.reduceAdd, Nat.reduceMul, Nat.reduceSub, Nat.reduceDiv, Nat.reduceMod, Nat.reduceLT, Nat.reduceLeDiff, Nat.reduceEqDiff, Nat.reduceBEq, Nat.reduceBNe, Nat.one_ne_zero, Nat.zero_ne_one, Nat.succ_ne_self, Nat.le_refl, Nat.sub_self, Nat.sub_zero, Nat.zero_le, reduceCtorEq, eq_self, Bool.false_eq_true, pk_mul, nI_add, k_in, nI_clamp, nI_eq, nI_ltI, nI_leI, k_upd, k_eq0, k_lt0, k_0le, k_0lt, k_le0, k_mod]
        refine g_call0 (sp_Packet_hasEnded (cg10 hI hp) (cg11 hI hp) (by omega) (by omega) (fun c => ?_) (fun c => ?_))
        · simp (disch := first | omega | simp (disch := omega) only [sA_ne, sA_self]) only [st_Net_arrived, j_k, List.mem_cons, List.not_mem_nil, or_false, or_self, if_false, if_true, ↓reduceIte, List.getElem?_cons_zero, List.getElem?_cons_succ, List.set_cons_zero, List.set_cons_succ, List.length_cons, List.length_nil, g_ld_s, g_v_s, g_ob_s, g_ia_s, g_la_s, g_qa_s, g_al_s, t_i_s, t_a_r, t_a_n, t_a_q, t_l_s, true_and, and_true, and_self, true_or, or_true, Decidable.not_not, not_true_eq_false, not_false_eq_true, false_implies, true_implies, implies_true, j_ok1_s, j_isL, j_cat_i, j_cat_l, j_cat_r, j_cat_n, j_rf_cat, j_rf_some, j_rf_none, k_w8_0, k_w8_i, k_w8_r, k_w8_l, k_sum0, k_ints, k_nari, k_narz0, k_narz1, k_okv0, k_okv1, k_okv2, k_okv2n, k_okv3, Option.toList_some, Option.toList_none, List.cons_append, List.nil_append, List.append_nil, List.map_cons, List.map_nil, List.sum_cons, List.sum_nil, Nat.add_zero, Nat.zero_add, Nat.reduceAdd, Nat.reduceMul, Nat.reduceSub, Nat.reduceDiv, Nat.reduceMod, Nat.reduceLT, Nat.reduceLeDiff, Nat.reduceEqDiff, Nat.reduceBEq, Nat.reduceBNe, Nat.one_ne_zero, Nat.zero_ne_one, Nat.succ_ne_self, Nat.le_refl, Nat.sub_self, Nat.sub_zero, Nat.zero_le, reduceCtorEq, eq_self, Bool.false_eq_true, pk_mul, nI_add, k_in, nI_clamp, nI_eq, nI_ltI, nI_leI, k_upd, k_eq0, k_lt0, k_0le, k_0lt, k_le0, k_mod]
          exact h1 (hb.mp c)
        · simp (disch := first | omega | simp (disch := omega) only [sA_ne, sA_self]) only [st_Net_arrived, j_k, List.mem_cons, List.not_mem_nil, or_false, or_self, if_false, if_true, ↓reduceIte, List.getElem?_cons_zero, List.getElem?_cons_succ, List.set_cons_zero, List.set_cons_succ, List.length_cons, List.length_nil, g_ld_s, g_v_s, g_ob_s, g_ia_s, g_la_s, g_qa_s, g_al_s, t_i_s, t_a_r, t_a_n, t_a_q, t_l_s, true_and, and_true, and_self, true_or, or_true, Decidable.not_not, not_true_eq_false, not_false_eq_true, false_implies, true_implies, implies_true, j_ok1_s, j_isL, j_cat_i, j_cat_l, j_cat_r, j_cat_n, j_rf_cat, j_rf_some, j_rf_none, k_w8_0, k_w8_i, k_w8_r, k_w8_l, k_sum0, k_ints, k_nari, k_narz0, k_narz1, k_okv0, k_okv1, k_okv2, k_okv2n, k_okv3, Option.toList_some, Option.toList_none, List.cons_append, List.nil_append, List.append_nil, List.map_cons, List.map_nil, List.sum_cons, List.sum_nil, Nat.add_zero, Nat.zero_add, Nat.reduceAdd, Nat.reduceMul, Nat.reduceSub, Nat.reduceDiv, Nat.reduceMod, Nat.reduceLT, Nat.reduceLeDiff, Nat.reduceEqDiff, Nat.reduceBEq, Nat.reduceBNe, Nat.one_ne_zero, Nat.zero_ne_one, Nat.succ_ne_self, Nat.le_refl, Nat.sub_self, Nat.sub_zero, Nat.zero_le, reduceCtorEq, eq_self, Bool.false_eq_true, pk_mul, nI_add, k_in, nI_clamp, nI_eq, nI_ltI, nI_leI, k_upd, k_eq0, k_lt0, k_0le, k_0lt, k_le0, k_mod]
          exact h0 (fun q => c (hb.mpr q))
      · simp (disch := first | omega | simp (disch := omega) only [sA_ne, sA_self]) only [st_Net_arrived, j_k, List.mem_cons, List.not_mem_nil, or_false, or_self, if_false, if_true, ↓reduceIte, List.getElem?_cons_zero, List.getElem?_cons_succ, List.set_cons_zero, List.set_cons_succ, List.length_cons, List.length_nil, g_ld_s, g_v_s, g_ob_s, g_ia_s, g_la_s, g_qa_s, g_al_s, t_i_s, t_a_r, t_a_n, t_a_q, t_l_s, true_and, and_true, and_self, true_or, or_true, Decidable.not_not, not_true_eq_false, not_false_eq_true, false_implies, true_implies, implies_true, j_ok1_s, j_isL, j_cat_i, j_cat_l, j_cat_r, j_cat_n, j_rf_cat, j_rf_some, j_rf_none, k_w8_0, k_w8_i, k_w8_r, k_w8_l, k_sum0, k_ints, k_nari, k_narz0, k_narz1, k_okv0, k_okv1, k_okv2, k_okv2n, k_okv3, Option.toList_some, Option.toList_none, List.cons_append, List.nil_append, List.append_nil, List.map_cons, List.map_nil, List.sum_cons, List.sum_nil, Nat.add_zero, Nat.zero_add, Nat.reduceAdd, Nat.reduceMul, Nat.reduceSub, Nat.reduceDiv, Nat.reduceMod, Nat.reduceLT, Nat.reduceLeDiff, Nat.reduceEqDiff, Nat.reduceBEq, Nat.reduceBNe, Nat.one_ne_zero, Nat.zero_ne_one, Nat.succ_ne_self, Nat.le_refl, Nat.sub_self, Nat.sub_zero, Nat.zero_le, reduceCtorEq, eq_self, Bool.false_eq_true, pk_mul, nI_add, k_in, nI_clamp, nI_eq, nI_ltI, nI_leI, k_upd, k_eq0, k_lt0, k_0le, k_0lt, k_le0, k_mod]
        exact bad (fun q => c3 q.2.2)
    · simp (disch := first | omega | simp (disch := omega) only [sA_ne, sA_self]) only [st_Net_arrived, j_k, List.mem_cons, List.not_mem_nil, or_false, or_self, if_false, if_true, ↓reduceIte, List.getElem?_cons_zero, List.getElem?_cons_succ, List.set_cons_zero, List.set_cons_succ, List.length_cons, List.length_nil, g_ld_s, g_v_s, g_ob_s, g_ia_s, g_la_s, g_qa_s, g_al_s, t_i_s, t_a_r, t_a_n, t_a_q, t_l_s, true_and, and_true, and_self, true_or, or_true, Decidable.not_not, not_true_eq_false, not_false_eq_true, false_implies, true_implies, implies_true, j_ok1_s, j_isL, j_cat_i, j_cat_l, j_cat_r, j_cat_n, j_rf_cat, j_rf_some, j_rf_none, k_w8_0, k_w8_i, k_w8_r, k_w8_l, k_sum0, k_ints, k_nari, k_narz0, k_narz1, k_okv0, k_okv1, k_okv2, k_okv2n, k_okv3, Option.toList_some, Option.toList_none, List.cons_append, List.nil_append, List.append_nil, List.map_cons, List.map_nil, List.sum_cons, List.sum_nil, Nat.add_zero, Nat.zero_add, Nat.reduceAdd, Nat.reduceMul, Nat.reduceSub, Nat.reduceDiv, Nat.reduceMod, Nat.reduceLT, Nat.reduceLeDiff, Nat.reduceEqDiff, Nat.reduceBEq, Nat.reduceBNe, Nat.one_ne_zero, Nat.zero_ne_one, Nat.succ_ne_self, Nat.le_refl, Nat.sub_self, Nat.sub_zero, Nat.zero_le, reduceCtorEq, eq_self, Bool.false_eq_true, pk_mul, nI_add, k_in, nI_clamp, nI_eq, nI_ltI, nI_leI, k_upd, k_eq0, k_lt0, k_0le, k_0lt, k_le0, k_mod]
      exact bad (fun q => c2 q.2.1)
  · simp (disch := first | omega | simp (disch := omega) only [sA_ne, sA_self]) only [st_Net_arrived, j_k, List.mem_cons, List.not_mem_nil, or_false, or_self, if_false, if_true, ↓reduceIte, List.getElem?_cons_zero, List.getElem?_cons_succ, List.set_cons_zero, List.set_cons_succ, List.length_cons, List.length_nil, g_ld_s, g_v_s, g_ob_s, g_ia_s, g_la_s, g_qa_s, g_al_s, t_i_s, t_a_r, t_a_n, t_a_q, t_l_s, true_and, and_true, and_self, true_or, or_true, Decidable.not_not, not_true_eq_false, not_false_eq_true, false_implies, true_implies, implies_true, j_ok1_s, j_isL, j_cat_i, j_cat_l, j_cat_r, j_cat_n, j_rf_cat, j_rf_some, j_rf_none, k_w8_0, k_w8_i, k_w8_r, k_w8_l, k_sum0, k_ints, k_nari, k_narz0, k_narz1, k_okv0, k_okv1, k_okv2, k_okv2n, k_okv3, Option.toList_some, Option.toList_none, List.cons_append, List.nil_append, List.append_nil, List.map_cons, List.map_nil, List.sum_cons, List.sum_nil, Nat.add_zero, Nat.zero_add, Nat.reduceAdd, Nat.reduceMul, Nat.reduceSub, Nat.reduceDiv, Nat.reduceMod, Nat.reduceLT, Nat.reduceLeDiff, Nat.reduceEqDiff, Nat.reduceBEq, Nat.reduceBNe, Nat.one_ne_zero, Nat.zero_ne_one, Nat.succ_ne_self, Nat.le_refl, Nat.sub_self, Nat.sub_zero, Nat.zero_le, reduceCtorEq, eq_self, Bool.false_eq_true, pk_mul, nI_add, k_in, nI_clamp, nI_eq, nI_ltI, nI_leI, k_upd, k_eq0, k_lt0, k_0le, k_0lt, k_le0, k_mod]
    exact bad (fun q => c1 q.1)
