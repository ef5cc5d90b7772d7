/-! THE CLASS: bitCount, countEnded, hasEnded, markEnded -/
set_option maxHeartbeats 4000000 in
set_option maxRecDepth 100000 in
theorem sp_Long_bitCount {x : Int64} {w : jW} {post : Option Value → jW → Prop} (h : post (some (.int (nI (pop x.toBitVec.toNat 64)))) w) : j_sem m_Long_bitCount [.long x] w 0 0 post := by
  refine j_sem_ofF (by decide +kernel) (Nat.le_of_ble_eq_true rfl) ?_
  show j_S _ _ 0 [some (.long x), none] [] _ 0 0
  obtain ⟨X, hX, rfl⟩ := wb_of x
  rw [wb_tn hX] at h
  have a1 : X - ((X / 2) &&& Mk 85 8) = F1 8 X := rfl
  have l1 : F1 8 X < 2 ^ 64 := Nat.lt_of_le_of_lt (Nat.sub_le _ _) hX
  have k1 : ((X / 2) &&& Mk 85 8) ≤ X := Nat.le_trans Nat.and_le_left (Nat.div_le_self _ _)
  have m1 : Int64.ofNat 6148914691236517205 = lN (Mk 85 8) := rfl
  have m2 : Int64.ofNat 3689348814741910323 = lN (Mk 51 8) := rfl
  have m3 : Int64.ofNat 1085102592571150095 = lN (Mk 15 8) := rfl
  have b1 : Mk 85 8 < 2 ^ 64 := by decide
  have b2 : Mk 51 8 < 2 ^ 64 := by decide
  have b3 : Mk 15 8 < 2 ^ 64 := by decide
  have q1 : X / 2 < 2 ^ 64 := Nat.lt_of_le_of_lt (Nat.div_le_self _ _) hX
  have e1 : ((lN X).toUInt64 >>> ((nI 1).toInt64.toUInt64 &&& Int64.toUInt64 63)).toInt64 = lN (X / 2) := wb_shr hX (by decide)
  have e2 : lN (X / 2) &&& lN (Mk 85 8) = lN ((X / 2) &&& Mk 85 8) := wb_and q1 b1
  have e3 : lN X - lN ((X / 2) &&& Mk 85 8) = lN (F1 8 X) := by rw [lN_sub k1, a1]
  obtain ⟨Z, eZ⟩ : ∃ Z, Z = F1 8 X := ⟨_, rfl⟩
  have a2 : (Z &&& Mk 51 8) + ((Z / 4) &&& Mk 51 8) = F2 8 Z := rfl
  rw [← eZ] at e3 l1
  have q2 : Z / 4 < 2 ^ 64 := Nat.lt_of_le_of_lt (Nat.div_le_self _ _) l1
  have e4 : lN Z &&& lN (Mk 51 8) = lN (Z &&& Mk 51 8) := wb_and l1 b2
  have e5 : ((lN Z).toUInt64 >>> ((nI 2).toInt64.toUInt64 &&& Int64.toUInt64 63)).toInt64 = lN (Z / 4) := wb_shr l1 (by decide)
  have e6 : lN (Z / 4) &&& lN (Mk 51 8) = lN ((Z / 4) &&& Mk 51 8) := wb_and q2 b2
  have e7 : lN (Z &&& Mk 51 8) + lN ((Z / 4) &&& Mk 51 8) = lN (F2 8 Z) := by rw [lN_add, a2]
  have l2 : F2 8 Z < 2 ^ 63 := by
    have u1 : (Z &&& Mk 51 8) ≤ Mk 51 8 := Nat.and_le_right
    have u2 : ((Z / 4) &&& Mk 51 8) ≤ Mk 51 8 := Nat.and_le_right
    have u3 : Mk 51 8 = 3689348814741910323 := rfl
    rw [← a2]
    omega
  obtain ⟨V, eV⟩ : ∃ V, V = F2 8 Z := ⟨_, rfl⟩
  rw [← eV] at e7 l2
  have e8 : ((lN V).toUInt64 >>> ((nI 4).toInt64.toUInt64 &&& Int64.toUInt64 63)).toInt64 = lN (V / 16) := wb_shr (by omega) (by decide)
  have e9 : lN V + lN (V / 16) = lN (V + V / 16) := lN_add _ _
  have e10 : lN (V + V / 16) &&& lN (Mk 15 8) = lN (F3 8 V) := wb_and (by omega) b3
  obtain ⟨Y, eY⟩ : ∃ Y, Y = F3 8 V := ⟨_, rfl⟩
  rw [← eY] at e10
  obtain ⟨r1, r2, r3, r4, r5⟩ := p_all (X := X) (Y := Y) (Y1 := Y + Y / 256) (Y2 := (Y + Y / 256) + (Y + Y / 256) / 65536) (Y3 := ((Y + Y / 256) + (Y + Y / 256) / 65536) + ((Y + Y / 256) + (Y + Y / 256) / 65536) / 4294967296) hX (by rw [eY, eV, eZ]) rfl rfl rfl
  have e11 : ((lN Y).toUInt64 >>> ((nI 8).toInt64.toUInt64 &&& Int64.toUInt64 63)).toInt64 = lN (Y / 256) := wb_shr r5 (by decide)
  have e12 : lN Y + lN (Y / 256) = lN (Y + Y / 256) := lN_add _ _
  generalize Y + Y / 256 = Y1 at *
  have e13 : ((lN Y1).toUInt64 >>> ((nI 16).toInt64.toUInt64 &&& Int64.toUInt64 63)).toInt64 = lN (Y1 / 65536) := wb_shr r4 (by decide)
  have e14 : lN Y1 + lN (Y1 / 65536) = lN (Y1 + Y1 / 65536) := lN_add _ _
  generalize Y1 + Y1 / 65536 = Y2 at *
  have e15 : ((lN Y2).toUInt64 >>> ((nI 32).toInt64.toUInt64 &&& Int64.toUInt64 63)).toInt64 = lN (Y2 / 4294967296) := wb_shr r3 (by decide)
  have e16 : lN Y2 + lN (Y2 / 4294967296) = lN (Y2 + Y2 / 4294967296) := lN_add _ _
  generalize Y2 + Y2 / 4294967296 = Y3 at *
  have e17 : nI Y3 &&& nI 127 = nI (pop X 64) := by
    rw [k_and, ← r1]
    exact congrArg nI (Nat.and_two_pow_sub_one_eq_mod Y3 7)
  refine j_runs [] ok_Long_bitCount 60 ?_
  simp only [st_Long_bitCount, m1, m2, m3, e1, e2, e3, e4, e5, e6, e7, e8, e9, e10, e11, e12, e13, e14, e15, e16, lN_i, e17, j_k, List.mem_cons, List.not_mem_nil, or_false, or_self, if_false, if_true, ↓reduceIte, List.getElem?_cons_zero, List.getElem?_cons_succ, List.set_cons_zero, List.set_cons_succ, List.length_cons, List.length_nil, g_ld_s, g_v_s, g_ob_s, g_ia_s, g_la_s, g_qa_s, g_al_s, t_i_s, t_a_r, t_a_n, t_a_q, t_l_s, true_and, and_true, and_self, true_or, or_true, Decidable.not_not, not_true_eq_false, not_false_eq_true, false_implies, true_implies, implies_true, j_ok1_s, j_isL, j_cat_i, j_cat_l, j_cat_r, j_cat_n, j_rf_cat, j_rf_some, j_rf_none, k_w8_0, k_w8_i, k_w8_r, k_w8_l, k_sum0, k_ints, k_nari, k_narz0, k_narz1, k_okv0, k_okv1, k_okv2, k_okv2n, k_okv3, Option.toList_some, Option.toList_none, List.cons_append, List.nil_append, List.append_nil, List.map_cons, List.map_nil, List.sum_cons, List.sum_nil, Nat.add_zero, Nat.zero_add, Nat.reduceAdd, Nat.reduceMul, Nat.reduceSub, Nat.reduceDiv, Nat.reduceMod, Nat.reduceLT, Nat.reduceLeDiff, Nat.reduceEqDiff, Nat.reduceBEq, Nat.reduceBNe, Nat.one_ne_zero, Nat.zero_ne_one, Nat.succ_ne_self, Nat.le_refl, Nat.sub_self, Nat.sub_zero, Nat.zero_le, reduceCtorEq, eq_self, Bool.false_eq_true]
  exact h
def cSum (f : Nat → Int64) (r : Nat) : Nat → Nat
  | 0 => 0
  | k + 1 => cSum f r k + pop (f (8 * r + k)).toBitVec.toNat 64
theorem cSum_le (f : Nat → Int64) (r : Nat) : ∀ k, cSum f r k ≤ 64 * k
  | 0 => Nat.le_refl _
  | k + 1 => by
    have := cSum_le f r k
    have := pop_le (f (8 * r + k)).toBitVec.toNat 64
    unfold cSum
    omega
set_option maxHeartbeats 4000000 in
set_option maxRecDepth 100000 in
theorem sp_Packet_countEnded {w : jW} {p b r : Nat} {f : Nat → Int64} {x0 x1 : Value} {post : Option Value → jW → Prop} (hp : w p = some (.inr (6, [x0, x1, .ref b]))) (hb : w b = some (.inl (2, 64, .inr (.inl f)))) (hr : r < 8) (h : post (some (.int (nI (cSum f r 8)))) w) : j_sem m_Packet_countEnded [.ref p, .int (nI r)] w 0 0 post := by
  refine j_sem_of (by decide +kernel) (Nat.le_of_ble_eq_true rfl) ?_
  show j_S _ _ 0 [some (.ref p), some (.int (nI r)), none, none] [] _ 0 0
  have head : ∀ d k, k + d = 8 → j_S m_Packet_countEnded post 7 [some (.ref p), some (.int (nI r)), some (.int (nI (cSum f r k))), some (.int (nI (8 * r + k)))] [] w 0 0 := by
    intro d
    induction d with
    | zero =>
      intro k e
      have ek : k = 8 := by omega
      subst ek
      refine j_runs [] ok_Packet_countEnded 12 ?_
      simp (disch := first | omega | simp (disch := omega) only [sA_ne, sA_self]) only [st_Packet_countEnded, j_k, List.mem_cons, List.not_mem_nil, or_false, or_self, if_false, if_true, ↓reduceIte, List.getElem?_cons_zero, List.getElem?_cons_succ, List.set_cons_zero, List.set_cons_succ, List.length_cons, List.length_nil, g_ld_s, g_v_s, g_ob_s, g_ia_s, g_la_s, g_qa_s, g_al_s, t_i_s, t_a_r, t_a_n, t_a_q, t_l_s, true_and, and_true, and_self, true_or, or_true, Decidable.not_not, not_true_eq_false, not_false_eq_true, false_implies, true_implies, implies_true, j_ok1_s, j_isL, j_cat_i, j_cat_l, j_cat_r, j_cat_n, j_rf_cat, j_rf_some, j_rf_none, k_w8_0, k_w8_i, k_w8_r, k_w8_l, k_sum0, k_ints, k_nari, k_narz0, k_narz1, k_okv0, k_okv1, k_okv2, k_okv2n, k_okv3, Option.toList_some, Option.toList_none, List.cons_append, List.nil_append, List.append_nil, List.map_cons, List.map_nil, List.sum_cons, List.sum_nil, Nat.add_zero, Nat.zero_add, Nat.reduceAdd, Nat.reduceMul, Nat.reduceSub, Nat.reduceDiv, Nat.reduceMod, Nat.reduceLT, Nat.reduceLeDiff, Nat.reduceEqDiff, Nat.reduceBEq, Nat.reduceBNe, Nat.one_ne_zero, Nat.zero_ne_one, Nat.succ_ne_self, Nat.le_refl, Nat.sub_self, Nat.sub_zero, Nat.zero_le, reduceCtorEq, eq_self, Bool.false_eq_true, pk_mul, nI_add, k_in, nI_clamp, nI_eq, nI_ltI, nI_leI, k_upd, k_eq0, k_lt0, k_0le, k_0lt, k_le0, k_mod]
      exact ⟨fun _ => h, fun c => absurd (by omega) c⟩
    | succ d ih =>
      intro k e
      have := ih (k + 1) (by omega)
      refine j_runs [7] ok_Packet_countEnded 20 ?_
      simp (disch := first | omega | simp (disch := omega) only [sA_ne, sA_self]) only [st_Packet_countEnded, hp, hb, j_k, List.mem_cons, List.not_mem_nil, or_false, or_self, if_false, if_true, ↓reduceIte, List.getElem?_cons_zero, List.getElem?_cons_succ, List.set_cons_zero, List.set_cons_succ, List.length_cons, List.length_nil, g_ld_s, g_v_s, g_ob_s, g_ia_s, g_la_s, g_qa_s, g_al_s, t_i_s, t_a_r, t_a_n, t_a_q, t_l_s, true_and, and_true, and_self, true_or, or_true, Decidable.not_not, not_true_eq_false, not_false_eq_true, false_implies, true_implies, implies_true, j_ok1_s, j_isL, j_cat_i, j_cat_l, j_cat_r, j_cat_n, j_rf_cat, j_rf_some, j_rf_none, k_w8_0, k_w8_i, k_w8_r, k_w8_l, k_sum0, k_ints, k_nari, k_narz0, k_narz1, k_okv0, k_okv1, k_okv2, k_okv2n, k_okv3, Option.toList_some, Option.toList_none, List.cons_append, List.nil_append, List.append_nil, List.map_cons, List.map_nil, List.sum_cons, List.sum_nil, Nat.add_zero, Nat.zero_add, Nat.reduceAdd, Nat.reduceMul, Nat.reduceSub, Nat.reduceDiv, Nat.reduceMod, Nat.reduceLT, Nat.reduceLeDiff, Nat.reduceEqDiff, Nat.reduceBEq, Nat.reduceBNe, Nat.one_ne_zero, Nat.zero_ne_one, Nat.succ_ne_self, Nat.le_refl, Nat.sub_self, Nat.sub_zero, Nat.zero_le, reduceCtorEq, eq_self, Bool.false_eq_true, pk_mul, nI_add, k_in, nI_clamp, nI_eq, nI_ltI, nI_leI, k_upd, k_eq0, k_lt0, k_0le, k_0lt, k_le0, k_mod]
      refine ⟨fun c => absurd c (by omega), fun _ => ?_⟩
      refine g_call0 (sp_Long_bitCount ?_)
      simp (disch := first | omega | simp (disch := omega) only [sA_ne, sA_self]) only [st_Packet_countEnded, j_k, List.mem_cons, List.not_mem_nil, or_false, or_self, if_false, if_true, ↓reduceIte, List.getElem?_cons_zero, List.getElem?_cons_succ, List.set_cons_zero, List.set_cons_succ, List.length_cons, List.length_nil, g_ld_s, g_v_s, g_ob_s, g_ia_s, g_la_s, g_qa_s, g_al_s, t_i_s, t_a_r, t_a_n, t_a_q, t_l_s, true_and, and_true, and_self, true_or, or_true, Decidable.not_not, not_true_eq_false, not_false_eq_true, false_implies, true_implies, implies_true, j_ok1_s, j_isL, j_cat_i, j_cat_l, j_cat_r, j_cat_n, j_rf_cat, j_rf_some, j_rf_none, k_w8_0, k_w8_i, k_w8_r, k_w8_l, k_sum0, k_ints, k_nari, k_narz0, k_narz1, k_okv0, k_okv1, k_okv2, k_okv2n, k_okv3, Option.toList_some, Option.toList_none, List.cons_append, List.nil_append, List.append_nil, List.map_cons, List.map_nil, List.sum_cons, List.sum_nil, Nat.add_zero, Nat.zero_add, Nat.reduceAdd, Nat.reduceMul, Nat.reduceSub, Nat.reduceDiv, Nat.reduceMod, Nat.reduceLT, Nat.reduceLeDiff, Nat.reduceEqDiff, Nat.reduceBEq, Nat.reduceBNe, Nat.one_ne_zero, Nat.zero_ne_one, Nat.succ_ne_self, Nat.le_refl, Nat.sub_self, Nat.sub_zero, Nat.zero_le, reduceCtorEq, eq_self, Bool.false_eq_true, pk_mul, nI_add, k_in, nI_clamp, nI_eq, nI_ltI, nI_leI, k_upd, k_eq0, k_lt0, k_0le, k_0lt, k_le0, k_mod]
      exact this
  refine j_runs [7] ok_Packet_countEnded 12 ?_
  simp (disch := first | omega | simp (disch := omega) only [sA_ne, sA_self]) only [st_Packet_countEnded, j_k, List.mem_cons, List.not_mem_nil, or_false, or_self, if_false, if_true, ↓reduceIte, List.getElem?_cons_zero, List.getElem?_cons_succ, List.set_cons_zero, List.set_cons_succ, List.length_cons, List.length_nil, g_ld_s, g_v_s, g_ob_s, g_ia_s, g_la_s, g_qa_s, g_al_s, t_i_s, t_a_r, t_a_n, t_a_q, t_l_s, true_and, and_true, and_self, true_or, or_true, Decidable.not_not, not_true_eq_false, not_false_eq_true, false_implies, true_implies, implies_true, j_ok1_s, j_isL, j_cat_i, j_cat_l, j_cat_r, j_cat_n, j_rf_cat, j_rf_some, j_rf_none, k_w8_0, k_w8_i, k_w8_r, k_w8_l, k_sum0, k_ints, k_nari, k_narz0, k_narz1, k_okv0, k_okv1, k_okv2, k_okv2n, k_okv3, Option.toList_some, Option.toList_none, List.cons_append, List.nil_append, List.append_nil, List.map_cons, List.map_nil, List.sum_cons, List.sum_nil, Nat.add_zero, Nat.zero_add, Nat.reduceAdd, Nat.reduceMul, Nat.reduceSub, Nat.reduceDiv, Nat.reduceMod, Nat.reduceLT, Nat.reduceLeDiff, Nat.reduceEqDiff, Nat.reduceBEq, Nat.reduceBNe, Nat.one_ne_zero, Nat.zero_ne_one, Nat.succ_ne_self, Nat.le_refl, Nat.sub_self, Nat.sub_zero, Nat.zero_le, reduceCtorEq, eq_self, Bool.false_eq_true, pk_mul, nI_add, k_in, nI_clamp, nI_eq, nI_ltI, nI_leI, k_upd, k_eq0, k_lt0, k_0le, k_0lt, k_le0, k_mod]
  have := head 8 0 rfl
  rw [Nat.add_zero, Nat.mul_comm] at this
  exact this
theorem k_sbit {x : Int64} {k : Nat} (hk : k < 64) : ((x >>> ((nI k).toInt64 &&& 63)) &&& Int64.ofNat 1 = Int64.ofNat 1) ↔ x.toBitVec.getLsbD k = true := by
  rw [wb_c k hk, ← Int64.toBitVec_inj, Int64.toBitVec_and, Int64.toBitVec_shiftRight, wb_tb, wb_sm k hk]
  have e : x.toBitVec.sshiftRight' (BitVec.ofNat 64 k) = x.toBitVec.sshiftRight k := by
    rw [BitVec.sshiftRight_eq', BitVec.toNat_ofNat, Nat.mod_eq_of_lt (by omega)]
  rw [e]
  show x.toBitVec.sshiftRight k &&& 1#64 = 1#64 ↔ _
  constructor
  · intro h
    have t : (x.toBitVec.sshiftRight k &&& 1#64).getLsbD 0 = (1#64).getLsbD 0 := by rw [h]
    have e1 : (1#64).getLsbD 0 = true := by decide
    have e2 : decide (64 ≤ 0) = false := by decide
    rw [BitVec.getLsbD_and, BitVec.getLsbD_sshiftRight, if_pos (by omega), Nat.add_zero, e1, e2, Bool.and_true, Bool.not_false, Bool.true_and] at t
    exact t
  · intro h
    apply BitVec.eq_of_getLsbD_eq
    intro i hi
    rw [BitVec.getLsbD_and, BitVec.getLsbD_one]
    by_cases h0 : i = 0
    · subst h0
      simp [BitVec.getLsbD_sshiftRight, hk, h]
    · simp [h0]
theorem k_cmp0 {x y : Int64} : lg_cmp x y = 0 ↔ x = y := by
  unfold lg_cmp
  by_cases h : x = y
  · subst h
    simp
  · constructor
    · intro q
      exfalso
      revert q
      split <;> first | decide | (split <;> decide)
    · intro q
      exact absurd q h
set_option maxHeartbeats 4000000 in
set_option maxRecDepth 100000 in
theorem sp_Packet_hasEnded {w : jW} {p b r i : Nat} {f : Nat → Int64} {x0 x1 : Value} {post : Option Value → jW → Prop} (hp : w p = some (.inr (6, [x0, x1, .ref b]))) (hb : w b = some (.inl (2, 64, .inr (.inl f)))) (hr : r < 8) (hi : i < 512) (h1 : (f (8 * r + i / 64)).toBitVec.getLsbD (i % 64) = true → post (some (.int (nI 1))) w) (h0 : ¬ (f (8 * r + i / 64)).toBitVec.getLsbD (i % 64) = true → post (some (.int (nI 0))) w) : j_sem m_Packet_hasEnded [.ref p, .int (nI r), .int (nI i)] w 0 0 post := by
  refine j_sem_of (by decide +kernel) (Nat.le_of_ble_eq_true rfl) ?_
  show j_S _ _ 0 [some (.ref p), some (.int (nI r)), some (.int (nI i))] [] _ 0 0
  have hm : nI i - nI i / nI 64 * nI 64 = nI (i % 64) := by
    have : i / 64 * 64 ≤ i := Nat.div_mul_le_self _ _
    rw [k_div (by omega) (by decide) (by decide), pk_mul, pk_sub this, k_mod]
  have n64 : ¬ nI 64 = 0 := by decide
  refine j_runs [] ok_Packet_hasEnded 40 ?_
  simp (disch := first | omega | simp (disch := omega) only [sA_ne, sA_self]) only [st_Packet_hasEnded, hp, j_k, List.mem_cons, List.not_mem_nil, or_false, or_self, if_false, if_true, ↓reduceIte, List.getElem?_cons_zero, List.getElem?_cons_succ, List.set_cons_zero, List.set_cons_succ, List.length_cons, List.length_nil, g_ld_s, g_v_s, g_ob_s, g_ia_s, g_la_s, g_qa_s, g_al_s, t_i_s, t_a_r, t_a_n, t_a_q, t_l_s, true_and, and_true, and_self, true_or, or_true, Decidable.not_not, not_true_eq_false, not_false_eq_true, false_implies, true_implies, implies_true, j_ok1_s, j_isL, j_cat_i, j_cat_l, j_cat_r, j_cat_n, j_rf_cat, j_rf_some, j_rf_none, k_w8_0, k_w8_i, k_w8_r, k_w8_l, k_sum0, k_ints, k_nari, k_narz0, k_narz1, k_okv0, k_okv1, k_okv2, k_okv2n, k_okv3, Option.toList_some, Option.toList_none, List.cons_append, List.nil_append, List.append_nil, List.map_cons, List.map_nil, List.sum_cons, List.sum_nil, Nat.add_zero, Nat.zero_add, Nat.reduceAdd, Nat.reduceMul, Nat.reduceSub, Nat.reduceDiv, Nat.reduceMod, Nat.reduceLT, Nat.reduceLeDiff, Nat.reduceEqDiff, Nat.reduceBEq, Nat.reduceBNe, Nat.one_ne_zero, Nat.zero_ne_one, Nat.succ_ne_self, Nat.le_refl, Nat.sub_self, Nat.sub_zero, Nat.zero_le, reduceCtorEq, eq_self, Bool.false_eq_true]
  refine g_call0 (sp_Packet_word hr hi ?_)
  rw [Nat.mul_comm r 8]
  simp (disch := first | omega | simp (disch := omega) only [sA_ne, sA_self]) only [st_Packet_hasEnded, hb, hm, n64, k_cmp0, k_sbit (Nat.mod_lt i (show 0 < 64 by decide)), k_in, nI_clamp, j_k, List.mem_cons, List.not_mem_nil, or_false, or_self, if_false, if_true, ↓reduceIte, List.getElem?_cons_zero, List.getElem?_cons_succ, List.set_cons_zero, List.set_cons_succ, List.length_cons, List.length_nil, g_ld_s, g_v_s, g_ob_s, g_ia_s, g_la_s, g_qa_s, g_al_s, t_i_s, t_a_r, t_a_n, t_a_q, t_l_s, true_and, and_true, and_self, true_or, or_true, Decidable.not_not, not_true_eq_false, not_false_eq_true, false_implies, true_implies, implies_true, j_ok1_s, j_isL, j_cat_i, j_cat_l, j_cat_r, j_cat_n, j_rf_cat, j_rf_some, j_rf_none, k_w8_0, k_w8_i, k_w8_r, k_w8_l, k_sum0, k_ints, k_nari, k_narz0, k_narz1, k_okv0, k_okv1, k_okv2, k_okv2n, k_okv3, Option.toList_some, Option.toList_none, List.cons_append, List.nil_append, List.append_nil, List.map_cons, List.map_nil, List.sum_cons, List.sum_nil, Nat.add_zero, Nat.zero_add, Nat.reduceAdd, Nat.reduceMul, Nat.reduceSub, Nat.reduceDiv, Nat.reduceMod, Nat.reduceLT, Nat.reduceLeDiff, Nat.reduceEqDiff, Nat.reduceBEq, Nat.reduceBNe, Nat.one_ne_zero, Nat.zero_ne_one, Nat.succ_ne_self, Nat.le_refl, Nat.sub_self, Nat.sub_zero, Nat.zero_le, reduceCtorEq, eq_self, Bool.false_eq_true]
  exact ⟨fun c => h0 c, fun c => h1 c⟩
