/-! THE CLASS: new pieces and packets; copy, send -/
set_option maxHeartbeats 4000000 in
set_option maxRecDepth 100000 in
theorem sp_Net_addPiece {w : jW} {a0 ar n q : Nat} {f : Nat → Option Nat} {fs : List Value} {x0 x1 x2 x3 x5 x6 x7 : Value} {post : Option Value → jW → Prop} (h0 : w a0 = some (.inr (0, [x0, x1, x2, x3, .ref ar, x5, x6, x7, .int (nI n)]))) (hr : w ar = some (.inl (6, 80, qA f))) (hq : w q = some (.inr (7, fs))) (hn : n < 80) (h : post none (j_up (j_up w ar (.inl (6, 80, qA (va_up f n (some q))))) a0 (.inr (0, [x0, x1, x2, x3, .ref ar, x5, x6, x7, .int (nI (n + 1))])))) : j_sem m_Net_addPiece [.ref a0, .ref q] w 0 0 post := by
  refine j_sem_of (by decide +kernel) (Nat.le_of_ble_eq_true rfl) ?_
  show j_S _ _ 0 [some (.ref a0), some (.ref q)] [] _ 0 0
  have n0 : a0 ≠ ar := by rintro rfl; rw [h0] at hr; cases hr
  refine j_runs [] ok_Net_addPiece 40 ?_
  simp (disch := first | omega | simp (disch := omega) only [sA_ne, sA_self]) only [st_Net_addPiece, h0, hr, hq, j_up_ne _ _ n0, j_k, List.mem_cons, List.not_mem_nil, or_false, or_self, if_false, if_true, ↓reduceIte, List.getElem?_cons_zero, List.getElem?_cons_succ, List.set_cons_zero, List.set_cons_succ, List.length_cons, List.length_nil, g_ld_s, g_v_s, g_ob_s, g_ia_s, g_la_s, g_qa_s, g_al_s, t_i_s, t_a_r, t_a_n, t_a_q, t_l_s, true_and, and_true, and_self, true_or, or_true, Decidable.not_not, not_true_eq_false, not_false_eq_true, false_implies, true_implies, implies_true, j_ok1_s, j_isL, j_cat_i, j_cat_l, j_cat_r, j_cat_n, j_rf_cat, j_rf_some, j_rf_none, k_w8_0, k_w8_i, k_w8_r, k_w8_l, k_sum0, k_ints, k_nari, k_narz0, k_narz1, k_okv0, k_okv1, k_okv2, k_okv2n, k_okv3, Option.toList_some, Option.toList_none, List.cons_append, List.nil_append, List.append_nil, List.map_cons, List.map_nil, List.sum_cons, List.sum_nil, Nat.add_zero, Nat.zero_add, Nat.reduceAdd, Nat.reduceMul, Nat.reduceSub, Nat.reduceDiv, Nat.reduceMod, Nat.reduceLT, Nat.reduceLeDiff, Nat.reduceEqDiff, Nat.reduceBEq, Nat.reduceBNe, Nat.one_ne_zero, Nat.zero_ne_one, Nat.succ_ne_self, Nat.le_refl, Nat.sub_self, Nat.sub_zero, Nat.zero_le, reduceCtorEq, eq_self, Bool.false_eq_true, pk_mul, nI_add, k_in, nI_clamp, nI_eq, nI_ltI, nI_leI, k_upd, k_eq0, k_lt0, k_0le, k_0lt, k_le0, k_mod]
  exact h
/-- a new piece in the class's world -/
theorem cW_piece {S X : Nat → Nat → Nat} {B : Nat → Nat → Int64} {A : Nat → Nat → Int32} {ad : Nat → Nat → Nat} {a b c d e q : Nat} (hI : n_inj (cAl S) ad) (hC : cI S X) (hz : S 23 (6 * (S 22 0 + 1) + 5) = 0) (h0 : cW S X B A ad q = none) : ∃ ad', n_inj (cAl (rAdd S a b c d e)) ad' ∧ (∀ k i, cAl S k i → ad' k i = ad k i) ∧
    j_up (j_up (j_up (cW S X B A ad) q (.inr (7, [.int (nI a), .int (nI b), .int (nI c), .int (nI d), .int (nI e), .int (nI 0)]))) (ad 12 0) (.inl (6, 80, qA (va_up (cRow (S 22 0) (ad 13)) (S 22 0) (some q))))) (ad 0 0) (.inr (0, [.int (nI (S 0 0)), .ref (ad 1 0), .ref (ad 5 0), .ref (ad 9 0), .ref (ad 12 0), .ref (ad 14 0), .int (nI (S 1 0)), .int (nI (S 18 0)), .int (nI (S 22 0 + 1))])) = cW (rAdd S a b c d e) X B A ad' := by
  have f0 := nW_none.mp h0
  let ad' : Nat → Nat → Nat := n_up ad 13 (S 22 0) q
  have d0 : ¬ cAl S 13 (S 22 0) := fun z => Nat.lt_irrefl _ z
  have u0 : ad' 13 (S 22 0) = q := n_up_self _ _ _ _
  have aad : ∀ k i, cAl S k i → ad' k i = ad k i := by
    intro k i hk
    show n_up ad 13 (S 22 0) q k i = ad k i
    rw [n_up_ne]
    rintro ⟨rfl, rfl⟩; exact d0 hk
  obtain ⟨hI', ew⟩ := cW_ad (S := S) (X := X) (B := B) (A := A) (ad := ad) (ad' := ad') hI hC.2.2.2.1 hC.2.2.1 aad
  have i0 : n_inj (fun x y => cAl S x y ∨ (x = 13 ∧ y = S 22 0)) ad' := by
    refine n_inj_ext hI' (fun x y hxy => ?_)
    rw [aad x y hxy, u0]
    exact f0 x y hxy
  have al50 : cAl S 12 0 := rfl
  have al00 : cAl S 0 0 := rfl
  have i5 : n_inj (fun x y => (cAl S x y ∨ (x = 13 ∧ y = S 22 0)) ∨ (x = 12 ∧ y = 0)) ad' := by
    refine n_inj_congr (fun x y hxy => ?_) i0
    rcases hxy with hxy | ⟨rfl, rfl⟩
    · exact hxy
    · exact Or.inl al50
  have i6 : n_inj (fun x y => ((cAl S x y ∨ (x = 13 ∧ y = S 22 0)) ∨ (x = 12 ∧ y = 0)) ∨ (x = 0 ∧ y = 0)) ad' := by
    refine n_inj_congr (fun x y hxy => ?_) i5
    rcases hxy with hxy | ⟨rfl, rfl⟩
    · exact hxy
    · exact Or.inl (Or.inl al00)
  have e1 : rAdd S a b c d e 22 0 = S 22 0 + 1 := rfl
  have hal : ∀ k i, (((cAl S k i ∨ (k = 13 ∧ i = S 22 0)) ∨ (k = 12 ∧ i = 0)) ∨ (k = 0 ∧ i = 0)) ↔ cAl (rAdd S a b c d e) k i := by
    intro k i
    by_cases k6 : k = 13
    · subst k6
      show (((i < S 22 0 ∨ (13 = 13 ∧ i = S 22 0)) ∨ (13 = 12 ∧ i = 0)) ∨ (13 = 0 ∧ i = 0)) ↔ i < rAdd S a b c d e 22 0
      rw [e1]
      omega
    · have e : cAl S k i ↔ cAl (rAdd S a b c d e) k i := by
        unfold cAl
        split <;> first | exact Iff.rfl | exact absurd rfl k6
      rw [← e]
      constructor
      · rintro (((z | z) | z) | z)
        · exact z
        · exact absurd z.1 k6
        · rw [z.1, z.2]; exact al50
        · rw [z.1, z.2]; exact al00
      · exact fun z => Or.inl (Or.inl (Or.inl z))
  refine ⟨ad', n_inj_congr (fun k i hk => (hal k i).mpr hk) i6, aad, ?_⟩
  rw [ew, ← aad 0 0 rfl, ← aad 1 0 rfl, ← aad 5 0 rfl, ← aad 9 0 rfl, ← aad 12 0 rfl, ← aad 14 0 rfl]
  unfold cW
  rw [← u0, nW_up _ i0, nW_up _ i5, nW_up _ i6]
  refine nW_congr i6 hal (fun _ _ _ => rfl) (fun k i hk => ?_)
  by_cases c0 : k = 0 ∧ i = 0
  · obtain ⟨rfl, rfl⟩ := c0
    rw [n_up_self]
    rfl
  rw [n_up_ne _ _ c0]
  by_cases c5 : k = 12 ∧ i = 0
  · obtain ⟨rfl, rfl⟩ := c5
    rw [n_up_self]
    show (Sum.inl (6, 80, qA (va_up (cRow (S 22 0) (ad 13)) (S 22 0) (some (ad' 13 (S 22 0))))) : jE) = Sum.inl (6, 80, qA (cRow (S 22 0 + 1) (ad' 13)))
    have : va_up (cRow (S 22 0) (ad 13)) (S 22 0) (some (ad' 13 (S 22 0))) = cRow (S 22 0 + 1) (ad' 13) := by
      funext j
      rw [va_up_c]
      unfold cRow
      by_cases hj : j = S 22 0
      · rw [if_pos hj, if_pos (by omega), hj]
      · rw [if_neg hj]
        by_cases hj2 : j < S 22 0
        · rw [if_pos hj2, if_pos (by omega), aad 13 j hj2]
        · rw [if_neg hj2, if_neg (by omega)]
    rw [this]
  rw [n_up_ne _ _ c5]
  have e23 : rAdd S a b c d e 23 = va_up (va_up (va_up (va_up (va_up (S 23) (6 * (S 22 0 + 1)) a) (6 * (S 22 0 + 1) + 1) b) (6 * (S 22 0 + 1) + 2) c) (6 * (S 22 0 + 1) + 3) d) (6 * (S 22 0 + 1) + 4) e := rfl
  by_cases c6 : k = 13 ∧ i = S 22 0
  · obtain ⟨rfl, rfl⟩ := c6
    rw [n_up_self]
    show _ = (Sum.inr (7, [.int (nI (rAdd S a b c d e 23 (6 * (S 22 0 + 1)))), .int (nI (rAdd S a b c d e 23 (6 * (S 22 0 + 1) + 1))), .int (nI (rAdd S a b c d e 23 (6 * (S 22 0 + 1) + 2))), .int (nI (rAdd S a b c d e 23 (6 * (S 22 0 + 1) + 3))), .int (nI (rAdd S a b c d e 23 (6 * (S 22 0 + 1) + 4))), .int (nI (rAdd S a b c d e 23 (6 * (S 22 0 + 1) + 5)))]) : jE)
    rw [e23]
    simp (disch := omega) only [va_up_self, va_up_ne, hz]
  rw [n_up_ne _ _ c6]
  have hk' : cAl S k i := by
    rcases hk with ((z | z) | z) | z
    · exact z
    · exact absurd z c6
    · exact absurd z c5
    · exact absurd z c0
  unfold cCt
  split <;> first | rfl | exact absurd ⟨rfl, hk'⟩ c0 | exact absurd ⟨rfl, hk'⟩ c5 | skip
  have hi : i < S 22 0 := hk'
  rw [e23]
  simp (disch := omega) only [va_up_self, va_up_ne]
/-- a new packet in the class's world -/
theorem cW_packet {S X : Nat → Nat → Nat} {B : Nat → Nat → Int64} {A : Nat → Nat → Int32} {ad : Nat → Nat → Nat} {x n z q q1 : Nat} (hI : n_inj (cAl S) ad) (hC : cI S X) (h0 : cW S X B A ad q = none) (h1 : cW S X B A ad q1 = none) (m1 : q ≠ q1) : ∃ ad', n_inj (cAl (rSnd1 S x n z)) ad' ∧ (∀ k i, cAl S k i → ad' k i = ad k i) ∧
    j_up (j_up (j_up (j_up (cW S X B A ad) q1 (.inl (2, 64, .inr (.inl (fun _ => 0))))) q (.inr (6, [.int (nI x), .int (nI z), .ref q1]))) (ad 9 0) (.inl (5, 12, qA (va_up (cRow (S 18 0) (ad 10)) (S 18 0) (some q))))) (ad 0 0) (.inr (0, [.int (nI (S 0 0)), .ref (ad 1 0), .ref (ad 5 0), .ref (ad 9 0), .ref (ad 12 0), .ref (ad 14 0), .int (nI (S 1 0)), .int (nI (S 18 0 + 1)), .int (nI (S 22 0))])) = cW (rSnd1 S x n z) X (va_up B (S 18 0) (fun _ => 0)) A ad' := by
  have f0 := nW_none.mp h0
  have f1 := nW_none.mp h1
  let ad' : Nat → Nat → Nat := n_up (n_up ad 10 (S 18 0) q) 11 (S 18 0) q1
  have d0 : ¬ cAl S 10 (S 18 0) := fun z => Nat.lt_irrefl _ z
  have d1 : ¬ cAl S 11 (S 18 0) := fun z => Nat.lt_irrefl _ z
  have u1 : ad' 11 (S 18 0) = q1 := n_up_self _ _ _ _
  have u0 : ad' 10 (S 18 0) = q := (n_up_ne _ _ (by omega)).trans (n_up_self _ _ _ _)
  have aad : ∀ k i, cAl S k i → ad' k i = ad k i := by
    intro k i hk
    show n_up (n_up ad 10 (S 18 0) q) 11 (S 18 0) q1 k i = ad k i
    rw [n_up_ne, n_up_ne]
    · rintro ⟨rfl, rfl⟩; exact d0 hk
    · rintro ⟨rfl, rfl⟩; exact d1 hk
  obtain ⟨hI', ew⟩ := cW_ad (S := S) (X := X) (B := B) (A := A) (ad := ad) (ad' := ad') hI hC.2.2.2.1 hC.2.2.1 aad
  have i1 : n_inj (fun x y => cAl S x y ∨ (x = 11 ∧ y = S 18 0)) ad' := by
    refine n_inj_ext hI' (fun x y hxy => ?_)
    rw [aad x y hxy, u1]
    exact f1 x y hxy
  have i0 : n_inj (fun x y => (cAl S x y ∨ (x = 11 ∧ y = S 18 0)) ∨ (x = 10 ∧ y = S 18 0)) ad' := by
    refine n_inj_ext i1 (fun x y hxy => ?_)
    rcases hxy with hxy | ⟨rfl, rfl⟩
    · rw [aad x y hxy, u0]
      exact f0 x y hxy
    · rw [u0, u1]; exact m1.symm
  have al50 : cAl S 9 0 := rfl
  have al00 : cAl S 0 0 := rfl
  have i5 : n_inj (fun x y => ((cAl S x y ∨ (x = 11 ∧ y = S 18 0)) ∨ (x = 10 ∧ y = S 18 0)) ∨ (x = 9 ∧ y = 0)) ad' := by
    refine n_inj_congr (fun x y hxy => ?_) i0
    rcases hxy with hxy | ⟨rfl, rfl⟩
    · exact hxy
    · exact Or.inl (Or.inl al50)
  have i6 : n_inj (fun x y => (((cAl S x y ∨ (x = 11 ∧ y = S 18 0)) ∨ (x = 10 ∧ y = S 18 0)) ∨ (x = 9 ∧ y = 0)) ∨ (x = 0 ∧ y = 0)) ad' := by
    refine n_inj_congr (fun x y hxy => ?_) i5
    rcases hxy with hxy | ⟨rfl, rfl⟩
    · exact hxy
    · exact Or.inl (Or.inl (Or.inl al00))
  have e1 : rSnd1 S x n z 18 0 = S 18 0 + 1 := rfl
  have hal : ∀ k i, ((((cAl S k i ∨ (k = 11 ∧ i = S 18 0)) ∨ (k = 10 ∧ i = S 18 0)) ∨ (k = 9 ∧ i = 0)) ∨ (k = 0 ∧ i = 0)) ↔ cAl (rSnd1 S x n z) k i := by
    intro k i
    by_cases k6 : k = 10
    · subst k6
      show ((((i < S 18 0 ∨ (10 = 11 ∧ i = S 18 0)) ∨ (10 = 10 ∧ i = S 18 0)) ∨ (10 = 9 ∧ i = 0)) ∨ (10 = 0 ∧ i = 0)) ↔ i < rSnd1 S x n z 18 0
      rw [e1]
      omega
    · by_cases k7 : k = 11
      · subst k7
        show ((((i < S 18 0 ∨ (11 = 11 ∧ i = S 18 0)) ∨ (11 = 10 ∧ i = S 18 0)) ∨ (11 = 9 ∧ i = 0)) ∨ (11 = 0 ∧ i = 0)) ↔ i < rSnd1 S x n z 18 0
        rw [e1]
        omega
      · have e : cAl S k i ↔ cAl (rSnd1 S x n z) k i := by
          unfold cAl
          split <;> first | exact Iff.rfl | exact absurd rfl k6 | exact absurd rfl k7
        rw [← e]
        constructor
        · rintro ((((z | z) | z) | z) | z)
          · exact z
          · exact absurd z.1 k7
          · exact absurd z.1 k6
          · rw [z.1, z.2]; exact al50
          · rw [z.1, z.2]; exact al00
        · exact fun z => Or.inl (Or.inl (Or.inl (Or.inl z)))
  refine ⟨ad', n_inj_congr (fun k i hk => (hal k i).mpr hk) i6, aad, ?_⟩
  rw [ew, ← aad 0 0 rfl, ← aad 1 0 rfl, ← aad 5 0 rfl, ← aad 9 0 rfl, ← aad 12 0 rfl, ← aad 14 0 rfl]
  unfold cW
  rw [← u1, nW_up _ i1, ← u0, nW_up _ i0, nW_up _ i5, nW_up _ i6]
  refine nW_congr i6 hal (fun _ _ _ => rfl) (fun k i hk => ?_)
  by_cases c0 : k = 0 ∧ i = 0
  · obtain ⟨rfl, rfl⟩ := c0
    rw [n_up_self]
    rfl
  rw [n_up_ne _ _ c0]
  by_cases c5 : k = 9 ∧ i = 0
  · obtain ⟨rfl, rfl⟩ := c5
    rw [n_up_self]
    show (Sum.inl (5, 12, qA (va_up (cRow (S 18 0) (ad 10)) (S 18 0) (some (ad' 10 (S 18 0))))) : jE) = Sum.inl (5, 12, qA (cRow (S 18 0 + 1) (ad' 10)))
    have : va_up (cRow (S 18 0) (ad 10)) (S 18 0) (some (ad' 10 (S 18 0))) = cRow (S 18 0 + 1) (ad' 10) := by
      funext j
      rw [va_up_c]
      unfold cRow
      by_cases hj : j = S 18 0
      · rw [if_pos hj, if_pos (by omega), hj]
      · rw [if_neg hj]
        by_cases hj2 : j < S 18 0
        · rw [if_pos hj2, if_pos (by omega), aad 10 j hj2]
        · rw [if_neg hj2, if_neg (by omega)]
    rw [this]
  rw [n_up_ne _ _ c5]
  have e20 : rSnd1 S x n z 20 = va_up (S 20) (S 18 0 + 1) x := rfl
  have e21 : rSnd1 S x n z 21 = va_up (S 21) (S 18 0 + 1) z := rfl
  by_cases c6 : k = 10 ∧ i = S 18 0
  · obtain ⟨rfl, rfl⟩ := c6
    rw [n_up_self]
    show _ = (Sum.inr (6, [.int (nI (rSnd1 S x n z 20 (S 18 0 + 1))), .int (nI (rSnd1 S x n z 21 (S 18 0 + 1))), .ref (ad' 11 (S 18 0))]) : jE)
    rw [e20, e21, va_up_self, va_up_self]
  rw [n_up_ne _ _ c6]
  by_cases c7 : k = 11 ∧ i = S 18 0
  · obtain ⟨rfl, rfl⟩ := c7
    rw [n_up_self]
    show _ = (Sum.inl (2, 64, .inr (.inl (va_up B (S 18 0) (fun _ => 0) (S 18 0)))) : jE)
    rw [va_up_self]
  rw [n_up_ne _ _ c7]
  have hk' : cAl S k i := by
    rcases hk with (((z | z) | z) | z) | z
    · exact z
    · exact absurd z c7
    · exact absurd z c6
    · exact absurd z c5
    · exact absurd z c0
  unfold cCt
  split <;> first | rfl | exact absurd ⟨rfl, hk'⟩ c0 | exact absurd ⟨rfl, hk'⟩ c5 | skip
  · have hi : i < S 18 0 := hk'
    rw [e20, e21, va_up_ne _ _ (by omega), va_up_ne _ _ (by omega)]
  · have hi : i < S 18 0 := hk'
    rw [va_up_ne _ _ (by omega)]
set_option maxHeartbeats 4000000 in
set_option maxRecDepth 100000 in
theorem sp_Packet_init {w : jW} {a z : Nat} {x : Int32} {x0 x1 x2 : Value} {post : Option Value → jW → Prop} (ha : w a = some (.inr (6, [x0, x1, x2]))) (hz : z ≤ 1) (h : ∀ q, w q = none → post none (j_up (j_up w q (.inl (2, 64, .inr (.inl (fun _ => 0))))) a (.inr (6, [.int x, .int (nI z), .ref q])))) : j_sem m_Packet_init [.ref a, .int x, .int (nI z)] w 1 64 post := by
  refine j_sem_of (by decide +kernel) (Nat.le_of_ble_eq_true rfl) ?_
  show j_S _ _ 0 [some (.ref a), some (.int x), some (.int (nI z))] [] _ 1 64
  have n20 : ¬ nI 64 < 0 := nI_pos (by decide)
  have c20 : (nI 64).toNatClampNeg = 64 := nI_clamp (by decide)
  have hz0 : nI z = 0 ∨ nI z = 1 := by
    have : z = 0 ∨ z = 1 := by omega
    rcases this with rfl | rfl
    · exact Or.inl rfl
    · exact Or.inr rfl
  refine j_runs [] ok_Packet_init 40 ?_
  simp (disch := first | omega | simp (disch := omega) only [sA_ne, sA_self]) only [st_Packet_init, n20, c20, j_k, List.mem_cons, List.not_mem_nil, or_false, or_self, if_false, if_true, ↓reduceIte, List.getElem?_cons_zero, List.getElem?_cons_succ, List.set_cons_zero, List.set_cons_succ, List.length_cons, List.length_nil, g_ld_s, g_v_s, g_ob_s, g_ia_s, g_la_s, g_qa_s, g_al_s, t_i_s, t_a_r, t_a_n, t_a_q, t_l_s, true_and, and_true, and_self, true_or, or_true, Decidable.not_not, not_true_eq_false, not_false_eq_true, false_implies, true_implies, implies_true, j_ok1_s, j_isL, j_cat_i, j_cat_l, j_cat_r, j_cat_n, j_rf_cat, j_rf_some, j_rf_none, k_w8_0, k_w8_i, k_w8_r, k_w8_l, k_sum0, k_ints, k_nari, k_narz0, k_narz1, k_okv0, k_okv1, k_okv2, k_okv2n, k_okv3, Option.toList_some, Option.toList_none, List.cons_append, List.nil_append, List.append_nil, List.map_cons, List.map_nil, List.sum_cons, List.sum_nil, Nat.add_zero, Nat.zero_add, Nat.reduceAdd, Nat.reduceMul, Nat.reduceSub, Nat.reduceDiv, Nat.reduceMod, Nat.reduceLT, Nat.reduceLeDiff, Nat.reduceEqDiff, Nat.reduceBEq, Nat.reduceBNe, Nat.one_ne_zero, Nat.zero_ne_one, Nat.succ_ne_self, Nat.le_refl, Nat.sub_self, Nat.sub_zero, Nat.zero_le, reduceCtorEq, eq_self, Bool.false_eq_true]
  intro q hq
  have hqa : a ≠ q := by rintro rfl; rw [ha] at hq; cases hq
  simp (disch := first | omega | simp (disch := omega) only [sA_ne, sA_self]) only [st_Packet_init, j_up_ne _ _ hqa, ha, j_up_self, j_up_up, k_nb, hz0, j_k, List.mem_cons, List.not_mem_nil, or_false, or_self, if_false, if_true, ↓reduceIte, List.getElem?_cons_zero, List.getElem?_cons_succ, List.set_cons_zero, List.set_cons_succ, List.length_cons, List.length_nil, g_ld_s, g_v_s, g_ob_s, g_ia_s, g_la_s, g_qa_s, g_al_s, t_i_s, t_a_r, t_a_n, t_a_q, t_l_s, true_and, and_true, and_self, true_or, or_true, Decidable.not_not, not_true_eq_false, not_false_eq_true, false_implies, true_implies, implies_true, j_ok1_s, j_isL, j_cat_i, j_cat_l, j_cat_r, j_cat_n, j_rf_cat, j_rf_some, j_rf_none, k_w8_0, k_w8_i, k_w8_r, k_w8_l, k_sum0, k_ints, k_nari, k_narz0, k_narz1, k_okv0, k_okv1, k_okv2, k_okv2n, k_okv3, Option.toList_some, Option.toList_none, List.cons_append, List.nil_append, List.append_nil, List.map_cons, List.map_nil, List.sum_cons, List.sum_nil, Nat.add_zero, Nat.zero_add, Nat.reduceAdd, Nat.reduceMul, Nat.reduceSub, Nat.reduceDiv, Nat.reduceMod, Nat.reduceLT, Nat.reduceLeDiff, Nat.reduceEqDiff, Nat.reduceBEq, Nat.reduceBNe, Nat.one_ne_zero, Nat.zero_ne_one, Nat.succ_ne_self, Nat.le_refl, Nat.sub_self, Nat.sub_zero, Nat.zero_le, reduceCtorEq, eq_self, Bool.false_eq_true]
  exact h q hq
set_option maxHeartbeats 4000000 in
set_option maxRecDepth 100000 in
theorem sp_Net_copy {S X : Nat → Nat → Nat} {B : Nat → Nat → Int64} {A : Nat → Nat → Int32} {ad : Nat → Nat → Nat} {v : Int32} {post : Option Value → jW → Prop} (hI : n_inj (cAl S) ad) (hS : rOK S) (hC : cI S X) (hP : rPc S) (h : ∀ ad', n_inj (cAl (rCopy S v).2) ad' → ad' 0 0 = ad 0 0 → post (some (.int (rCopy S v).1)) (cW (rCopy S v).2 X B A ad')) : j_sem m_Net_copy [.ref (ad 0 0), .int v] (cW S X B A ad) 1 6 post := by
  refine j_sem_of (by decide +kernel) (Nat.le_of_ble_eq_true rfl) ?_
  show j_S _ _ 0 [some (.ref (ad 0 0)), some (.int v), none] [] _ 1 6
  have h22 : S 22 0 ≤ 80 := hS 22 0
  refine j_runs [] ok_Net_copy 80 ?_
  simp (disch := first | omega | simp (disch := omega) only [sA_ne, sA_self]) only [st_Net_copy, cg0 hI, j_k, List.mem_cons, List.not_mem_nil, or_false, or_self, if_false, if_true, ↓reduceIte, List.getElem?_cons_zero, List.getElem?_cons_succ, List.set_cons_zero, List.set_cons_succ, List.length_cons, List.length_nil, g_ld_s, g_v_s, g_ob_s, g_ia_s, g_la_s, g_qa_s, g_al_s, t_i_s, t_a_r, t_a_n, t_a_q, t_l_s, true_and, and_true, and_self, true_or, or_true, Decidable.not_not, not_true_eq_false, not_false_eq_true, false_implies, true_implies, implies_true, j_ok1_s, j_isL, j_cat_i, j_cat_l, j_cat_r, j_cat_n, j_rf_cat, j_rf_some, j_rf_none, k_w8_0, k_w8_i, k_w8_r, k_w8_l, k_sum0, k_ints, k_nari, k_narz0, k_narz1, k_okv0, k_okv1, k_okv2, k_okv2n, k_okv3, Option.toList_some, Option.toList_none, List.cons_append, List.nil_append, List.append_nil, List.map_cons, List.map_nil, List.sum_cons, List.sum_nil, Nat.add_zero, Nat.zero_add, Nat.reduceAdd, Nat.reduceMul, Nat.reduceSub, Nat.reduceDiv, Nat.reduceMod, Nat.reduceLT, Nat.reduceLeDiff, Nat.reduceEqDiff, Nat.reduceBEq, Nat.reduceBNe, Nat.one_ne_zero, Nat.zero_ne_one, Nat.succ_ne_self, Nat.le_refl, Nat.sub_self, Nat.sub_zero, Nat.zero_le, reduceCtorEq, eq_self, Bool.false_eq_true]
  unfold rCopy at h
  refine g_call0 (sp_Net_isMoving hI hS (fun c => ?_) (fun c => ?_))
  · rw [if_pos c] at h
    obtain ⟨i, hi, rfl, hN⟩ := k_pc h22 c.1
    rw [hN] at h
    have ei : i + 1 - 1 = i := by omega
    simp (disch := first | omega | simp (disch := omega) only [sA_ne, sA_self]) only [st_Net_copy, cg0 hI, cg12 hI, cg13 hI hi, cRow_lt, pk_sub, ei, j_k, List.mem_cons, List.not_mem_nil, or_false, or_self, if_false, if_true, ↓reduceIte, List.getElem?_cons_zero, List.getElem?_cons_succ, List.set_cons_zero, List.set_cons_succ, List.length_cons, List.length_nil, g_ld_s, g_v_s, g_ob_s, g_ia_s, g_la_s, g_qa_s, g_al_s, t_i_s, t_a_r, t_a_n, t_a_q, t_l_s, true_and, and_true, and_self, true_or, or_true, Decidable.not_not, not_true_eq_false, not_false_eq_true, false_implies, true_implies, implies_true, j_ok1_s, j_isL, j_cat_i, j_cat_l, j_cat_r, j_cat_n, j_rf_cat, j_rf_some, j_rf_none, k_w8_0, k_w8_i, k_w8_r, k_w8_l, k_sum0, k_ints, k_nari, k_narz0, k_narz1, k_okv0, k_okv1, k_okv2, k_okv2n, k_okv3, Option.toList_some, Option.toList_none, List.cons_append, List.nil_append, List.append_nil, List.map_cons, List.map_nil, List.sum_cons, List.sum_nil, Nat.add_zero, Nat.zero_add, Nat.reduceAdd, Nat.reduceMul, Nat.reduceSub, Nat.reduceDiv, Nat.reduceMod, Nat.reduceLT, Nat.reduceLeDiff, Nat.reduceEqDiff, Nat.reduceBEq, Nat.reduceBNe, Nat.one_ne_zero, Nat.zero_ne_one, Nat.succ_ne_self, Nat.le_refl, Nat.sub_self, Nat.sub_zero, Nat.zero_le, reduceCtorEq, eq_self, Bool.false_eq_true, pk_mul, nI_add, k_in, nI_clamp, nI_eq, nI_ltI, nI_leI, k_upd, k_eq0, k_lt0, k_0le, k_0lt, k_le0, k_mod]
    refine ⟨fun c80 => ?_, fun c80 => ?_⟩
    · rw [if_neg c80] at h
      refine g_calln (mc := 1) (ms := 6) (by decide) (by decide) (sp_Piece_part (cg13 hI hi) (fun q hq => ?_))
      obtain ⟨ad', k1, k2, k3⟩ := cW_piece (a := S 23 (6 * (i + 1))) (b := S 23 (6 * (i + 1) + 1)) (c := S 23 (6 * (i + 1) + 2)) (d := S 23 (6 * (i + 1) + 3)) (e := S 23 (6 * (i + 1) + 4)) hI hC (hP.2.2 _ (by omega)) hq
      have ne0 : ad 0 0 ≠ q := by rintro rfl; rw [cg0 hI] at hq; cases hq
      have ne12 : ad 12 0 ≠ q := by rintro rfl; rw [cg12 hI] at hq; cases hq
      simp (disch := first | omega | simp (disch := omega) only [sA_ne, sA_self]) only [st_Net_copy, j_up_ne _ _ ne0, cg0 hI, j_k, List.mem_cons, List.not_mem_nil, or_false, or_self, if_false, if_true, ↓reduceIte, List.getElem?_cons_zero, List.getElem?_cons_succ, List.set_cons_zero, List.set_cons_succ, List.length_cons, List.length_nil, g_ld_s, g_v_s, g_ob_s, g_ia_s, g_la_s, g_qa_s, g_al_s, t_i_s, t_a_r, t_a_n, t_a_q, t_l_s, true_and, and_true, and_self, true_or, or_true, Decidable.not_not, not_true_eq_false, not_false_eq_true, false_implies, true_implies, implies_true, j_ok1_s, j_isL, j_cat_i, j_cat_l, j_cat_r, j_cat_n, j_rf_cat, j_rf_some, j_rf_none, k_w8_0, k_w8_i, k_w8_r, k_w8_l, k_sum0, k_ints, k_nari, k_narz0, k_narz1, k_okv0, k_okv1, k_okv2, k_okv2n, k_okv3, Option.toList_some, Option.toList_none, List.cons_append, List.nil_append, List.append_nil, List.map_cons, List.map_nil, List.sum_cons, List.sum_nil, Nat.add_zero, Nat.zero_add, Nat.reduceAdd, Nat.reduceMul, Nat.reduceSub, Nat.reduceDiv, Nat.reduceMod, Nat.reduceLT, Nat.reduceLeDiff, Nat.reduceEqDiff, Nat.reduceBEq, Nat.reduceBNe, Nat.one_ne_zero, Nat.zero_ne_one, Nat.succ_ne_self, Nat.le_refl, Nat.sub_self, Nat.sub_zero, Nat.zero_le, reduceCtorEq, eq_self, Bool.false_eq_true, pk_mul, nI_add, k_in, nI_clamp, nI_eq, nI_ltI, nI_leI, k_upd, k_eq0, k_lt0, k_0le, k_0lt, k_le0, k_mod]
      refine g_call0 (sp_Net_addPiece ((j_up_ne _ _ ne0).trans (cg0 hI)) ((j_up_ne _ _ ne12).trans (cg12 hI)) (j_up_self _ _ _) (by omega) ?_)
      rw [k3, ← k2 0 0 rfl]
      have g0 := cg0 (X := X) (B := B) (A := A) k1
      have e1 : rAdd S (S 23 (6 * (i + 1))) (S 23 (6 * (i + 1) + 1)) (S 23 (6 * (i + 1) + 2)) (S 23 (6 * (i + 1) + 3)) (S 23 (6 * (i + 1) + 4)) 22 0 = S 22 0 + 1 := rfl
      rw [e1] at g0
      simp (disch := first | omega | simp (disch := omega) only [sA_ne, sA_self]) only [st_Net_copy, g0, j_k, List.mem_cons, List.not_mem_nil, or_false, or_self, if_false, if_true, ↓reduceIte, List.getElem?_cons_zero, List.getElem?_cons_succ, List.set_cons_zero, List.set_cons_succ, List.length_cons, List.length_nil, g_ld_s, g_v_s, g_ob_s, g_ia_s, g_la_s, g_qa_s, g_al_s, t_i_s, t_a_r, t_a_n, t_a_q, t_l_s, true_and, and_true, and_self, true_or, or_true, Decidable.not_not, not_true_eq_false, not_false_eq_true, false_implies, true_implies, implies_true, j_ok1_s, j_isL, j_cat_i, j_cat_l, j_cat_r, j_cat_n, j_rf_cat, j_rf_some, j_rf_none, k_w8_0, k_w8_i, k_w8_r, k_w8_l, k_sum0, k_ints, k_nari, k_narz0, k_narz1, k_okv0, k_okv1, k_okv2, k_okv2n, k_okv3, Option.toList_some, Option.toList_none, List.cons_append, List.nil_append, List.append_nil, List.map_cons, List.map_nil, List.sum_cons, List.sum_nil, Nat.add_zero, Nat.zero_add, Nat.reduceAdd, Nat.reduceMul, Nat.reduceSub, Nat.reduceDiv, Nat.reduceMod, Nat.reduceLT, Nat.reduceLeDiff, Nat.reduceEqDiff, Nat.reduceBEq, Nat.reduceBNe, Nat.one_ne_zero, Nat.zero_ne_one, Nat.succ_ne_self, Nat.le_refl, Nat.sub_self, Nat.sub_zero, Nat.zero_le, reduceCtorEq, eq_self, Bool.false_eq_true, pk_mul, nI_add, k_in, nI_clamp, nI_eq, nI_ltI, nI_leI, k_upd, k_eq0, k_lt0, k_0le, k_0lt, k_le0, k_mod]
      exact h ad' k1 (k2 0 0 rfl)
    · rw [if_pos c80] at h
      exact h ad hI rfl
  · rw [if_neg c] at h
    simp (disch := first | omega | simp (disch := omega) only [sA_ne, sA_self]) only [st_Net_copy, j_k, List.mem_cons, List.not_mem_nil, or_false, or_self, if_false, if_true, ↓reduceIte, List.getElem?_cons_zero, List.getElem?_cons_succ, List.set_cons_zero, List.set_cons_succ, List.length_cons, List.length_nil, g_ld_s, g_v_s, g_ob_s, g_ia_s, g_la_s, g_qa_s, g_al_s, t_i_s, t_a_r, t_a_n, t_a_q, t_l_s, true_and, and_true, and_self, true_or, or_true, Decidable.not_not, not_true_eq_false, not_false_eq_true, false_implies, true_implies, implies_true, j_ok1_s, j_isL, j_cat_i, j_cat_l, j_cat_r, j_cat_n, j_rf_cat, j_rf_some, j_rf_none, k_w8_0, k_w8_i, k_w8_r, k_w8_l, k_sum0, k_ints, k_nari, k_narz0, k_narz1, k_okv0, k_okv1, k_okv2, k_okv2n, k_okv3, Option.toList_some, Option.toList_none, List.cons_append, List.nil_append, List.append_nil, List.map_cons, List.map_nil, List.sum_cons, List.sum_nil, Nat.add_zero, Nat.zero_add, Nat.reduceAdd, Nat.reduceMul, Nat.reduceSub, Nat.reduceDiv, Nat.reduceMod, Nat.reduceLT, Nat.reduceLeDiff, Nat.reduceEqDiff, Nat.reduceBEq, Nat.reduceBNe, Nat.one_ne_zero, Nat.zero_ne_one, Nat.succ_ne_self, Nat.le_refl, Nat.sub_self, Nat.sub_zero, Nat.zero_le, reduceCtorEq, eq_self, Bool.false_eq_true, pk_mul, nI_add, k_in, nI_clamp, nI_eq, nI_ltI, nI_leI, k_upd, k_eq0, k_lt0, k_0le, k_0lt, k_le0, k_mod]
    exact h ad hI rfl
