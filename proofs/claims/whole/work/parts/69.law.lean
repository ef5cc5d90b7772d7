/-! TWO WORLDS SIDE BY SIDE -/
def jU (w1 w2 : jW) : jW := fun a => match w1 a with
  | some e => some e
  | none => w2 a
def jDj (w1 w2 : jW) : Prop := ∀ a, w1 a ≠ none → w2 a = none
theorem jU_s {w1 w2 : jW} {a : Nat} {e : jE} (h : w1 a = some e) : jU w1 w2 a = some e := by
  unfold jU; rw [h]
theorem jU_n {w1 w2 : jW} {a : Nat} (h : w1 a = none) : jU w1 w2 a = w2 a := by
  unfold jU; rw [h]
theorem jU_r {w1 w2 : jW} {a : Nat} {e : jE} (hd : jDj w1 w2) (h : w2 a = some e) : jU w1 w2 a = some e := by
  cases h1 : w1 a with
  | none => rw [jU_n h1, h]
  | some x =>
    have := hd a (by rw [h1]; simp)
    rw [h] at this
    cases this
theorem j_left {M : jMi} {av : List Value} {w1 w2 : jW} {mc ms : Nat} {post : Option Value → jW → Prop} (hd : jDj w1 w2) (k : j_sem M av w1 mc ms (fun v w1' => jDj w1' w2 → post v (jU w1' w2))) : j_sem M av (jU w1 w2) mc ms post := by
  refine j_sem_mono (fun v w' q => ?_) (j_frame (w := jU w1 w2) (w1 := w1) (fun a h => ?_) k)
  · obtain ⟨w1', hp, hn, rfl⟩ := q
    have hz : ∀ a, w2 a ≠ none → w1' a = none := by
      intro a ha
      cases h1 : w1 a with
      | some e => exact absurd (hd a (by rw [h1]; simp)) ha
      | none => exact hn a h1 (by rw [jU_n h1]; exact ha)
    have hd' : jDj w1' w2 := by
      intro a ha
      cases h2 : w2 a with
      | none => rfl
      | some e => exact absurd (hz a (by rw [h2]; simp)) ha
    have e : j_mix (jU w1 w2) w1 w1' = jU w1' w2 := by
      funext a
      unfold j_mix
      by_cases h2 : w2 a = none
      · have e1 : jU w1' w2 a = w1' a := by
          cases h3 : w1' a with
          | some x => exact jU_s h3
          | none => rw [jU_n h3, h2]
        rw [e1]
        by_cases h1 : w1 a = none
        · rw [if_neg]
          rintro ⟨-, q⟩
          exact q (by rw [jU_n h1, h2])
        · rw [if_neg (fun q => h1 q.1)]
      · have h1 : w1 a = none := by
          cases h1 : w1 a with
          | none => rfl
          | some x => exact absurd (hd a (by rw [h1]; simp)) h2
        rw [if_pos ⟨h1, by rw [jU_n h1]; exact h2⟩, jU_n h1, jU_n (hz a h2)]
    rw [e]
    exact hp hd'
  · cases h1 : w1 a with
    | none => exact absurd h1 h
    | some x => exact (jU_s h1).symm
theorem j_right {M : jMi} {av : List Value} {w1 w2 : jW} {mc ms : Nat} {post : Option Value → jW → Prop} (hd : jDj w1 w2) (k : j_sem M av w2 mc ms (fun v w2' => jDj w1 w2' → post v (jU w1 w2'))) : j_sem M av (jU w1 w2) mc ms post := by
  have n1 : ∀ a, w2 a ≠ none → w1 a = none := by
    intro a ha
    cases h1 : w1 a with
    | none => rfl
    | some x => exact absurd (hd a (by rw [h1]; simp)) ha
  refine j_sem_mono (fun v w' q => ?_) (j_frame (w := jU w1 w2) (w1 := w2) (fun a h => (jU_n (n1 a h)).symm) k)
  obtain ⟨w2', hp, hn, rfl⟩ := q
  have hd' : jDj w1 w2' := by
    intro a ha
    refine hn a (hd a ha) ?_
    cases h1 : w1 a with
    | none => exact absurd h1 ha
    | some x => rw [jU_s h1]; simp
  have e : j_mix (jU w1 w2) w2 w2' = jU w1 w2' := by
    funext a
    unfold j_mix
    by_cases h1 : w1 a = none
    · rw [jU_n h1, jU_n h1]
      by_cases h2 : w2 a = none
      · rw [if_neg (fun q => q.2 h2)]
      · rw [if_neg (fun q => h2 q.1)]
    · rw [if_pos ⟨hd a h1, by
        cases h3 : w1 a with
        | none => exact absurd h3 h1
        | some x => rw [jU_s h3]; simp⟩]
      cases h3 : w1 a with
      | none => exact absurd h3 h1
      | some x => rw [jU_s h3, jU_s h3]
  rw [e]
  exact hp hd'
theorem jx_mono {b L : Nat} {xs : Nat → Int32} {M : jMi} {post : Option Value → jW → Prop} {pc : Nat} {ls : jL} {st : List Value} {w : jW} {cb sb cb' sb' : Nat} (hc : cb ≤ cb') (hs : sb ≤ sb') (h : j_SX b L xs M post pc ls st w cb sb) : j_SX b L xs M post pc ls st w cb' sb' := by
  intro hn p l e R s m args below meth c Q D tc A MC MS hX hb hA C Rt
  intro H locs arr cells slots hl hW hS h1 h2
  exact h hn p l e R s m args below meth c Q D tc A MC MS hX hb hA C Rt H locs arr cells slots hl hW hS (by omega) (by omega)
/-- the script's first number -/
def v00 (L : Nat) (xs : Nat → Int32) : Int32 := if 0 < L then xs 0 else nI 0
set_option maxHeartbeats 4000000 in
set_option maxRecDepth 100000 in
theorem sp_Law_cell {b L : Nat} {xs : Nat → Int32} {w : jW} (hL : L < 2 ^ 31) (hwb : w b = none) : j_semX b L xs m_Law_cell [.ref b, .int (nI 0)] w (fun v w' => v = some (.int (v00 L xs)) ∧ w' = w) := by
  refine j_semX_of (by decide +kernel) (Nat.le_of_ble_eq_true rfl) hwb ?_
  show j_SX _ _ _ _ _ 0 [some (.ref b), some (.int (nI 0))] [] w 0 0
  refine j_runsX [] ok_Law_cell 20 ?_
  by_cases h0 : L = 0
  · subst h0
    simp (disch := first | omega | simp (disch := omega) only [sA_ne, sA_self]) only [st_cell, j_kX, k_len, j_k, List.mem_cons, List.not_mem_nil, or_false, or_self, if_false, if_true, ↓reduceIte, List.getElem?_cons_zero, List.getElem?_cons_succ, List.set_cons_zero, List.set_cons_succ, List.length_cons, List.length_nil, g_ld_s, g_v_s, g_ob_s, g_ia_s, g_la_s, g_qa_s, g_al_s, t_i_s, t_a_r, t_a_n, t_a_q, t_l_s, true_and, and_true, and_self, true_or, or_true, Decidable.not_not, not_true_eq_false, not_false_eq_true, false_implies, true_implies, implies_true, j_ok1_s, j_isL, j_cat_i, j_cat_l, j_cat_r, j_cat_n, j_rf_cat, j_rf_some, j_rf_none, k_w8_0, k_w8_i, k_w8_r, k_w8_l, k_sum0, k_ints, k_nari, k_narz0, k_narz1, k_okv0, k_okv1, k_okv2, k_okv2n, k_okv3, Option.toList_some, Option.toList_none, List.cons_append, List.nil_append, List.append_nil, List.map_cons, List.map_nil, List.sum_cons, List.sum_nil, Nat.add_zero, Nat.zero_add, Nat.reduceAdd, Nat.reduceMul, Nat.reduceSub, Nat.reduceDiv, Nat.reduceMod, Nat.reduceLT, Nat.reduceLeDiff, Nat.reduceEqDiff, Nat.reduceBEq, Nat.reduceBNe, Nat.one_ne_zero, Nat.zero_ne_one, Nat.succ_ne_self, Nat.le_refl, Nat.sub_self, Nat.sub_zero, Nat.zero_le, reduceCtorEq, eq_self, Bool.false_eq_true, pk_mul, nI_add, k_in, nI_clamp, nI_eq, nI_ltI, nI_leI, k_upd, k_eq0, k_lt0, k_0le, k_0lt, k_le0, k_mod]
    rfl
  · have h1 : ¬ L ≤ 0 := by omega
    simp (disch := first | omega | simp (disch := omega) only [sA_ne, sA_self]) only [st_cell, j_kX, k_len, h0, h1, j_k, List.mem_cons, List.not_mem_nil, or_false, or_self, if_false, if_true, ↓reduceIte, List.getElem?_cons_zero, List.getElem?_cons_succ, List.set_cons_zero, List.set_cons_succ, List.length_cons, List.length_nil, g_ld_s, g_v_s, g_ob_s, g_ia_s, g_la_s, g_qa_s, g_al_s, t_i_s, t_a_r, t_a_n, t_a_q, t_l_s, true_and, and_true, and_self, true_or, or_true, Decidable.not_not, not_true_eq_false, not_false_eq_true, false_implies, true_implies, implies_true, j_ok1_s, j_isL, j_cat_i, j_cat_l, j_cat_r, j_cat_n, j_rf_cat, j_rf_some, j_rf_none, k_w8_0, k_w8_i, k_w8_r, k_w8_l, k_sum0, k_ints, k_nari, k_narz0, k_narz1, k_okv0, k_okv1, k_okv2, k_okv2n, k_okv3, Option.toList_some, Option.toList_none, List.cons_append, List.nil_append, List.append_nil, List.map_cons, List.map_nil, List.sum_cons, List.sum_nil, Nat.add_zero, Nat.zero_add, Nat.reduceAdd, Nat.reduceMul, Nat.reduceSub, Nat.reduceDiv, Nat.reduceMod, Nat.reduceLT, Nat.reduceLeDiff, Nat.reduceEqDiff, Nat.reduceBEq, Nat.reduceBNe, Nat.one_ne_zero, Nat.zero_ne_one, Nat.succ_ne_self, Nat.le_refl, Nat.sub_self, Nat.sub_zero, Nat.zero_le, reduceCtorEq, eq_self, Bool.false_eq_true, pk_mul, nI_add, k_in, nI_clamp, nI_eq, nI_ltI, nI_leI, k_upd, k_eq0, k_lt0, k_0le, k_0lt, k_le0, k_mod]
    unfold v00
    rw [if_pos (by omega)]
theorem jTS_all {args : Array Value} {s : State} (hts : ∀ w ∈ lw_tbl, w.before args s = true) : ∀ w ∈ jTS, w.before args s = true := fun w hw => hts w (List.mem_filter.mp hw).1
theorem j_Z_ex {args : Array Value} {s : State} (hts : ∀ w ∈ lw_tbl, w.before args s = true) : ∃ D tc, j_Z D tc s := by
  have hin : ∀ q ∈ jcl, Cond.instantiable q.1 q.2.2 ∈ lw_tbl := by
    have : (jcl.all (fun q => decide (Cond.instantiable q.1 q.2.2 ∈ lw_tbl))) = true := by decide +kernel
    intro q hq
    exact of_decide_eq_true (List.all_eq_true.mp this q hq)
  have hC : ∀ k : Nat, ∃ (x : ClassId × (Nat → Nat)), ∀ q : vw_C, jcl[k]? = some q → u_Kn s q.1 q.2.1 q.2.2 x.1 x.2 := by
    intro k
    cases hk : jcl[k]? with
    | none => exact ⟨(0, fun _ => 0), fun q hq => by cases hq⟩
    | some q0 =>
      have hok := okC_all k q0 hk
      obtain ⟨cC, iS, h⟩ := u_known (C := q0.1) (T := q0.2.1) (N := q0.2.2) (n := q0.2.2) (jTS_all hts) hok.1 (hts _ (hin q0 (List.mem_of_getElem? hk)))
      exact ⟨(cC, iS), fun q hq => by cases hq; exact h⟩
  have hAO : ∀ C ∈ jAO, Cond.arrayOver (.object C) ∈ lw_tbl := by
    have : (jAO.all (fun C => decide (Cond.arrayOver (.object C) ∈ lw_tbl))) = true := by decide +kernel
    intro C hC
    exact of_decide_eq_true (List.all_eq_true.mp this C hC)
  have prim : ∀ ty : FieldType, Cond.arrayClass ty ∈ lw_tbl → (∀ C, ty ≠ .object C) → ∃ c : ClassId, ArrOfT s c ty ∧ va_RA s c ty := by
    intro ty hm hn
    obtain ⟨c, k, comp, h1, h2, h3⟩ := Cond.arrayClass_spec (hts _ hm)
    refine ⟨c, fun n z => ⟨fun k h => (by cases h), k, h2, comp, h3⟩, ?_⟩
    cases ty with
    | object C => exact absurd rfl (hn C)
    | _ => exact h1
  have objs : ∀ C ∈ jAO, ∃ c : ClassId, ArrOfT s c (.object C) ∧ va_RA s c (.object C) := by
    intro C hC
    obtain ⟨comp, c, k, h1, h2, h3, h4, h5⟩ := Cond.arrayOver_spec (hts _ (hAO C hC))
    exact ⟨c, fun n z => ⟨fun k h => (by cases h), k, h3, comp, h4⟩, k, comp, h3, h4, h1, h5⟩
  have hT : ∀ k : Nat, ∃ c : ClassId, ∀ ty, jTY[k]? = some ty → ArrOfT s c ty ∧ va_RA s c ty := by
    intro k
    have key : ∀ ty ∈ jTY, ∃ c : ClassId, ArrOfT s c ty ∧ va_RA s c ty := by
      intro ty hty
      simp only [jTY, List.mem_cons, List.not_mem_nil, or_false] at hty
      rcases hty with rfl | rfl | rfl | rfl | rfl | rfl | rfl | rfl
      · exact prim _ (by decide +kernel) (fun C h => by cases h)
      · exact prim _ (by decide +kernel) (fun C h => by cases h)
      · exact prim _ (by decide +kernel) (fun C h => by cases h)
      · exact objs _ (by decide)
      · exact objs _ (by decide)
      · exact objs _ (by decide)
      · exact objs _ (by decide)
      · exact objs _ (by decide)
    cases hk : jTY[k]? with
    | none => exact ⟨0, fun ty h => by cases h⟩
    | some t0 =>
      obtain ⟨c, h⟩ := key t0 (List.mem_of_getElem? hk)
      exact ⟨c, fun ty hh => by cases hh; exact h⟩
  refine ⟨(fun k => (Classical.choose (hC k)).1, fun k => (Classical.choose (hC k)).2), fun k => Classical.choose (hT k), ⟨fun k q hq => Classical.choose_spec (hC k) q hq, fun k q hq => ?_⟩, fun w hw => ?_, fun C hC => va_AO.of (hts _ (hAO C hC))⟩
  · unfold j_tys at hq
    rw [List.getElem?_map] at hq
    cases hr : (List.range jTY.length)[k]? with
    | none => rw [hr] at hq; cases hq
    | some k' =>
      rw [hr, Option.map_some] at hq
      cases hq
      have hlt := (List.getElem?_eq_some_iff.mp hr).1
      rw [List.length_range] at hlt
      rw [List.getElem?_range hlt] at hr
      cases hr
      have hg : jTY[k]? = some (jTY.getD k .int) := by
        rw [List.getD_eq_getElem?_getD, List.getElem?_eq_getElem hlt]
        rfl
      exact Classical.choose_spec (hT k) _ hg
  · have hm := jNW_in w hw
    have hi : j_isN w = true := by
      have : (jNW.all j_isN) = true := by decide +kernel
      exact List.all_eq_true.mp this w hw
    refine ⟨hi, ?_⟩
    have ht : w.onTables = true := by
      cases w <;> first | rfl | (simp [j_isN] at hi)
    exact va_Nw.of ht (hts w hm)
/-! what the calls leave as it is -/
theorem rRaise_keep {S : Nat → Nat → Nat} {l z : Nat} (hz : z = 18 ∨ z = 22 ∨ z = 23) : rRaise S l z = S z := by
  unfold rRaise
  rcases hz with rfl | rfl | rfl <;> (rw [rSh_keeps (by decide) (by decide), rTell_keep (by decide), rTell_keep (by decide)]; rfl)
theorem lay_keep {S : Nat → Nat → Nat} {v1 v2 v3 v4 : Int32} {z : Nat} (hz : z = 18 ∨ z = 22 ∨ z = 23) : (rLay S v1 v2 v3 v4).2 z = S z := by
  unfold rLay
  split
  · split
    · rfl
    · dsimp only
      rw [rRaise_keep hz]
      rcases hz with rfl | rfl | rfl <;> rfl
  · rfl
theorem cut_keep {S : Nat → Nat → Nat} {v : Int32} {z : Nat} (hz : z = 18 ∨ z = 22 ∨ z = 23) : (rCut S v).2 z = S z := by
  unfold rCut
  split
  · rcases hz with rfl | rfl | rfl <;> (dsimp only; rw [rTell_keep (by decide), rTell_keep (by decide)]; rfl)
  · rfl
theorem mend_keep {S : Nat → Nat → Nat} {v : Int32} {z : Nat} (hz : z = 18 ∨ z = 22 ∨ z = 23) : (rMend S v).2 z = S z := by
  unfold rMend
  split
  · exact rRaise_keep hz
  · rfl
theorem share_keep {S : Nat → Nat → Nat} {v : Int32} {z : Nat} (hz : z = 18 ∨ z = 22 ∨ z = 23) : (rShare S v).2 z = S z := by
  unfold rShare
  split
  · rcases hz with rfl | rfl | rfl <;> (dsimp only; exact rSh_keeps (by decide) (by decide) _)
  · rfl
theorem ann_keep {S : Nat → Nat → Nat} {v1 v2 v3 : Int32} {z : Nat} (hz : z = 18 ∨ z = 22 ∨ z = 23) : (rAnn S v1 v2 v3).2 z = S z := by
  unfold rAnn
  split
  · split
    · rfl
    · split
      · rfl
      · rcases hz with rfl | rfl | rfl <;> (dsimp only; rw [rTell_keep (by decide)]; rfl)
  · rfl
theorem wd_keep {S : Nat → Nat → Nat} {v1 v2 : Int32} {z : Nat} (hz : z = 18 ∨ z = 22 ∨ z = 23) : (rWd S v1 v2).2 z = S z := by
  unfold rWd
  split
  · rcases hz with rfl | rfl | rfl <;> (dsimp only; rw [rTell_keep (by decide)]; rfl)
  · rfl
theorem take_keep {S : Nat → Nat → Nat} {v1 v2 : Int32} {z : Nat} (hz : z = 18 ∨ z = 22 ∨ z = 23) : (rTake S v1 v2).2 z = S z := by
  unfold rTake
  split
  · rcases hz with rfl | rfl | rfl <;> (dsimp only; rw [rGet_keeps (by decide) (by decide) (by decide)]; exact rOld_keeps (by decide) (by decide))
  · rfl
theorem lose_keep {S : Nat → Nat → Nat} {v1 v2 : Int32} {z : Nat} (hz : z = 18 ∨ z = 22 ∨ z = 23) : (rLose S v1 v2).2 z = S z := by
  unfold rLose
  split
  · rcases hz with rfl | rfl | rfl <;> (dsimp only; exact rOld_keeps (by decide) (by decide))
  · rfl
theorem cB.k {S S' : Nat → Nat → Nat} {B : Nat → Nat → Int64} (h : cB S B) (hk : ∀ z, (z = 18 ∨ z = 22 ∨ z = 23) → S' z = S z) : cB S' B := h.congr (hk 18 (by decide)) (hk 22 (by decide)) (hk 23 (by decide))
theorem cB.drop {S : Nat → Nat → Nat} {B : Nat → Nat → Int64} (h : cB S B) {v : Int32} : cB (rDrop S v).2 B := by
  unfold rDrop
  split
  · rename_i q
    intro p r i hp hr hi
    show _ ↔ rArr (sA S 23 (va_up (S 23) (6 * N v + 5) 5)) _ _ _
    rw [rArr_st0 q.2 (by decide)]
    exact h p r i hp hr hi
  · exact h
theorem cB.copy {S : Nat → Nat → Nat} {B : Nat → Nat → Int64} (h : cB S B) (hP : rPc S) {v : Int32} : cB (rCopy S v).2 B := by
  unfold rCopy
  split
  · split
    · exact h
    · exact h.add (hP.2.2 _ (Nat.lt_succ_self _))
  · exact h
theorem cI.k {S S' X : Nat → Nat → Nat} (h : cI S X) (hk : ∀ z, (z = 1 ∨ z = 5 ∨ z = 8 ∨ z = 15 ∨ z = 16 ∨ z = 17) → S' z = S z) : cI S' X := h.congr (hk 1 (by decide)) (hk 5 (by decide)) (hk 8 (by decide)) (hk 15 (by decide)) (hk 16 (by decide)) (hk 17 (by decide))
theorem drop_k {S : Nat → Nat → Nat} {v : Int32} {z : Nat} (hz : z = 1 ∨ z = 5 ∨ z = 8 ∨ z = 15 ∨ z = 16 ∨ z = 17) : (rDrop S v).2 z = S z := by
  unfold rDrop
  split
  · exact sA_ne _ _ (by omega)
  · rfl
theorem copy_k {S : Nat → Nat → Nat} {v : Int32} {z : Nat} (hz : z = 1 ∨ z = 5 ∨ z = 8 ∨ z = 15 ∨ z = 16 ∨ z = 17) : (rCopy S v).2 z = S z := by
  unfold rCopy
  split
  · split
    · rfl
    · show rAdd _ _ _ _ _ _ z = S z
      unfold rAdd
      rw [sA_ne _ _ (by omega), sA_ne _ _ (by omega)]
  · rfl
theorem send_k {S : Nat → Nat → Nat} {v1 v2 v3 : Int32} {b z : Nat} (hz : z = 1 ∨ z = 5 ∨ z = 8 ∨ z = 15 ∨ z = 16 ∨ z = 17) : (rSend S v1 v2 v3 b).2 z = S z := by
  unfold rSend
  split
  · split
    · rfl
    · show rAdd _ _ _ _ _ _ z = S z
      unfold rAdd rSnd1
      rw [sA_ne _ _ (by omega), sA_ne _ _ (by omega), sA_ne _ _ (by omega), sA_ne _ _ (by omega), sA_ne _ _ (by omega), sA_ne _ _ (by omega)]
  · rfl
theorem go_k {S : Nat → Nat → Nat} {v : Int32} {z : Nat} (hz : z = 1 ∨ z = 5 ∨ z = 8 ∨ z = 15 ∨ z = 16 ∨ z = 17) : (rGo S v).2 z = S z := rGo_keeps (by omega) (by omega)
