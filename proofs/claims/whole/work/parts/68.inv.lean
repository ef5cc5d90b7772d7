/-! WHAT HOLDS ALL THE TIME, c adverts at most -/
def mT (S : Nat → Nat → Nat) (c : Nat) : Prop := rLk S ∧ rPc S ∧ (S 8 0 ≤ c ∧ (∀ r, S 14 r ≤ S 8 0) ∧ ∀ i, S 8 0 < i → S 11 i = 0) ∧ (∀ i, S 7 i / 16 ≤ 255) ∧ (∀ i, S 13 i / 16 ≤ 255) ∧ ∀ x, 1 ≤ x → x ≤ S 8 0 → 1 ≤ S 10 x
section MT
variable {S S' : Nat → Nat → Nat} {c d : Nat}
theorem mT.le (h : mT S c) (hc : c ≤ d) : mT S d := ⟨h.1, h.2.1, ⟨by have := h.2.2.1.1; omega, h.2.2.1.2⟩, h.2.2.2⟩
theorem mT.t2 (h : mT S c) (hc : c ≤ 1026) : rT2 S := ⟨h.1.1, by have := h.2.2.1.1; omega, h.2.2.1.2.1, h.2.2.1.2.2⟩
theorem mT.tok (h : mT S c) (hc : c ≤ 1027) {r : Nat} (hr : r < 8) : rTok S r := ⟨h.1.1, by have := h.2.2.1.1; omega, hr, by have := h.2.2.1.1; have := h.2.2.1.2.1 r; omega, h.2.2.1.2.2 _ (by unfold rX; omega)⟩
theorem mT.of (h : mT S c) (hO : rOK S') (e : ∀ z, z ≠ 5 → z ≠ 15 → z ≠ 16 → z ≠ 17 → S' z = S z) : mT S' c := by
  unfold mT rLk rPc
  rw [e 0 (by decide) (by decide) (by decide) (by decide), e 1 (by decide) (by decide) (by decide) (by decide), e 2 (by decide) (by decide) (by decide) (by decide), e 3 (by decide) (by decide) (by decide) (by decide), e 4 (by decide) (by decide) (by decide) (by decide), e 7 (by decide) (by decide) (by decide) (by decide), e 8 (by decide) (by decide) (by decide) (by decide), e 10 (by decide) (by decide) (by decide) (by decide), e 11 (by decide) (by decide) (by decide) (by decide), e 13 (by decide) (by decide) (by decide) (by decide), e 14 (by decide) (by decide) (by decide) (by decide), e 18 (by decide) (by decide) (by decide) (by decide), e 19 (by decide) (by decide) (by decide) (by decide), e 22 (by decide) (by decide) (by decide) (by decide), e 23 (by decide) (by decide) (by decide) (by decide)]
  exact ⟨⟨hO, h.1.2⟩, h.2⟩
theorem mT.p (h : mT S c) (hO : rOK S') (hP : rPc S') (e : ∀ z, z ≠ 18 → z ≠ 19 → z ≠ 20 → z ≠ 21 → z ≠ 22 → z ≠ 23 → S' z = S z) : mT S' c := by
  unfold mT rLk
  rw [e 1 (by decide) (by decide) (by decide) (by decide) (by decide) (by decide), e 2 (by decide) (by decide) (by decide) (by decide) (by decide) (by decide), e 3 (by decide) (by decide) (by decide) (by decide) (by decide) (by decide), e 4 (by decide) (by decide) (by decide) (by decide) (by decide) (by decide), e 7 (by decide) (by decide) (by decide) (by decide) (by decide) (by decide), e 8 (by decide) (by decide) (by decide) (by decide) (by decide) (by decide), e 10 (by decide) (by decide) (by decide) (by decide) (by decide) (by decide), e 11 (by decide) (by decide) (by decide) (by decide) (by decide) (by decide), e 13 (by decide) (by decide) (by decide) (by decide) (by decide) (by decide), e 14 (by decide) (by decide) (by decide) (by decide) (by decide) (by decide)]
  exact ⟨⟨hO, h.1.2⟩, hP, h.2.2⟩
theorem mT.tell (h : mT S c) (hc : c ≤ 1027) {r : Nat} (hr : r < 8) : mT (rTell S r) (c + 1) := by
  have ok := rTell_ok (h.tok hc hr)
  have e13 : ∀ i, rTell S r 13 i = if 3 * rX S ≤ i ∧ i < 3 * rX S + 3 then S 7 (3 * r + (i - 3 * rX S)) else S 13 i := by
    intro i
    rw [← rPre_3]
    unfold rTell
    rw [rSpr_keeps (by decide) (by decide)]
    rfl
  have e10 : ∀ x, rTell S r 10 x = if x = rX S then S 14 r + 1 else S 10 x := by
    intro x
    unfold rTell
    rw [rSpr_keeps (by decide) (by decide)]
    rfl
  obtain ⟨⟨a1, a2, a3, a4⟩, b, ⟨c1, c2, c3⟩, d, e, f⟩ := h
  refine ⟨⟨ok, ?_, ?_, ?_⟩, ?_, ⟨?_, ?_, ?_⟩, ?_, ?_, ?_⟩
  · rw [rTell_keep (z := 1) (by decide), rTell_keep (z := 2) (by decide), rTell_keep (z := 3) (by decide), rTell_keep (z := 4) (by decide)]
    exact a2
  · rw [rTell_keep (z := 7) (by decide)]; exact a3
  · intro i
    rw [e13]
    split
    · exact a3 _
    · exact a4 _
  · unfold rPc
    rw [rTell_keep (z := 0) (by decide), rTell_keep (z := 18) (by decide), rTell_keep (z := 19) (by decide), rTell_keep (z := 22) (by decide), rTell_keep (z := 23) (by decide)]
    exact b
  · rw [rTell_8]; omega
  · intro q
    rw [rTell_14, rTell_8]
    have := c2 q
    have := c2 r
    split <;> omega
  · intro i hi
    rw [rTell_8] at hi
    rw [rTell_11, if_neg (by unfold rX; omega)]
    exact c3 i (by omega)
  · rw [rTell_keep (z := 7) (by decide)]; exact d
  · intro i
    rw [e13]
    split
    · exact d _
    · exact e _
  · intro x x1 x2
    rw [rTell_8] at x2
    rw [e10]
    split
    · omega
    · rename_i hx
      unfold rX at hx
      exact f x x1 (by omega)
theorem mT.raise (h : mT S c) (hc : c ≤ 1026) {l : Nat} : mT (rRaise S l) (c + 2) := by
  have b1 : S 2 (2 * l) ≤ 7 := h.1.1 2 _
  have b2 : S 2 (2 * l + 1) ≤ 7 := h.1.1 2 _
  have h1 : mT (rUp S l) c := h.of (h.1.1.up (k := 5) (Nat.le_refl 1)) (fun z h5 _ _ _ => sA_ne _ _ h5)
  have h2 := h1.tell (r := S 2 (2 * l)) (by omega) (by omega)
  have h3 := h2.tell (r := S 2 (2 * l + 1)) (by omega) (by omega)
  exact h3.of (rSh_ok h3.1.1 16) (fun z _ _ h16 h17 => rSh_keeps h16 h17 16)
theorem mT.lay1 (h : mT S c) (hc : c ≤ 1026) {a b e d : Nat} (ha : a ≤ 7) (hb : b ≤ 7) (hab : a ≠ b) (he : 1 ≤ e) (he' : e ≤ 50) (hd : 8 ≤ d) (hd' : d ≤ 255) (hl : ¬ S 1 0 = 12) : mT (rLay1 S a b e d) c := by
  have ok : rOK (rLay1 S a b e d) := (rLay1_T2 (h.t2 hc) ha hb he' hd' hl).1
  obtain ⟨⟨a1, a2, a3, a4⟩, b', ⟨c1, c2, c3⟩, d', e', f⟩ := h
  refine ⟨⟨ok, ?_, a3, a4⟩, b', ⟨c1, c2, c3⟩, d', e', f⟩
  intro l hl
  have hl : l < S 1 0 + 1 := hl
  show 1 ≤ va_up (S 3) (S 1 0) e l ∧ 8 ≤ va_up (S 4) (S 1 0) d l ∧ va_up (va_up (S 2) (2 * S 1 0) a) (2 * S 1 0 + 1) b (2 * l) ≠ va_up (va_up (S 2) (2 * S 1 0) a) (2 * S 1 0 + 1) b (2 * l + 1)
  by_cases q : l = S 1 0
  · rw [q, va_up_self, va_up_self, va_up_self, va_up_ne _ _ (by omega), va_up_self]
    exact ⟨he, hd, hab⟩
  · rw [va_up_ne _ _ q, va_up_ne _ _ q]
    simp (disch := omega) only [va_up_ne]
    exact a2 l (by omega)
theorem mT.lay (h : mT S c) (hc : c ≤ 1026) {v1 v2 v3 v4 : Int32} : mT (rLay S v1 v2 v3 v4).2 (c + 2) := by
  unfold rLay
  split
  · rename_i q
    split
    · exact h.le (by omega)
    · rename_i q2
      obtain ⟨e1, -, i1⟩ := inR_of q.1 (by decide) (by decide)
      obtain ⟨e2, -, i2⟩ := inR_of q.2.1 (by decide) (by decide)
      obtain ⟨-, j3, i3⟩ := inR_of q.2.2.2.1 (by decide) (by decide)
      obtain ⟨-, j4, i4⟩ := inR_of q.2.2.2.2 (by decide) (by decide)
      exact mT.raise (h.lay1 hc i1 i2 (fun e => q.2.2.1 (by rw [e1, e2, e])) j3 i3 j4 i4 q2) hc
  · exact h.le (by omega)
theorem mT.cut (h : mT S c) (hc : c ≤ 1026) {v : Int32} : mT (rCut S v).2 (c + 2) := by
  unfold rCut
  split
  · have b1 : S 2 (2 * N v) ≤ 7 := h.1.1 2 _
    have b2 : S 2 (2 * N v + 1) ≤ 7 := h.1.1 2 _
    have h1 : mT (rCut1 S (N v)) c := h.of (rCut1_T2 (h.t2 hc)).1 (fun z h5 _ h16 _ => by unfold rCut1; rw [sA_ne _ _ h5, sA_ne _ _ h16])
    exact (h1.tell (r := S 2 (2 * N v)) (by omega) (by omega)).tell (r := S 2 (2 * N v + 1)) (by omega) (by omega)
  · exact h.le (by omega)
theorem mT.mend (h : mT S c) (hc : c ≤ 1026) {v : Int32} : mT (rMend S v).2 (c + 2) := by
  unfold rMend
  split
  · exact h.raise hc
  · exact h.le (by omega)
theorem mT.share (h : mT S c) {v : Int32} : mT (rShare S v).2 c := by
  unfold rShare
  split
  · exact h.of (rSh_ok h.1.1 16) (fun z _ _ h16 h17 => rSh_keeps h16 h17 16)
  · exact h
theorem mT.ann (h : mT S c) (hc : c ≤ 1026) {v1 v2 v3 : Int32} : mT (rAnn S v1 v2 v3).2 (c + 1) := by
  unfold rAnn
  split
  · rename_i q
    split
    · exact h.le (by omega)
    · split
      · exact h.le (by omega)
      · rename_i q2
        obtain ⟨e1, -, i1⟩ := inR_of q.1 (by decide) (by decide)
        obtain ⟨e2, -, i2⟩ := inR_of q.2.1 (by decide) (by decide)
        obtain ⟨e3, -, i3⟩ := inR_of q.2.2 (by decide) (by decide)
        obtain ⟨p1, p2⟩ := rP_le (b := N v2) (n := N v3) i2 i3
        have m16 : rP (N v2) (N v3) % 16 ≤ 8 ∧ rP (N v2) (N v3) / 16 ≤ 255 := by
          unfold rP at *
          generalize N v2 / 2 ^ (8 - N v3) * 2 ^ (8 - N v3) = x at *
          omega
        generalize rP (N v2) (N v3) = p at *
        have ok : rOK (rAnn1 S (N v1) p) := (rAnn1_T2 (h.t2 hc) p2 q2).1
        have h1 : mT (rAnn1 S (N v1) p) c := by
          obtain ⟨⟨a1, a2, a3, a4⟩, b', ⟨c1, c2, c3⟩, d', e', f⟩ := h
          refine ⟨⟨ok, a2, ?_, a4⟩, b', ⟨c1, c2, c3⟩, ?_, e', f⟩
          · intro i
            show va_up (S 7) (3 * N v1 + S 6 (N v1)) p i % 16 ≤ 8
            rw [va_up_c]
            split
            · exact m16.1
            · exact a3 i
          · intro i
            show va_up (S 7) (3 * N v1 + S 6 (N v1)) p i / 16 ≤ 255
            rw [va_up_c]
            split
            · exact m16.2
            · exact d' i
        exact h1.tell (by omega) (by omega)
  · exact h.le (by omega)
theorem mT.wd (h : mT S c) (hc : c ≤ 1026) {v1 v2 : Int32} : mT (rWd S v1 v2).2 (c + 1) := by
  unfold rWd
  split
  · rename_i q
    obtain ⟨e1, -, i1⟩ := inR_of q.1 (by decide) (by decide)
    have ok : rOK (rWd1 S (N v1) (N v2)) := (rWd1_T2 (h.t2 hc)).1
    have h1 : mT (rWd1 S (N v1) (N v2)) c := by
      obtain ⟨⟨a1, a2, a3, a4⟩, b', ⟨c1, c2, c3⟩, d', e', f⟩ := h
      refine ⟨⟨ok, a2, ?_, a4⟩, b', ⟨c1, c2, c3⟩, ?_, e', f⟩
      · intro i
        show rSft (S 7) (3 * N v1) (N v2) (S 6 (N v1) - 1) i % 16 ≤ 8
        rw [rSft_at]
        split
        · exact a3 _
        · exact a3 _
      · intro i
        show rSft (S 7) (3 * N v1) (N v2) (S 6 (N v1) - 1) i / 16 ≤ 255
        rw [rSft_at]
        split
        · exact d' _
        · exact d' _
    exact h1.tell (by omega) (by omega)
  · exact h.le (by omega)
theorem mT.lose (h : mT S c) {v1 v2 : Int32} : mT (rLose S v1 v2).2 c := by
  unfold rLose
  split
  · exact h.of (rOld_ok h.1.1) (fun z _ _ h16 h17 => rOld_keeps h16 h17)
  · exact h
theorem mT.take (h : mT S c) {v1 v2 : Int32} : mT (rTake S v1 v2).2 c := by
  unfold rTake
  split
  · have h1 : mT (rOld S (2 * N v1 + N v2)) c := h.of (rOld_ok h.1.1) (fun z _ _ h16 h17 => rOld_keeps h16 h17)
    refine h1.of ?_ (fun z _ h15 h16 h17 => rGet_keeps h15 h16 h17)
    have a17 : S 17 (20 * (2 * N v1 + N v2)) ≤ 1029 := h.1.1 17 _
    have hO := h1.1.1
    unfold rGet
    split
    · exact rPut_ok hO (hO 15 _)
    · split
      · exact rSpr_ok (hO.up (k := 15) a17) a17 _
      · exact hO
  · exact h
/-! pieces -/
theorem rPc.st (h : rPc S) {p n : Nat} (hp : p ≤ S 22 0) : rPc (sA S 23 (va_up (S 23) (6 * p + 5) n)) := by
  unfold rPc
  rw [sA_self, sA_ne _ _ (show 0 ≠ 23 by decide), sA_ne _ _ (show 22 ≠ 23 by decide), sA_ne _ _ (show 18 ≠ 23 by decide), sA_ne _ _ (show 19 ≠ 23 by decide)]
  refine ⟨h.1, fun q q1 q2 => ?_, fun q hq => ?_⟩
  · simp (disch := omega) only [va_up_ne]
    exact h.2.1 q q1 q2
  · rw [va_up_ne _ _ (by omega)]
    exact h.2.2 q hq
theorem rPc.add (h : rPc S) {a b c d e : Nat} (ha : 1 ≤ a) (ha' : a ≤ S 18 0) (hc : 1 ≤ c) (hbc : b + c ≤ S 19 a) (hd : d ≤ 12) (he : e ≤ 7) : rPc (rAdd S a b c d e) := by
  have e0 : rAdd S a b c d e 0 = S 0 := rfl
  have e18 : rAdd S a b c d e 18 = S 18 := rfl
  have e19 : rAdd S a b c d e 19 = S 19 := rfl
  have e22 : rAdd S a b c d e 22 0 = S 22 0 + 1 := rfl
  have e23 : rAdd S a b c d e 23 = va_up (va_up (va_up (va_up (va_up (S 23) (6 * (S 22 0 + 1)) a) (6 * (S 22 0 + 1) + 1) b) (6 * (S 22 0 + 1) + 2) c) (6 * (S 22 0 + 1) + 3) d) (6 * (S 22 0 + 1) + 4) e := rfl
  unfold rPc
  rw [e0, e18, e19, e22, e23]
  refine ⟨h.1, fun q q1 q2 => ?_, fun q hq => ?_⟩
  · by_cases hq : q = S 22 0 + 1
    · subst hq
      simp (disch := omega) only [va_up_ne, va_up_self]
      exact ⟨ha, ha', hc, hbc, hd, he⟩
    · simp (disch := omega) only [va_up_ne]
      exact h.2.1 q q1 (by omega)
  · simp (disch := omega) only [va_up_ne]
    exact h.2.2 q (by omega)
theorem rPc.mv (h : rPc S) {p to st : Nat} (p1 : 1 ≤ p) (p2 : p ≤ S 22 0) (ht : to ≤ 7) (s1 : 1 ≤ st) (s2 : st ≤ S 23 (6 * p + 2)) : rPc (rMove S (6 * p) to st) := by
  have e0 : rMove S (6 * p) to st 0 = S 0 := rfl
  have e18 : rMove S (6 * p) to st 18 = S 18 := rfl
  have e19 : rMove S (6 * p) to st 19 = S 19 := rfl
  have e22 : rMove S (6 * p) to st 22 = S 22 := rfl
  have e23 : rMove S (6 * p) to st 23 = va_up (va_up (va_up (S 23) (6 * p + 3) (S 23 (6 * p + 3) - 1)) (6 * p + 4) to) (6 * p + 2) st := rfl
  unfold rPc
  rw [e0, e18, e19, e22, e23]
  refine ⟨h.1, fun q q1 q2 => ?_, fun q hq => ?_⟩
  · obtain ⟨g1, g2, g3, g4, g5, g6⟩ := h.2.1 q q1 q2
    by_cases hq : q = p
    · subst hq
      simp (disch := omega) only [va_up_ne, va_up_self]
      exact ⟨g1, g2, s1, by omega, by omega, ht⟩
    · simp (disch := omega) only [va_up_ne]
      exact ⟨g1, g2, g3, g4, g5, g6⟩
  · simp (disch := omega) only [va_up_ne]
    exact h.2.2 q hq
theorem rMove_ok (h : rOK S) {b to st : Nat} (ht : to ≤ 7) (hs : st ≤ 500) : rOK (rMove S b to st) := by
  have b3 : S 23 (b + 3) ≤ 500 := h 23 _
  refine h.sa (k := 23) (fun i => ?_)
  show _ ≤ 500
  have bi : S 23 i ≤ 500 := h 23 i
  rw [va_up_c]
  split
  · omega
  · rw [va_up_c]
    split
    · omega
    · rw [va_up_c]
      split
      · omega
      · exact bi
theorem rSplt_in (hO : rOK S) (hP : rPc S) {pk fi n st li to : Nat} (h1 : 1 ≤ pk) (h2 : pk ≤ S 18 0) (h3 : fi + n ≤ S 19 pk) (s1 : 1 ≤ st) (hl : li ≤ 12) (ht : to ≤ 7) : ∀ i, S 22 0 + i ≤ 80 → i * st < n → rOK (rSplt S pk fi n st li to i) ∧ rPc (rSplt S pk fi n st li to i)
  | 0, _, _ => ⟨hO, hP⟩
  | i + 1, h80, hn => by
    have hm : i * st ≤ (i + 1) * st := Nat.mul_le_mul_right st (by omega)
    obtain ⟨g1, g2⟩ := rSplt_in hO hP h1 h2 h3 s1 hl ht i (by omega) (by omega)
    have b18 : S 18 0 ≤ 12 := hO 18 0
    have b19 : S 19 pk ≤ 500 := hO 19 _
    have e22 := rSplt_22 (S := S) (pk := pk) (fi := fi) (n := n) (st := st) (li := li) (to := to) i
    have e18 := rSplt_keeps (S := S) (pk := pk) (fi := fi) (n := n) (st := st) (li := li) (to := to) (k := 18) (by decide) (by decide) i
    have e19 := rSplt_keeps (S := S) (pk := pk) (fi := fi) (n := n) (st := st) (li := li) (to := to) (k := 19) (by decide) (by decide) i
    unfold rSplt
    generalize hT : rSplt S pk fi n st li to i = T at *
    have hsz : 1 ≤ (if n - (i + 1) * st < st then n - (i + 1) * st else st) ∧ (i + 1) * st + (if n - (i + 1) * st < st then n - (i + 1) * st else st) ≤ n := by
      split <;> omega
    generalize (if n - (i + 1) * st < st then n - (i + 1) * st else st) = sz at *
    generalize (i + 1) * st = m at *
    refine ⟨rAdd_ok g1 (by omega) (by omega) (by omega) (by omega) (by omega) (by omega), g2.add h1 (by rw [e18]; exact h2) hsz.1 (by rw [e19]; omega) hl ht⟩
theorem mT.drop (h : mT S c) {v : Int32} : mT (rDrop S v).2 c := by
  unfold rDrop
  split
  · rename_i q
    have b22 : S 22 0 ≤ 80 := h.1.1 22 0
    obtain ⟨e1, i0, i1⟩ := inR_of q.1 (by decide) (by omega)
    exact h.p (h.1.1.up (k := 23) (show 5 ≤ 500 by decide)) (h.2.1.st i1) (fun z _ _ _ _ _ h23 => sA_ne _ _ h23)
  · exact h
theorem mT.copy (h : mT S c) {v : Int32} : mT (rCopy S v).2 c := by
  unfold rCopy
  split
  · rename_i q
    split
    · exact h
    · rename_i q2
      have b22 : S 22 0 ≤ 80 := h.1.1 22 0
      have b18 : S 18 0 ≤ 12 := h.1.1 18 0
      obtain ⟨e1, i0, i1⟩ := inR_of q.1 (by decide) (by omega)
      obtain ⟨g1, g2, g3, g4, g5, g6⟩ := h.2.1.2.1 (N v) i0 i1
      have b1 : S 23 (6 * N v + 1) ≤ 500 := h.1.1 23 _
      have b2 : S 23 (6 * N v + 2) ≤ 500 := h.1.1 23 _
      refine h.p (rAdd_ok h.1.1 (by omega) (by omega) b1 b2 (by omega) (by omega)) (h.2.1.add g1 g2 g3 g4 g5 g6) (fun z _ _ _ _ h22 h23 => ?_)
      show rAdd _ _ _ _ _ _ z = S z
      unfold rAdd
      rw [sA_ne _ _ h23, sA_ne _ _ h22]
  · exact h
theorem mT.send (h : mT S c) {v1 v2 v3 : Int32} {z : Nat} (hz : z ≤ 1) : mT (rSend S v1 v2 v3 z).2 c := by
  unfold rSend
  split
  · rename_i q
    split
    · exact h
    · rename_i q2
      obtain ⟨e1, -, i1⟩ := inR_of q.1 (by decide) (by decide)
      obtain ⟨e2, -, i2⟩ := inR_of q.2.1 (by decide) (by decide)
      obtain ⟨e3, j3, i3⟩ := inR_of q.2.2 (by decide) (by decide)
      have b22 : S 22 0 ≤ 80 := h.1.1 22 0
      have b18 : S 18 0 ≤ 12 := h.1.1 18 0
      have hO := h.1.1
      have hP := h.2.1
      have b0 : S 0 0 ≤ 12 := hP.1
      have ok1 : rOK (rSnd1 S (N v2) (N v3) z) := by
        have o1 : rOK (sA S 18 (fun _ => S 18 0 + 1)) := hO.sa (fun _ => show S 18 0 + 1 ≤ 12 by omega)
        have o2 : rOK (sA (sA S 18 (fun _ => S 18 0 + 1)) 19 (va_up (S 19) (S 18 0 + 1) (N v3))) := o1.up (k := 19) i3
        have o3 : rOK (sA (sA (sA S 18 (fun _ => S 18 0 + 1)) 19 (va_up (S 19) (S 18 0 + 1) (N v3))) 20 (va_up (S 20) (S 18 0 + 1) (N v2))) := o2.up (k := 20) i2
        exact o3.up (k := 21) hz
      have pc1 : rPc (rSnd1 S (N v2) (N v3) z) := by
        have k0 : rSnd1 S (N v2) (N v3) z 0 = S 0 := rfl
        have k18 : rSnd1 S (N v2) (N v3) z 18 0 = S 18 0 + 1 := rfl
        have k19 : rSnd1 S (N v2) (N v3) z 19 = va_up (S 19) (S 18 0 + 1) (N v3) := rfl
        have k22 : rSnd1 S (N v2) (N v3) z 22 = S 22 := rfl
        have k23 : rSnd1 S (N v2) (N v3) z 23 = S 23 := rfl
        unfold rPc
        rw [k0, k18, k19, k22, k23]
        refine ⟨hP.1, fun p p1 p2 => ?_, hP.2.2⟩
        obtain ⟨g1, g2, g3, g4, g5, g6⟩ := hP.2.1 p p1 p2
        rw [va_up_ne _ _ (by omega)]
        exact ⟨g1, by omega, g3, g4, g5, g6⟩
      have k18 : rSnd1 S (N v2) (N v3) z 18 0 = S 18 0 + 1 := rfl
      have k19 : rSnd1 S (N v2) (N v3) z 19 (S 18 0 + 1) = N v3 := va_up_self _ _ _
      have k22 : rSnd1 S (N v2) (N v3) z 22 0 = S 22 0 := rfl
      refine h.p (rAdd_ok ok1 (by rw [k22]; omega) (by omega) (by omega) (by omega) (by omega) (by omega)) (pc1.add (by omega) (by rw [k18]; exact Nat.le_refl _) j3 (by rw [k19]; omega) b0 i1) (fun y h18 h19 h20 h21 h22 h23 => ?_)
      show rAdd _ _ _ _ _ _ y = S y
      unfold rAdd rSnd1
      rw [sA_ne _ _ h23, sA_ne _ _ h22, sA_ne _ _ h21, sA_ne _ _ h20, sA_ne _ _ h19, sA_ne _ _ h18]
  · exact h
theorem rGo_keeps {v : Int32} {z : Nat} (h22 : z ≠ 22) (h23 : z ≠ 23) : (rGo S v).2 z = S z := by
  unfold rGo
  split
  · split
    · split
      · rfl
      · show rSplt _ _ _ _ _ _ _ _ z = S z
        rw [rSplt_keeps h22 h23]
        exact sA_ne _ _ h23
    · exact sA_ne _ _ h23
  · rfl
theorem mT.go (h : mT S c) {v : Int32} : mT (rGo S v).2 c := by
  refine h.p ?_ ?_ (fun z _ _ _ _ h22 h23 => rGo_keeps h22 h23)
  all_goals
    have hO := h.1.1
    have hP := h.2.1
    have b22 : S 22 0 ≤ 80 := hO 22 0
    have b1' : S 1 0 ≤ 12 := hO 1 0
    unfold rGo
    split
    rotate_left
    · first | exact hO | exact hP
    rename_i q
    obtain ⟨e1, i0, i1⟩ := inR_of q.1 (by decide) (by omega)
    obtain ⟨g1, g2, g3, g4, g5, g6⟩ := hP.2.1 (N v) i0 i1
    have b19 : S 19 (S 23 (6 * N v)) ≤ 500 := hO 19 _
    have hway := rRt_cases (S := S) (ro := S 23 (6 * N v + 4)) (x := S 20 (S 23 (6 * N v)))
    generalize hwg : rRt S (S 23 (6 * N v + 4)) (S 20 (S 23 (6 * N v))) = way at *
    split
    rotate_left
    · have hfl : rFate S (6 * N v) way ≤ 500 := by
        unfold rFate
        repeat' split
        all_goals decide
      first | exact hO.up (k := 23) hfl | exact hP.st i1
    rename_i c0
    have hl : ∃ l, l < S 1 0 ∧ way = nI l := by
      rcases hway with rfl | rfl | q
      · unfold rFate at c0
        rw [if_pos rfl] at c0
        cases c0
      · unfold rFate at c0
        rw [if_neg (by decide)] at c0
        split at c0
        · cases c0
        · rw [if_pos rfl] at c0
          cases c0
      · exact q
    obtain ⟨l, hl, rfl⟩ := hl
    have hN : N (nI l) = l := nI_clamp (by omega)
    rw [hN]
    split
    · first | exact hO | exact hP
    rename_i c80
    have w8 : 8 ≤ S 4 l := (h.1.2.1 l hl).2.1
    have be : S 2 (2 * l) ≤ 7 := hO 2 _
    have be' : S 2 (2 * l + 1) ≤ 7 := hO 2 _
    have hto : rOth S (S 23 (6 * N v + 4)) l ≤ 7 := by
      unfold rOth
      split <;> omega
    have hst : 1 ≤ rStep S l (S 23 (6 * N v + 2)) ∧ rStep S l (S 23 (6 * N v + 2)) ≤ S 23 (6 * N v + 2) := by
      unfold rStep
      split <;> omega
    generalize rStep S l (S 23 (6 * N v + 2)) = st at *
    generalize rOth S (S 23 (6 * N v + 4)) l = to at *
    have hcn : (S 23 (6 * N v + 2) - 1) / st * st < S 23 (6 * N v + 2) := by
      have := Nat.div_mul_le_self (S 23 (6 * N v + 2) - 1) st
      omega
    have r := rSplt_in (S := rMove S (6 * N v) to st) (rMove_ok hO hto (by omega)) (hP.mv i0 i1 hto hst.1 hst.2) (pk := S 23 (6 * N v)) (fi := S 23 (6 * N v + 1)) (n := S 23 (6 * N v + 2)) (li := S 23 (6 * N v + 3) - 1) g1 g2 g4 hst.1 (by omega) hto ((S 23 (6 * N v + 2) - 1) / st) (show S 22 0 + _ ≤ 80 by omega) hcn
    first | exact r.1 | exact r.2
end MT
/-- what ended depends on the pieces and the packets alone -/
theorem cB.congr {S S' : Nat → Nat → Nat} {B : Nat → Nat → Int64} (h : cB S B) (h18 : S' 18 = S 18) (h22 : S' 22 = S 22) (h23 : S' 23 = S 23) : cB S' B := by
  intro p r i hp hr hi
  rw [h18] at hp
  rw [h p r i hp hr hi]
  unfold rArr rBr
  rw [h22, h23]
