/-! THE CLASS'S WORLD: writes -/
theorem nW_up {al : Nat → Nat → Prop} {ad : Nat → Nat → Nat} (ct : Nat → Nat → jE) {k i : Nat} {e : jE} (hI : n_inj (fun a b => al a b ∨ (a = k ∧ b = i)) ad) : j_up (nW al ad ct) (ad k i) e = nW (fun a b => al a b ∨ (a = k ∧ b = i)) ad (n_up ct k i e) := by
  have hI0 : n_inj al ad := n_inj_congr (fun _ _ h => Or.inl h) hI
  funext q
  by_cases hq : q = ad k i
  · subst hq
    rw [j_up_self, nW_get _ hI (Or.inr ⟨rfl, rfl⟩), n_up_self]
  · rw [j_up_ne _ _ hq]
    by_cases hx : ∃ p : Nat × Nat, al p.1 p.2 ∧ ad p.1 p.2 = q
    · obtain ⟨p, h1, h2⟩ := hx
      rw [← h2, nW_get ct hI0 h1, nW_get _ hI (Or.inl h1), n_up_ne]
      rintro ⟨e1, e2⟩
      apply hq
      rw [← h2, e1, e2]
    · rw [nW_none.mpr (fun k i hk e => hx ⟨(k, i), hk, e⟩)]
      symm
      apply nW_none.mpr
      rintro a b (h | ⟨rfl, rfl⟩) e1
      · exact hx ⟨(a, b), h, e1⟩
      · exact hq e1.symm
theorem cAl_eq {S S' : Nat → Nat → Nat} (h1 : S' 1 0 = S 1 0) (h8 : S' 8 0 = S 8 0) (h18 : S' 18 0 = S 18 0) (h22 : S' 22 0 = S 22 0) : cAl S = cAl S' := by
  funext k i
  exact propext (cAl_congr h1 h8 h18 h22 k i).symm
theorem cW_al {S S' : Nat → Nat → Nat} {ad : Nat → Nat → Nat} {ct : Nat → Nat → jE} (h1 : S' 1 0 = S 1 0) (h8 : S' 8 0 = S 8 0) (h18 : S' 18 0 = S 18 0) (h22 : S' 22 0 = S 22 0) : nW (cAl S) ad ct = nW (cAl S') ad ct := by rw [cAl_eq h1 h8 h18 h22]
theorem cInj {S S' : Nat → Nat → Nat} {ad : Nat → Nat → Nat} (h1 : S' 1 0 = S 1 0) (h8 : S' 8 0 = S 8 0) (h18 : S' 18 0 = S 18 0) (h22 : S' 22 0 = S 22 0) (hI : n_inj (cAl S) ad) : n_inj (cAl S') ad := by rw [← cAl_eq h1 h8 h18 h22]; exact hI
theorem cRow_lt {n j : Nat} {g : Nat → Nat} (h : j < n) : cRow n g j = some (g j) := if_pos h
theorem cAds_0 {n j : Nat} {f ad : Nat → Nat} (h : f j = 0) : cAds n f ad j = none := if_neg (fun q => q.2 h)
theorem cAds_1 {n j : Nat} {f ad : Nat → Nat} (h1 : j < n) (h : ¬ f j = 0) : cAds n f ad j = some (ad (f j)) := if_pos ⟨h1, h⟩
theorem cPre_lt {n j : Nat} {f : Nat → Nat} (h : j < n) : cPre n f j = nI (enc (f j)) := if_pos h
theorem va_up_c {α : Type} (f : Nat → α) (k j : Nat) (v : α) : va_up f k v j = if j = k then v else f j := rfl
theorem cPre_up {n b k v : Nat} {f : Nat → Nat} (hk : k < n) : upd (cPre n (fun j => f (b + j))) k (nI (enc v)) = cPre n (fun j => va_up f (b + k) v (b + j)) := by
  funext j
  show (if j = k then nI (enc v) else cPre n (fun j => f (b + j)) j) = _
  unfold cPre
  dsimp only
  by_cases h : j = k
  · subst h
    rw [if_pos rfl, if_pos hk, va_up_self]
  · rw [if_neg h, va_up_ne _ _ (by omega)]
theorem cPre_u {n b c k v : Nat} {f : Nat → Nat} (h : ∀ j, j < n → c + j ≠ k) : cPre n (fun j => va_up f k v (c + j)) = cPre n (fun j => f (c + j)) := by
  funext j
  unfold cPre
  dsimp only
  by_cases h1 : j < n
  · rw [if_pos h1, if_pos h1, va_up_ne _ _ (h j h1)]
  · rw [if_neg h1, if_neg h1]
theorem cAds_up {n b k v : Nat} {f ad : Nat → Nat} (hk : k < n) (hv : ¬ v = 0) : va_up (cAds n (fun j => f (b + j)) ad) k (some (ad v)) = cAds n (fun j => va_up f (b + k) v (b + j)) ad := by
  funext j
  rw [va_up_c]
  unfold cAds
  dsimp only
  by_cases h : j = k
  · subst h
    simp only [va_up_self, hk, hv, if_true, not_false_eq_true, and_self]
  · have e : b + j ≠ b + k := by omega
    simp only [h, if_false, va_up_ne _ _ e]
theorem cAds_u {n c k v : Nat} {f ad : Nat → Nat} (h : ∀ j, j < n → c + j ≠ k) : cAds n (fun j => va_up f k v (c + j)) ad = cAds n (fun j => f (c + j)) ad := by
  funext j
  unfold cAds
  dsimp only
  by_cases h1 : j < n
  · simp only [va_up_ne _ _ (h j h1)]
  · rw [if_neg (fun q => h1 q.1), if_neg (fun q => h1 q.1)]
theorem sA_17 {S : Nat → Nat → Nat} {g : Nat → Nat} {X : Nat → Nat → Nat} {B : Nat → Nat → Int64} {A : Nat → Nat → Int32} {ad : Nat → Nat → Nat} (hI : n_inj (cAl S) ad) : cW (sA S 17 g) X B A ad = cW S X B A ad := (cW_congr hI (fun z h _ => sA_ne S g h)).symm
theorem cp_owned {S X : Nat → Nat → Nat} {B : Nat → Nat → Int64} {A : Nat → Nat → Int32} {ad : Nat → Nat → Nat} {i n : Nat} (hI : n_inj (cAl S) ad) (h : i < 8) : j_up (cW S X B A ad) (ad 2 i) (.inr (1, [.ref (ad 3 i), .ref (ad 4 i), .int (nI n), .int (nI (S 14 i))])) = cW (sA S 6 (va_up (S 6) i n)) X B A ad := by
  refine (nW_put (cCt S X B A ad) (cCt (sA S 6 (va_up (S 6) i n)) X B A ad) hI (show cAl S 2 i from h) ?_ ?_).trans (cW_al rfl rfl rfl rfl)
  · simp (disch := first | omega | decide) only [cCt, sA_self, sA_ne, va_up_self, va_up_ne]
  · intro k' i' hk hne
    unfold cCt
    split <;> first | rfl | skip
    · have hne : ¬ i' = i := fun e => hne ⟨rfl, e⟩
      simp (disch := first | omega | decide) only [cCt, sA_self, sA_ne, va_up_self, va_up_ne]
theorem cp_told {S X : Nat → Nat → Nat} {B : Nat → Nat → Int64} {A : Nat → Nat → Int32} {ad : Nat → Nat → Nat} {i n : Nat} (hI : n_inj (cAl S) ad) (h : i < 8) : j_up (cW S X B A ad) (ad 2 i) (.inr (1, [.ref (ad 3 i), .ref (ad 4 i), .int (nI (S 6 i)), .int (nI n)])) = cW (sA S 14 (va_up (S 14) i n)) X B A ad := by
  refine (nW_put (cCt S X B A ad) (cCt (sA S 14 (va_up (S 14) i n)) X B A ad) hI (show cAl S 2 i from h) ?_ ?_).trans (cW_al rfl rfl rfl rfl)
  · simp (disch := first | omega | decide) only [cCt, sA_self, sA_ne, va_up_self, va_up_ne]
  · intro k' i' hk hne
    unfold cCt
    split <;> first | rfl | skip
    · have hne : ¬ i' = i := fun e => hne ⟨rfl, e⟩
      simp (disch := first | omega | decide) only [cCt, sA_self, sA_ne, va_up_self, va_up_ne]
theorem cp_own {S X : Nat → Nat → Nat} {B : Nat → Nat → Int64} {A : Nat → Nat → Int32} {ad : Nat → Nat → Nat} {i k v : Nat} (hI : n_inj (cAl S) ad) (h : i < 8) (hk : k < 3) : j_up (cW S X B A ad) (ad 3 i) (.inl (0, 3, .inl (upd (cPre 3 (fun j => S 7 (3 * i + j))) k (nI (enc v))))) = cW (sA S 7 (va_up (S 7) (3 * i + k) v)) X B A ad := by
  refine (nW_put (cCt S X B A ad) (cCt (sA S 7 (va_up (S 7) (3 * i + k) v)) X B A ad) hI (show cAl S 3 i from h) ?_ ?_).trans (cW_al rfl rfl rfl rfl)
  · rw [cPre_up hk]; rfl
  · intro k' i' hk hne
    unfold cCt
    split <;> first | rfl | skip
    · have hne : ¬ i' = i := fun e => hne ⟨rfl, e⟩
      show Sum.inl (0, 3, Sum.inl (cPre 3 (fun j => va_up (S 7) (3 * i + k) v (3 * i' + j)))) = _
      rw [cPre_u (b := 0) (fun j hj => by omega)]
theorem cp_adv {S X : Nat → Nat → Nat} {B : Nat → Nat → Int64} {A : Nat → Nat → Int32} {ad : Nat → Nat → Nat} {i k v : Nat} (hI : n_inj (cAl S) ad) (h : i < 8) (hk : k < 8) (hv : ¬ v = 0) : j_up (cW S X B A ad) (ad 4 i) (.inl (7, 8, qA (va_up (cAds 8 (fun j => S 15 (8 * i + j)) (ad 18)) k (some (ad 18 v))))) = cW (sA S 15 (va_up (S 15) (8 * i + k) v)) X B A ad := by
  refine (nW_put (cCt S X B A ad) (cCt (sA S 15 (va_up (S 15) (8 * i + k) v)) X B A ad) hI (show cAl S 4 i from h) ?_ ?_).trans (cW_al rfl rfl rfl rfl)
  · rw [cAds_up hk hv]; rfl
  · intro k' i' hk hne
    unfold cCt
    split <;> first | rfl | skip
    · have hne : ¬ i' = i := fun e => hne ⟨rfl, e⟩
      show Sum.inl (7, 8, qA (cAds 8 (fun j => va_up (S 15) (8 * i + k) v (8 * i' + j)) (ad 18))) = _
      rw [cAds_u (fun j hj => by omega)]
theorem cp_up {S X : Nat → Nat → Nat} {B : Nat → Nat → Int64} {A : Nat → Nat → Int32} {ad : Nat → Nat → Nat} {i n : Nat} (hI : n_inj (cAl S) ad) (h : i < S 1 0) : j_up (cW S X B A ad) (ad 6 i) (.inr (2, [.int (nI (S 2 (2 * i))), .int (nI (S 2 (2 * i + 1))), .int (nI (S 3 i)), .int (nI (S 4 i)), .ref (ad 7 (2 * i)), .ref (ad 7 (2 * i + 1)), .int (nI n)])) = cW (sA S 5 (va_up (S 5) i n)) X B A ad := by
  refine (nW_put (cCt S X B A ad) (cCt (sA S 5 (va_up (S 5) i n)) X B A ad) hI (show cAl S 6 i from h) ?_ ?_).trans (cW_al rfl rfl rfl rfl)
  · simp (disch := first | omega | decide) only [cCt, sA_self, sA_ne, va_up_self, va_up_ne]
  · intro k' i' hk hne
    unfold cCt
    split <;> first | rfl | skip
    · have hne : ¬ i' = i := fun e => hne ⟨rfl, e⟩
      simp (disch := first | omega | decide) only [cCt, sA_self, sA_ne, va_up_self, va_up_ne]
theorem cp_lane {S X : Nat → Nat → Nat} {B : Nat → Nat → Int64} {A : Nat → Nat → Int32} {ad : Nat → Nat → Nat} {i m n : Nat} (hI : n_inj (cAl S) ad) (h : i < 2 * S 1 0) : j_up (cW S X B A ad) (ad 7 i) (.inr (3, [.ref (ad 8 i), .int (nI m), .int (nI n)])) = cW (sA S 16 (va_up (S 16) i n)) (sA X 0 (va_up (X 0) i m)) B A ad := by
  refine (nW_put (cCt S X B A ad) (cCt (sA S 16 (va_up (S 16) i n)) (sA X 0 (va_up (X 0) i m)) B A ad) hI (show cAl S 7 i from h) ?_ ?_).trans (cW_al rfl rfl rfl rfl)
  · simp (disch := first | omega | decide) only [cCt, sA_self, sA_ne, va_up_self, va_up_ne]
  · intro k' i' hk hne
    unfold cCt
    split <;> first | rfl | skip
    · have hne : ¬ i' = i := fun e => hne ⟨rfl, e⟩
      simp (disch := first | omega | decide) only [cCt, sA_self, sA_ne, va_up_self, va_up_ne]
theorem cp_cnt {S X : Nat → Nat → Nat} {B : Nat → Nat → Int64} {A : Nat → Nat → Int32} {ad : Nat → Nat → Nat} {i n : Nat} (hI : n_inj (cAl S) ad) (h : i < 2 * S 1 0) : j_up (cW S X B A ad) (ad 7 i) (.inr (3, [.ref (ad 8 i), .int (nI (X 0 i)), .int (nI n)])) = cW (sA S 16 (va_up (S 16) i n)) X B A ad := by
  refine (nW_put (cCt S X B A ad) (cCt (sA S 16 (va_up (S 16) i n)) X B A ad) hI (show cAl S 7 i from h) ?_ ?_).trans (cW_al rfl rfl rfl rfl)
  · simp (disch := first | omega | decide) only [cCt, sA_self, sA_ne, va_up_self, va_up_ne]
  · intro k' i' hk hne
    unfold cCt
    split <;> first | rfl | skip
    · have hne : ¬ i' = i := fun e => hne ⟨rfl, e⟩
      simp (disch := first | omega | decide) only [cCt, sA_self, sA_ne, va_up_self, va_up_ne]
theorem cp_ring {S X : Nat → Nat → Nat} {B : Nat → Nat → Int64} {A : Nat → Nat → Int32} {ad : Nat → Nat → Nat} {i k v : Nat} (hI : n_inj (cAl S) ad) (h : i < 2 * S 1 0) (hk : k < 20) (hv : ¬ v = 0) : j_up (cW S X B A ad) (ad 8 i) (.inl (7, 20, qA (va_up (cAds 20 (fun j => X 1 (20 * i + j)) (ad 18)) k (some (ad 18 v))))) = cW S (sA X 1 (va_up (X 1) (20 * i + k) v)) B A ad := by
  refine (nW_put (cCt S X B A ad) (cCt S (sA X 1 (va_up (X 1) (20 * i + k) v)) B A ad) hI (show cAl S 8 i from h) ?_ ?_).trans (cW_al rfl rfl rfl rfl)
  · rw [cAds_up hk hv]; rfl
  · intro k' i' hk hne
    unfold cCt
    split <;> first | rfl | skip
    · have hne : ¬ i' = i := fun e => hne ⟨rfl, e⟩
      show Sum.inl (7, 20, qA (cAds 20 (fun j => va_up (X 1) (20 * i + k) v (20 * i' + j)) (ad 18))) = _
      rw [cAds_u (fun j hj => by omega)]
theorem cp_bits {S X : Nat → Nat → Nat} {B : Nat → Nat → Int64} {A : Nat → Nat → Int32} {ad : Nat → Nat → Nat} {i : Nat} {b : Nat → Int64} (hI : n_inj (cAl S) ad) (h : i < S 18 0) : j_up (cW S X B A ad) (ad 11 i) (.inl (2, 64, .inr (.inl b))) = cW S X (va_up B i b) A ad := by
  refine (nW_put (cCt S X B A ad) (cCt S X (va_up B i b) A ad) hI (show cAl S 11 i from h) ?_ ?_).trans (cW_al rfl rfl rfl rfl)
  · simp (disch := first | omega | decide) only [cCt, sA_self, sA_ne, va_up_self, va_up_ne]
  · intro k' i' hk hne
    unfold cCt
    split <;> first | rfl | skip
    · have hne : ¬ i' = i := fun e => hne ⟨rfl, e⟩
      simp (disch := first | omega | decide) only [cCt, sA_self, sA_ne, va_up_self, va_up_ne]
theorem cp_bytes {S X : Nat → Nat → Nat} {B : Nat → Nat → Int64} {A : Nat → Nat → Int32} {ad : Nat → Nat → Nat} {i n : Nat} (hI : n_inj (cAl S) ad) (h : i < S 22 0) : j_up (cW S X B A ad) (ad 13 i) (.inr (7, [.int (nI (S 23 (6 * (i + 1)))), .int (nI (S 23 (6 * (i + 1) + 1))), .int (nI n), .int (nI (S 23 (6 * (i + 1) + 3))), .int (nI (S 23 (6 * (i + 1) + 4))), .int (nI (S 23 (6 * (i + 1) + 5)))])) = cW (sA S 23 (va_up (S 23) (6 * (i + 1) + 2) n)) X B A ad := by
  refine (nW_put (cCt S X B A ad) (cCt (sA S 23 (va_up (S 23) (6 * (i + 1) + 2) n)) X B A ad) hI (show cAl S 13 i from h) ?_ ?_).trans (cW_al rfl rfl rfl rfl)
  · simp (disch := first | omega | decide) only [cCt, sA_self, sA_ne, va_up_self, va_up_ne]
  · intro k' i' hk hne
    unfold cCt
    split <;> first | rfl | skip
    · have hne : ¬ i' = i := fun e => hne ⟨rfl, e⟩
      simp (disch := first | omega | decide) only [cCt, sA_self, sA_ne, va_up_self, va_up_ne]
theorem cp_life {S X : Nat → Nat → Nat} {B : Nat → Nat → Int64} {A : Nat → Nat → Int32} {ad : Nat → Nat → Nat} {i n : Nat} (hI : n_inj (cAl S) ad) (h : i < S 22 0) : j_up (cW S X B A ad) (ad 13 i) (.inr (7, [.int (nI (S 23 (6 * (i + 1)))), .int (nI (S 23 (6 * (i + 1) + 1))), .int (nI (S 23 (6 * (i + 1) + 2))), .int (nI n), .int (nI (S 23 (6 * (i + 1) + 4))), .int (nI (S 23 (6 * (i + 1) + 5)))])) = cW (sA S 23 (va_up (S 23) (6 * (i + 1) + 3) n)) X B A ad := by
  refine (nW_put (cCt S X B A ad) (cCt (sA S 23 (va_up (S 23) (6 * (i + 1) + 3) n)) X B A ad) hI (show cAl S 13 i from h) ?_ ?_).trans (cW_al rfl rfl rfl rfl)
  · simp (disch := first | omega | decide) only [cCt, sA_self, sA_ne, va_up_self, va_up_ne]
  · intro k' i' hk hne
    unfold cCt
    split <;> first | rfl | skip
    · have hne : ¬ i' = i := fun e => hne ⟨rfl, e⟩
      simp (disch := first | omega | decide) only [cCt, sA_self, sA_ne, va_up_self, va_up_ne]
theorem cp_at {S X : Nat → Nat → Nat} {B : Nat → Nat → Int64} {A : Nat → Nat → Int32} {ad : Nat → Nat → Nat} {i n : Nat} (hI : n_inj (cAl S) ad) (h : i < S 22 0) : j_up (cW S X B A ad) (ad 13 i) (.inr (7, [.int (nI (S 23 (6 * (i + 1)))), .int (nI (S 23 (6 * (i + 1) + 1))), .int (nI (S 23 (6 * (i + 1) + 2))), .int (nI (S 23 (6 * (i + 1) + 3))), .int (nI n), .int (nI (S 23 (6 * (i + 1) + 5)))])) = cW (sA S 23 (va_up (S 23) (6 * (i + 1) + 4) n)) X B A ad := by
  refine (nW_put (cCt S X B A ad) (cCt (sA S 23 (va_up (S 23) (6 * (i + 1) + 4) n)) X B A ad) hI (show cAl S 13 i from h) ?_ ?_).trans (cW_al rfl rfl rfl rfl)
  · simp (disch := first | omega | decide) only [cCt, sA_self, sA_ne, va_up_self, va_up_ne]
  · intro k' i' hk hne
    unfold cCt
    split <;> first | rfl | skip
    · have hne : ¬ i' = i := fun e => hne ⟨rfl, e⟩
      simp (disch := first | omega | decide) only [cCt, sA_self, sA_ne, va_up_self, va_up_ne]
theorem cp_state {S X : Nat → Nat → Nat} {B : Nat → Nat → Int64} {A : Nat → Nat → Int32} {ad : Nat → Nat → Nat} {i n : Nat} (hI : n_inj (cAl S) ad) (h : i < S 22 0) : j_up (cW S X B A ad) (ad 13 i) (.inr (7, [.int (nI (S 23 (6 * (i + 1)))), .int (nI (S 23 (6 * (i + 1) + 1))), .int (nI (S 23 (6 * (i + 1) + 2))), .int (nI (S 23 (6 * (i + 1) + 3))), .int (nI (S 23 (6 * (i + 1) + 4))), .int (nI n)])) = cW (sA S 23 (va_up (S 23) (6 * (i + 1) + 5) n)) X B A ad := by
  refine (nW_put (cCt S X B A ad) (cCt (sA S 23 (va_up (S 23) (6 * (i + 1) + 5) n)) X B A ad) hI (show cAl S 13 i from h) ?_ ?_).trans (cW_al rfl rfl rfl rfl)
  · simp (disch := first | omega | decide) only [cCt, sA_self, sA_ne, va_up_self, va_up_ne]
  · intro k' i' hk hne
    unfold cCt
    split <;> first | rfl | skip
    · have hne : ¬ i' = i := fun e => hne ⟨rfl, e⟩
      simp (disch := first | omega | decide) only [cCt, sA_self, sA_ne, va_up_self, va_up_ne]
def aA (A : Nat → Nat → Int32) (k : Nat) (g : Nat → Int32) : Nat → Nat → Int32 := fun k' => if k' = k then g else A k'
theorem cp_a15 {S X : Nat → Nat → Nat} {B : Nat → Nat → Int64} {A : Nat → Nat → Int32} {ad : Nat → Nat → Nat} {g : Nat → Int32} (hI : n_inj (cAl S) ad) : j_up (cW S X B A ad) (ad 15 0) (.inl (0, 8, .inl g)) = cW S X B (aA A 15 g) ad := by
  refine nW_put (cCt S X B A ad) (cCt S X B (aA A 15 g) ad) hI (show cAl S 15 0 from rfl) rfl ?_
  intro k' i' hk hne
  unfold cCt
  split <;> first | rfl | exact absurd ⟨rfl, hk⟩ hne
theorem cp_a16 {S X : Nat → Nat → Nat} {B : Nat → Nat → Int64} {A : Nat → Nat → Int32} {ad : Nat → Nat → Nat} {g : Nat → Int32} (hI : n_inj (cAl S) ad) : j_up (cW S X B A ad) (ad 16 0) (.inl (0, 8, .inl g)) = cW S X B (aA A 16 g) ad := by
  refine nW_put (cCt S X B A ad) (cCt S X B (aA A 16 g) ad) hI (show cAl S 16 0 from rfl) rfl ?_
  intro k' i' hk hne
  unfold cCt
  split <;> first | rfl | exact absurd ⟨rfl, hk⟩ hne
theorem cp_a17 {S X : Nat → Nat → Nat} {B : Nat → Nat → Int64} {A : Nat → Nat → Int32} {ad : Nat → Nat → Nat} {g : Nat → Int32} (hI : n_inj (cAl S) ad) : j_up (cW S X B A ad) (ad 17 0) (.inl (1, 12, .inl g)) = cW S X B (aA A 17 g) ad := by
  refine nW_put (cCt S X B A ad) (cCt S X B (aA A 17 g) ad) hI (show cAl S 17 0 from rfl) rfl ?_
  intro k' i' hk hne
  unfold cCt
  split <;> first | rfl | exact absurd ⟨rfl, hk⟩ hne
/-- names that do not live may lie anywhere -/
theorem cW_ad {S X : Nat → Nat → Nat} {B : Nat → Nat → Int64} {A : Nat → Nat → Int32} {ad : Nat → Nat → Nat} {ad' : Nat → Nat → Nat} (hI : n_inj (cAl S) ad) (h15 : ∀ i, S 15 i ≤ S 8 0) (hX : ∀ i, X 1 i ≤ S 8 0) (h : ∀ k i, cAl S k i → ad' k i = ad k i) : n_inj (cAl S) ad' ∧ cW S X B A ad = cW S X B A ad' := by
  refine ⟨fun k i k' i' h1 h2 e => hI k i k' i' h1 h2 (by rw [← h _ _ h1, ← h _ _ h2]; exact e), ?_⟩
  refine nW_congr hI (fun _ _ => Iff.rfl) (fun k i hk => (h k i hk).symm) (fun k i hk => ?_)
  have a1 : ∀ k, k = 1 ∨ k = 5 ∨ k = 9 ∨ k = 12 ∨ k = 14 ∨ k = 15 ∨ k = 16 ∨ k = 17 → ad k 0 = ad' k 0 := fun k hk => (h k 0 (by rcases hk with rfl | rfl | rfl | rfl | rfl | rfl | rfl | rfl <;> exact rfl)).symm
  have a2 : ∀ n k, (∀ j, j < n → cAl S k j) → cRow n (ad k) = cRow n (ad' k) := by
    intro n k hn
    funext j
    unfold cRow
    by_cases hj : j < n
    · rw [if_pos hj, if_pos hj, h k j (hn j hj)]
    · rw [if_neg hj, if_neg hj]
  have a3 : ∀ n f, (∀ j, f j ≤ S 8 0) → cAds n f (ad 18) = cAds n f (ad' 18) := by
    intro n f hf
    funext j
    unfold cAds
    by_cases hj : j < n ∧ ¬ f j = 0
    · rw [if_pos hj, if_pos hj, h 18 (f j) ⟨by omega, hf j⟩]
    · rw [if_neg hj, if_neg hj]
  unfold cCt
  unfold cAl at hk
  split <;> first | rfl | skip
  · rw [a1 1 (by omega), a1 5 (by omega), a1 9 (by omega), a1 12 (by omega), a1 14 (by omega)]
  · rw [a2 8 2 (fun j hj => hj)]
  · rw [h 3 i hk, h 4 i hk]
  · rw [a3 _ _ (fun j => h15 _)]
  · rw [a2 _ 6 (fun j hj => hj)]
  · rw [h 7 (2 * i) (show 2 * i < 2 * S 1 0 from by have : i < S 1 0 := hk; omega), h 7 (2 * i + 1) (show 2 * i + 1 < 2 * S 1 0 from by have : i < S 1 0 := hk; omega)]
  · rw [h 8 i hk]
  · rw [a3 _ _ (fun j => hX _)]
  · rw [a2 _ 10 (fun j hj => hj)]
  · rw [h 11 i hk]
  · rw [a2 _ 13 (fun j hj => hj)]
  · rw [a1 15 (by omega), a1 16 (by omega), a1 17 (by omega)]
  · rw [h 19 i hk]
