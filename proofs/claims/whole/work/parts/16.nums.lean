/-! NUMBERS: every int of the programs is nI of a natural number, but for a few answers -/
theorem k_ints : Int32.ofInt (-1) = -1 ∧ Int32.ofInt 0 = nI 0 ∧ Int32.ofInt 1 = nI 1 ∧ Int32.ofInt 2 = nI 2 ∧ Int32.ofInt 3 = nI 3 ∧ Int32.ofInt 4 = nI 4 ∧ Int32.ofInt 5 = nI 5 ∧
    (Int8.ofInt 6).toInt32 = nI 6 ∧ (Int8.ofInt 7).toInt32 = nI 7 ∧ (Int8.ofInt 8).toInt32 = nI 8 ∧ (Int8.ofInt 12).toInt32 = nI 12 ∧ (Int8.ofInt 13).toInt32 = nI 13 ∧ (Int8.ofInt 16).toInt32 = nI 16 ∧ (Int8.ofInt 20).toInt32 = nI 20 ∧ (Int8.ofInt 24).toInt32 = nI 24 ∧ (Int8.ofInt 31).toInt32 = nI 31 ∧ (Int8.ofInt 32).toInt32 = nI 32 ∧ (Int8.ofInt 50).toInt32 = nI 50 ∧ (Int8.ofInt 64).toInt32 = nI 64 ∧ (Int8.ofInt 80).toInt32 = nI 80 ∧ (Int8.ofInt 127).toInt32 = nI 127 ∧
    (Int8.ofInt (-2)).toInt32 = -2 ∧ (Int8.ofInt (-3)).toInt32 = -3 ∧ (Int8.ofInt (-4)).toInt32 = -4 ∧
    (Int16.ofInt 255).toInt32 = nI 255 ∧ (Int16.ofInt 480).toInt32 = nI 480 ∧ (Int16.ofInt 486).toInt32 = nI 486 ∧ (Int16.ofInt 499).toInt32 = nI 499 ∧ (Int16.ofInt 500).toInt32 = nI 500 ∧ (Int16.ofInt 999).toInt32 = nI 999 ∧ (Int16.ofInt 1000).toInt32 = nI 1000 ∧ (Int16.ofInt 1030).toInt32 = nI 1030 ∧ (Int16.ofInt 3090).toInt32 = nI 3090 ∧ Int32.ofNat 1000000 = nI 1000000 := by
  refine ⟨?_, ?_, ?_, ?_, ?_, ?_, ?_, ?_, ?_, ?_, ?_, ?_, ?_, ?_, ?_, ?_, ?_, ?_, ?_, ?_, ?_, ?_, ?_, ?_, ?_, ?_, ?_, ?_, ?_, ?_, ?_, ?_, ?_, ?_⟩ <;> decide +kernel
theorem k_upd (g : Nat → Nat) (k v : Nat) : upd (fun i => nI (g i)) k (nI v) = fun i => nI (va_up g k v i) := by
  funext i
  unfold upd va_up
  by_cases h : i = k <;> simp [h]
theorem k_lt0 {a : Nat} (h : a < 2 ^ 31) : (nI a < 0) ↔ False := ⟨fun q => nI_pos h q, False.elim⟩
theorem k_0le {a : Nat} (h : a < 2 ^ 31) : (0 ≤ nI a) ↔ True := ⟨fun _ => trivial, fun _ => nI_pos' h⟩
theorem k_eq0 {a : Nat} (h : a < 2 ^ 31) : (nI a = 0) ↔ a = 0 := by
  rw [← nI_0]; exact nI_eq h (by decide)
theorem k_0lt {a : Nat} (h : a < 2 ^ 31) : (0 < nI a) ↔ 0 < a := by
  rw [← nI_0]; exact nI_ltI (by decide) h
theorem k_le0 {a : Nat} (h : a < 2 ^ 31) : (nI a ≤ 0) ↔ a = 0 := by
  rw [← nI_0, nI_leI h (by decide)]; omega
theorem k_in {a n : Nat} (h : a < n) (hn : n < 2 ^ 31) : vp_in (nI a) n := vp_in_nI h hn
theorem k_or (a b : Nat) : nI a ||| nI b = nI (a ||| b) := by
  apply Int32.toBitVec_inj.mp
  show (nI a).toBitVec ||| (nI b).toBitVec = (nI (a ||| b)).toBitVec
  show BitVec.ofNat 32 a ||| BitVec.ofNat 32 b = BitVec.ofNat 32 (a ||| b)
  rw [BitVec.ofNat_or]
theorem k_and (a b : Nat) : nI a &&& nI b = nI (a &&& b) := by
  apply Int32.toBitVec_inj.mp
  show BitVec.ofNat 32 a &&& BitVec.ofNat 32 b = BitVec.ofNat 32 (a &&& b)
  rw [BitVec.ofNat_and]
theorem k_sh {n : Nat} (h : n < 32) : ((nI n &&& 31).toBitVec.smod 32).toNat = n := by
  have : ∀ n, n < 32 → ((nI n &&& 31).toBitVec.smod 32).toNat = n := by decide +kernel
  exact this n h
theorem k_shl {n s : Nat} (hs : s < 32) (h : n * 2 ^ s < 2 ^ 32) : nI n <<< (nI s &&& 31) = nI (n * 2 ^ s) := pk_shlN _ s (k_sh hs) h
theorem k_shr {n s : Nat} (hs : s < 32) (h : n < 2 ^ 31) : nI n >>> (nI s &&& 31) = nI (n / 2 ^ s) := pk_shrN h _ s (k_sh hs)
/-! WORLDS BY NAMES: a name is a kind and a number; al tells which live, ad where, ct what lies there -/
def n_inj (al : Nat → Nat → Prop) (ad : Nat → Nat → Nat) : Prop := ∀ k i k' i', al k i → al k' i' → ad k i = ad k' i' → k = k' ∧ i = i'
noncomputable def nW (al : Nat → Nat → Prop) (ad : Nat → Nat → Nat) (ct : Nat → Nat → jE) : jW := fun q => @dite (Option jE) (∃ p : Nat × Nat, al p.1 p.2 ∧ ad p.1 p.2 = q) (Classical.propDecidable _) (fun h => some (ct h.choose.1 h.choose.2)) (fun _ => none)
theorem nW_get {al : Nat → Nat → Prop} {ad : Nat → Nat → Nat} (ct : Nat → Nat → jE) (hI : n_inj al ad) {k i : Nat} (h : al k i) : nW al ad ct (ad k i) = some (ct k i) := by
  have hx : ∃ p : Nat × Nat, al p.1 p.2 ∧ ad p.1 p.2 = ad k i := ⟨(k, i), h, rfl⟩
  unfold nW
  rw [dif_pos hx]
  obtain ⟨h1, h2⟩ := hx.choose_spec
  obtain ⟨e1, e2⟩ := hI _ _ _ _ h1 h h2
  rw [e1, e2]
theorem nW_none {al : Nat → Nat → Prop} {ad : Nat → Nat → Nat} {ct : Nat → Nat → jE} {q : Nat} : nW al ad ct q = none ↔ ∀ k i, al k i → ad k i ≠ q := by
  unfold nW
  constructor
  · intro h k i hk e
    rw [dif_pos ⟨(k, i), hk, e⟩] at h
    cases h
  · intro h
    rw [dif_neg]
    rintro ⟨p, h1, h2⟩
    exact h _ _ h1 h2
def n_up {α : Type} (f : Nat → Nat → α) (k i : Nat) (v : α) : Nat → Nat → α := fun k' i' => if k' = k ∧ i' = i then v else f k' i'
theorem n_up_self {α : Type} (f : Nat → Nat → α) (k i : Nat) (v : α) : n_up f k i v k i = v := by simp [n_up]
theorem n_up_ne {α : Type} (f : Nat → Nat → α) {k i k' i' : Nat} (v : α) (h : ¬ (k' = k ∧ i' = i)) : n_up f k i v k' i' = f k' i' := by simp [n_up, h]
/-- two worlds by names are one, if the same names live, at the same places, with the same contents -/
theorem nW_congr {al al' : Nat → Nat → Prop} {ad ad' : Nat → Nat → Nat} {ct ct' : Nat → Nat → jE} (hI : n_inj al ad) (hal : ∀ k i, al k i ↔ al' k i) (had : ∀ k i, al k i → ad k i = ad' k i) (hct : ∀ k i, al k i → ct k i = ct' k i) : nW al ad ct = nW al' ad' ct' := by
  have hI' : n_inj al' ad' := fun k i k' i' h1 h2 e => hI k i k' i' ((hal k i).mpr h1) ((hal k' i').mpr h2) (by rw [had _ _ ((hal k i).mpr h1), had _ _ ((hal k' i').mpr h2)]; exact e)
  funext q
  by_cases hq : ∃ p : Nat × Nat, al p.1 p.2 ∧ ad p.1 p.2 = q
  · obtain ⟨p, h1, h2⟩ := hq
    rw [← h2, nW_get ct hI h1, had _ _ h1, nW_get ct' hI' ((hal _ _).mp h1), hct _ _ h1]
  · have n1 : nW al ad ct q = none := nW_none.mpr (fun k i hk e => hq ⟨(k, i), hk, e⟩)
    have n2 : nW al' ad' ct' q = none := nW_none.mpr (fun k i hk e => hq ⟨(k, i), (hal k i).mpr hk, by rw [had _ _ ((hal k i).mpr hk)]; exact e⟩)
    rw [n1, n2]
theorem nW_put {al : Nat → Nat → Prop} {ad : Nat → Nat → Nat} (ct ct' : Nat → Nat → jE) (hI : n_inj al ad) {k i : Nat} (h : al k i) {e : jE} (he : ct' k i = e) (ho : ∀ k' i', al k' i' → ¬ (k' = k ∧ i' = i) → ct' k' i' = ct k' i') : j_up (nW al ad ct) (ad k i) e = nW al ad ct' := by
  funext q
  by_cases hq : q = ad k i
  · subst hq
    rw [j_up_self, nW_get ct' hI h, he]
  · rw [j_up_ne _ _ hq]
    by_cases hx : ∃ p : Nat × Nat, al p.1 p.2 ∧ ad p.1 p.2 = q
    · obtain ⟨p, h1, h2⟩ := hx
      rw [← h2, nW_get ct hI h1, nW_get ct' hI h1, ho _ _ h1]
      rintro ⟨e1, e2⟩
      apply hq
      rw [← h2, e1, e2]
    · rw [nW_none.mpr (fun k i hk e => hx ⟨(k, i), hk, e⟩), nW_none.mpr (fun k i hk e => hx ⟨(k, i), hk, e⟩)]
/-- a new name at a free place -/
theorem nW_new {al al' : Nat → Nat → Prop} {ad : Nat → Nat → Nat} (ct ct' : Nat → Nat → jE) (hI : n_inj al ad) {k i q : Nat} (hq : nW al ad ct q = none) (hk : ¬ al k i) (hal : ∀ k' i', al' k' i' ↔ (al k' i' ∨ (k' = k ∧ i' = i))) {e : jE} (he : ct' k i = e) (ho : ∀ k' i', al k' i' → ct' k' i' = ct k' i') :
    n_inj al' (n_up ad k i q) ∧ j_up (nW al ad ct) q e = nW al' (n_up ad k i q) ct' := by
  have hn := nW_none.mp hq
  have hne : ∀ {k' i' : Nat}, al k' i' → ¬ (k' = k ∧ i' = i) := fun h1 h2 => hk (by rw [← h2.1, ← h2.2]; exact h1)
  have hI' : n_inj al' (n_up ad k i q) := by
    intro a b a' b' h1 h2 e1
    rcases (hal a b).mp h1 with h1 | ⟨rfl, rfl⟩ <;> rcases (hal a' b').mp h2 with h2 | ⟨rfl, rfl⟩
    · rw [n_up_ne _ _ (hne h1), n_up_ne _ _ (hne h2)] at e1
      exact hI _ _ _ _ h1 h2 e1
    · rw [n_up_ne _ _ (hne h1), n_up_self] at e1
      exact absurd e1 (hn _ _ h1)
    · rw [n_up_self, n_up_ne _ _ (hne h2)] at e1
      exact absurd e1.symm (hn _ _ h2)
    · exact ⟨rfl, rfl⟩
  refine ⟨hI', ?_⟩
  funext z
  by_cases hz : z = q
  · subst hz
    have h1 := nW_get ct' hI' ((hal k i).mpr (Or.inr ⟨rfl, rfl⟩))
    rw [n_up_self] at h1
    rw [j_up_self, h1, he]
  · rw [j_up_ne _ _ hz]
    by_cases hx : ∃ p : Nat × Nat, al p.1 p.2 ∧ ad p.1 p.2 = z
    · obtain ⟨p, h1, h2⟩ := hx
      have h3 := nW_get ct' hI' ((hal p.1 p.2).mpr (Or.inl h1))
      rw [n_up_ne _ _ (hne h1)] at h3
      rw [← h2, nW_get ct hI h1, h3, ho _ _ h1]
    · rw [nW_none.mpr (fun k i hk e => hx ⟨(k, i), hk, e⟩)]
      symm
      apply nW_none.mpr
      intro a b hab e1
      rcases (hal a b).mp hab with hab | ⟨rfl, rfl⟩
      · rw [n_up_ne _ _ (hne hab)] at e1
        exact hx ⟨(a, b), hab, e1⟩
      · rw [n_up_self] at e1
        exact hz e1.symm
