/-! THE REFERENCE'S WORLD: one object, twenty arrays; its numbers S: field, place; far by itself -/
def rIs (k : Nat) : Bool := k == 2 || k == 3 || k == 4 || k == 5 || k == 6 || k == 7 || k == 9 || k == 10 || k == 11 || k == 12 || k == 13 || k == 14 || k == 15 || k == 16 || k == 17 || k == 19 || k == 20 || k == 21 || k == 23 || k == 24
def rAl (k i : Nat) : Prop := i = 0 ∧ (k = 0 ∨ rIs k = true)
def rLen (k : Nat) : Nat := match k with
  | 2 => 24 | 3 => 12 | 4 => 12 | 5 => 12 | 6 => 8 | 7 => 24 | 9 => 1030 | 10 => 1030 | 11 => 1030 | 12 => 1030 | 13 => 3090 | 14 => 8 | 15 => 64 | 16 => 24 | 17 => 480 | 19 => 13 | 20 => 13 | 21 => 13 | 23 => 486 | _ => 8
def rOb (S : Nat → Nat → Nat) (ad : Nat → Nat → Nat) : List Value := [.int (nI (S 0 0)), .int (nI (S 1 0)), .ref (ad 2 0), .ref (ad 3 0), .ref (ad 4 0), .ref (ad 5 0), .ref (ad 6 0), .ref (ad 7 0), .int (nI (S 8 0)), .ref (ad 9 0), .ref (ad 10 0), .ref (ad 11 0), .ref (ad 12 0), .ref (ad 13 0), .ref (ad 14 0), .ref (ad 15 0), .ref (ad 16 0), .ref (ad 17 0), .int (nI (S 18 0)), .ref (ad 19 0), .ref (ad 20 0), .ref (ad 21 0), .int (nI (S 22 0)), .ref (ad 23 0), .ref (ad 24 0)]
def rCt (S : Nat → Nat → Nat) (F : Nat → Int32) (ad : Nat → Nat → Nat) (k _ : Nat) : jE := match k with
  | 0 => .inr (8, rOb S ad)
  | 5 => .inl (1, 12, .inl (fun i => nI (S 5 i)))
  | 21 => .inl (1, 13, .inl (fun i => nI (S 21 i)))
  | 24 => .inl (0, 8, .inl F)
  | k => .inl (0, rLen k, .inl (fun i => nI (S k i)))
noncomputable def rW (S : Nat → Nat → Nat) (F : Nat → Int32) (ad : Nat → Nat → Nat) : jW := nW rAl ad (rCt S F ad)
/-- a field's numbers anew -/
def sA (S : Nat → Nat → Nat) (k : Nat) (g : Nat → Nat) : Nat → Nat → Nat := fun k' => if k' = k then g else S k'
theorem rW_get {ad : Nat → Nat → Nat} (hI : n_inj rAl ad) : (∀ S F, rW S F ad (ad 0 0) = some (.inr (8, [.int (nI (S 0 0)), .int (nI (S 1 0)), .ref (ad 2 0), .ref (ad 3 0), .ref (ad 4 0), .ref (ad 5 0), .ref (ad 6 0), .ref (ad 7 0), .int (nI (S 8 0)), .ref (ad 9 0), .ref (ad 10 0), .ref (ad 11 0), .ref (ad 12 0), .ref (ad 13 0), .ref (ad 14 0), .ref (ad 15 0), .ref (ad 16 0), .ref (ad 17 0), .int (nI (S 18 0)), .ref (ad 19 0), .ref (ad 20 0), .ref (ad 21 0), .int (nI (S 22 0)), .ref (ad 23 0), .ref (ad 24 0)]))) ∧
    (∀ S F, rW S F ad (ad 2 0) = some (.inl (0, 24, .inl (fun i => nI (S 2 i))))) ∧
    (∀ S F, rW S F ad (ad 3 0) = some (.inl (0, 12, .inl (fun i => nI (S 3 i))))) ∧
    (∀ S F, rW S F ad (ad 4 0) = some (.inl (0, 12, .inl (fun i => nI (S 4 i))))) ∧
    (∀ S F, rW S F ad (ad 5 0) = some (.inl (1, 12, .inl (fun i => nI (S 5 i))))) ∧
    (∀ S F, rW S F ad (ad 6 0) = some (.inl (0, 8, .inl (fun i => nI (S 6 i))))) ∧
    (∀ S F, rW S F ad (ad 7 0) = some (.inl (0, 24, .inl (fun i => nI (S 7 i))))) ∧
    (∀ S F, rW S F ad (ad 9 0) = some (.inl (0, 1030, .inl (fun i => nI (S 9 i))))) ∧
    (∀ S F, rW S F ad (ad 10 0) = some (.inl (0, 1030, .inl (fun i => nI (S 10 i))))) ∧
    (∀ S F, rW S F ad (ad 11 0) = some (.inl (0, 1030, .inl (fun i => nI (S 11 i))))) ∧
    (∀ S F, rW S F ad (ad 12 0) = some (.inl (0, 1030, .inl (fun i => nI (S 12 i))))) ∧
    (∀ S F, rW S F ad (ad 13 0) = some (.inl (0, 3090, .inl (fun i => nI (S 13 i))))) ∧
    (∀ S F, rW S F ad (ad 14 0) = some (.inl (0, 8, .inl (fun i => nI (S 14 i))))) ∧
    (∀ S F, rW S F ad (ad 15 0) = some (.inl (0, 64, .inl (fun i => nI (S 15 i))))) ∧
    (∀ S F, rW S F ad (ad 16 0) = some (.inl (0, 24, .inl (fun i => nI (S 16 i))))) ∧
    (∀ S F, rW S F ad (ad 17 0) = some (.inl (0, 480, .inl (fun i => nI (S 17 i))))) ∧
    (∀ S F, rW S F ad (ad 19 0) = some (.inl (0, 13, .inl (fun i => nI (S 19 i))))) ∧
    (∀ S F, rW S F ad (ad 20 0) = some (.inl (0, 13, .inl (fun i => nI (S 20 i))))) ∧
    (∀ S F, rW S F ad (ad 21 0) = some (.inl (1, 13, .inl (fun i => nI (S 21 i))))) ∧
    (∀ S F, rW S F ad (ad 23 0) = some (.inl (0, 486, .inl (fun i => nI (S 23 i))))) ∧
    (∀ S F, rW S F ad (ad 24 0) = some (.inl (0, 8, .inl F))) := ⟨fun S F => nW_get _ hI ⟨rfl, by decide⟩,
    fun S F => nW_get _ hI ⟨rfl, by decide⟩,
    fun S F => nW_get _ hI ⟨rfl, by decide⟩,
    fun S F => nW_get _ hI ⟨rfl, by decide⟩,
    fun S F => nW_get _ hI ⟨rfl, by decide⟩,
    fun S F => nW_get _ hI ⟨rfl, by decide⟩,
    fun S F => nW_get _ hI ⟨rfl, by decide⟩,
    fun S F => nW_get _ hI ⟨rfl, by decide⟩,
    fun S F => nW_get _ hI ⟨rfl, by decide⟩,
    fun S F => nW_get _ hI ⟨rfl, by decide⟩,
    fun S F => nW_get _ hI ⟨rfl, by decide⟩,
    fun S F => nW_get _ hI ⟨rfl, by decide⟩,
    fun S F => nW_get _ hI ⟨rfl, by decide⟩,
    fun S F => nW_get _ hI ⟨rfl, by decide⟩,
    fun S F => nW_get _ hI ⟨rfl, by decide⟩,
    fun S F => nW_get _ hI ⟨rfl, by decide⟩,
    fun S F => nW_get _ hI ⟨rfl, by decide⟩,
    fun S F => nW_get _ hI ⟨rfl, by decide⟩,
    fun S F => nW_get _ hI ⟨rfl, by decide⟩,
    fun S F => nW_get _ hI ⟨rfl, by decide⟩,
    fun S F => nW_get _ hI ⟨rfl, by decide⟩⟩
theorem rCt_ob {S S' : Nat → Nat → Nat} {F F' : Nat → Int32} {ad : Nat → Nat → Nat} {k : Nat} (h : ∀ k', k' ≠ k → S' k' = S k') (hk : k ≠ 0) (hs : k = 1 ∨ k = 8 ∨ k = 18 ∨ k = 22 ∨ k = 24 ∨ rIs k = true) (hF : k = 24 ∨ F' = F) : ∀ k' i', rAl k' i' → ¬ (k' = k ∧ i' = 0) → k' ≠ 0 → rCt S' F' ad k' i' = rCt S F ad k' i' := by
  intro k' i' ha hn h0
  obtain ⟨rfl, ha⟩ := ha
  have hkk : k' ≠ k := fun e => hn ⟨e, rfl⟩
  unfold rCt
  split
  · exact absurd rfl h0
  · rw [h 5 hkk]
  · rw [h 21 hkk]
  · rcases hF with rfl | rfl
    · exact absurd rfl hkk
    · rfl
  · rw [h _ hkk]
theorem rW_putA {ad : Nat → Nat → Nat} (hI : n_inj rAl ad) {S : Nat → Nat → Nat} {F : Nat → Int32} {k : Nat} {g : Nat → Nat} {e : jE} (hk : rIs k = true) (h0 : k ≠ 0) (h1 : k ≠ 1 ∧ k ≠ 8 ∧ k ≠ 18 ∧ k ≠ 22) (he : rCt (sA S k g) F ad k 0 = e) : j_up (rW S F ad) (ad k 0) e = rW (sA S k g) F ad := by
  refine nW_put _ _ hI (k := k) (i := 0) ⟨rfl, Or.inr hk⟩ he (fun k' i' ha hn => ?_)
  by_cases h : k' = 0
  · subst h
    have hq : ∀ j, j ≠ k → sA S k g j = S j := fun j hj => by simp [sA, hj]
    have hz : rIs 0 = false := rfl
    have e0 : (0 : Nat) ≠ k := Ne.symm h0
    show (Sum.inr (8, rOb (sA S k g) ad) : jE) = Sum.inr (8, rOb S ad)
    unfold rOb
    rw [hq 0 e0, hq 1 (Ne.symm h1.1), hq 8 (Ne.symm h1.2.1), hq 18 (Ne.symm h1.2.2.1), hq 22 (Ne.symm h1.2.2.2)]
  · exact rCt_ob (k := k) (fun j hj => by simp [sA, hj]) h0 (Or.inr (Or.inr (Or.inr (Or.inr (Or.inr hk))))) (Or.inr rfl) k' i' ha hn h
theorem rW_putF {ad : Nat → Nat → Nat} (hI : n_inj rAl ad) {S : Nat → Nat → Nat} {F g : Nat → Int32} : j_up (rW S F ad) (ad 24 0) (.inl (0, 8, .inl g)) = rW S g ad := by
  refine nW_put _ _ hI (k := 24) (i := 0) ⟨rfl, Or.inr (by decide)⟩ rfl (fun k' i' ha hn => ?_)
  by_cases h : k' = 0
  · subst h
    rfl
  · exact rCt_ob (k := 24) (fun j hj => rfl) (by decide) (by decide) (Or.inl rfl) k' i' ha hn h
theorem rW_putS {ad : Nat → Nat → Nat} (hI : n_inj rAl ad) {S : Nat → Nat → Nat} {F : Nat → Int32} {k v : Nat} {e : jE} (hk : k = 1 ∨ k = 8 ∨ k = 18 ∨ k = 22) (he : rCt (sA S k (fun _ => v)) F ad 0 0 = e) : j_up (rW S F ad) (ad 0 0) e = rW (sA S k (fun _ => v)) F ad := by
  refine nW_put _ _ hI (k := 0) (i := 0) ⟨rfl, Or.inl rfl⟩ he (fun k' i' ha hn => ?_)
  have h0 : k' ≠ 0 := fun e => hn ⟨e, ha.1⟩
  have hkk : k' ≠ k := by
    rintro rfl
    obtain ⟨-, ha⟩ := ha
    rcases ha with ha | ha
    · exact h0 ha
    · rcases hk with rfl | rfl | rfl | rfl <;> cases ha
  refine rCt_ob (k := k) (fun j hj => by simp [sA, hj]) ?_ ?_ (Or.inr rfl) k' i' ha (fun q => hkk q.1) h0
  · rcases hk with rfl | rfl | rfl | rfl <;> decide
  · rcases hk with rfl | rfl | rfl | rfl <;> decide
theorem rW_put {ad : Nat → Nat → Nat} (hI : n_inj rAl ad) : (∀ S F g, j_up (rW S F ad) (ad 2 0) (.inl (0, 24, .inl (fun i => nI (g i)))) = rW (sA S 2 g) F ad) ∧
    (∀ S F g, j_up (rW S F ad) (ad 3 0) (.inl (0, 12, .inl (fun i => nI (g i)))) = rW (sA S 3 g) F ad) ∧
    (∀ S F g, j_up (rW S F ad) (ad 4 0) (.inl (0, 12, .inl (fun i => nI (g i)))) = rW (sA S 4 g) F ad) ∧
    (∀ S F g, j_up (rW S F ad) (ad 5 0) (.inl (1, 12, .inl (fun i => nI (g i)))) = rW (sA S 5 g) F ad) ∧
    (∀ S F g, j_up (rW S F ad) (ad 6 0) (.inl (0, 8, .inl (fun i => nI (g i)))) = rW (sA S 6 g) F ad) ∧
    (∀ S F g, j_up (rW S F ad) (ad 7 0) (.inl (0, 24, .inl (fun i => nI (g i)))) = rW (sA S 7 g) F ad) ∧
    (∀ S F g, j_up (rW S F ad) (ad 9 0) (.inl (0, 1030, .inl (fun i => nI (g i)))) = rW (sA S 9 g) F ad) ∧
    (∀ S F g, j_up (rW S F ad) (ad 10 0) (.inl (0, 1030, .inl (fun i => nI (g i)))) = rW (sA S 10 g) F ad) ∧
    (∀ S F g, j_up (rW S F ad) (ad 11 0) (.inl (0, 1030, .inl (fun i => nI (g i)))) = rW (sA S 11 g) F ad) ∧
    (∀ S F g, j_up (rW S F ad) (ad 12 0) (.inl (0, 1030, .inl (fun i => nI (g i)))) = rW (sA S 12 g) F ad) ∧
    (∀ S F g, j_up (rW S F ad) (ad 13 0) (.inl (0, 3090, .inl (fun i => nI (g i)))) = rW (sA S 13 g) F ad) ∧
    (∀ S F g, j_up (rW S F ad) (ad 14 0) (.inl (0, 8, .inl (fun i => nI (g i)))) = rW (sA S 14 g) F ad) ∧
    (∀ S F g, j_up (rW S F ad) (ad 15 0) (.inl (0, 64, .inl (fun i => nI (g i)))) = rW (sA S 15 g) F ad) ∧
    (∀ S F g, j_up (rW S F ad) (ad 16 0) (.inl (0, 24, .inl (fun i => nI (g i)))) = rW (sA S 16 g) F ad) ∧
    (∀ S F g, j_up (rW S F ad) (ad 17 0) (.inl (0, 480, .inl (fun i => nI (g i)))) = rW (sA S 17 g) F ad) ∧
    (∀ S F g, j_up (rW S F ad) (ad 19 0) (.inl (0, 13, .inl (fun i => nI (g i)))) = rW (sA S 19 g) F ad) ∧
    (∀ S F g, j_up (rW S F ad) (ad 20 0) (.inl (0, 13, .inl (fun i => nI (g i)))) = rW (sA S 20 g) F ad) ∧
    (∀ S F g, j_up (rW S F ad) (ad 21 0) (.inl (1, 13, .inl (fun i => nI (g i)))) = rW (sA S 21 g) F ad) ∧
    (∀ S F g, j_up (rW S F ad) (ad 23 0) (.inl (0, 486, .inl (fun i => nI (g i)))) = rW (sA S 23 g) F ad) ∧
    (∀ S F g, j_up (rW S F ad) (ad 24 0) (.inl (0, 8, .inl g)) = rW S g ad) ∧
    (∀ S F v x0 x8 x18 x22, S 0 0 = x0 → S 8 0 = x8 → S 18 0 = x18 → S 22 0 = x22 → j_up (rW S F ad) (ad 0 0) (.inr (8, [.int (nI x0), .int (nI v), .ref (ad 2 0), .ref (ad 3 0), .ref (ad 4 0), .ref (ad 5 0), .ref (ad 6 0), .ref (ad 7 0), .int (nI x8), .ref (ad 9 0), .ref (ad 10 0), .ref (ad 11 0), .ref (ad 12 0), .ref (ad 13 0), .ref (ad 14 0), .ref (ad 15 0), .ref (ad 16 0), .ref (ad 17 0), .int (nI x18), .ref (ad 19 0), .ref (ad 20 0), .ref (ad 21 0), .int (nI x22), .ref (ad 23 0), .ref (ad 24 0)])) = rW (sA S 1 (fun _ => v)) F ad) ∧
    (∀ S F v x0 x1 x18 x22, S 0 0 = x0 → S 1 0 = x1 → S 18 0 = x18 → S 22 0 = x22 → j_up (rW S F ad) (ad 0 0) (.inr (8, [.int (nI x0), .int (nI x1), .ref (ad 2 0), .ref (ad 3 0), .ref (ad 4 0), .ref (ad 5 0), .ref (ad 6 0), .ref (ad 7 0), .int (nI v), .ref (ad 9 0), .ref (ad 10 0), .ref (ad 11 0), .ref (ad 12 0), .ref (ad 13 0), .ref (ad 14 0), .ref (ad 15 0), .ref (ad 16 0), .ref (ad 17 0), .int (nI x18), .ref (ad 19 0), .ref (ad 20 0), .ref (ad 21 0), .int (nI x22), .ref (ad 23 0), .ref (ad 24 0)])) = rW (sA S 8 (fun _ => v)) F ad) ∧
    (∀ S F v x0 x1 x8 x22, S 0 0 = x0 → S 1 0 = x1 → S 8 0 = x8 → S 22 0 = x22 → j_up (rW S F ad) (ad 0 0) (.inr (8, [.int (nI x0), .int (nI x1), .ref (ad 2 0), .ref (ad 3 0), .ref (ad 4 0), .ref (ad 5 0), .ref (ad 6 0), .ref (ad 7 0), .int (nI x8), .ref (ad 9 0), .ref (ad 10 0), .ref (ad 11 0), .ref (ad 12 0), .ref (ad 13 0), .ref (ad 14 0), .ref (ad 15 0), .ref (ad 16 0), .ref (ad 17 0), .int (nI v), .ref (ad 19 0), .ref (ad 20 0), .ref (ad 21 0), .int (nI x22), .ref (ad 23 0), .ref (ad 24 0)])) = rW (sA S 18 (fun _ => v)) F ad) ∧
    (∀ S F v x0 x1 x8 x18, S 0 0 = x0 → S 1 0 = x1 → S 8 0 = x8 → S 18 0 = x18 → j_up (rW S F ad) (ad 0 0) (.inr (8, [.int (nI x0), .int (nI x1), .ref (ad 2 0), .ref (ad 3 0), .ref (ad 4 0), .ref (ad 5 0), .ref (ad 6 0), .ref (ad 7 0), .int (nI x8), .ref (ad 9 0), .ref (ad 10 0), .ref (ad 11 0), .ref (ad 12 0), .ref (ad 13 0), .ref (ad 14 0), .ref (ad 15 0), .ref (ad 16 0), .ref (ad 17 0), .int (nI x18), .ref (ad 19 0), .ref (ad 20 0), .ref (ad 21 0), .int (nI v), .ref (ad 23 0), .ref (ad 24 0)])) = rW (sA S 22 (fun _ => v)) F ad) := ⟨fun S F g => rW_putA hI (by decide) (by decide) (by decide) rfl,
    fun S F g => rW_putA hI (by decide) (by decide) (by decide) rfl,
    fun S F g => rW_putA hI (by decide) (by decide) (by decide) rfl,
    fun S F g => rW_putA hI (by decide) (by decide) (by decide) rfl,
    fun S F g => rW_putA hI (by decide) (by decide) (by decide) rfl,
    fun S F g => rW_putA hI (by decide) (by decide) (by decide) rfl,
    fun S F g => rW_putA hI (by decide) (by decide) (by decide) rfl,
    fun S F g => rW_putA hI (by decide) (by decide) (by decide) rfl,
    fun S F g => rW_putA hI (by decide) (by decide) (by decide) rfl,
    fun S F g => rW_putA hI (by decide) (by decide) (by decide) rfl,
    fun S F g => rW_putA hI (by decide) (by decide) (by decide) rfl,
    fun S F g => rW_putA hI (by decide) (by decide) (by decide) rfl,
    fun S F g => rW_putA hI (by decide) (by decide) (by decide) rfl,
    fun S F g => rW_putA hI (by decide) (by decide) (by decide) rfl,
    fun S F g => rW_putA hI (by decide) (by decide) (by decide) rfl,
    fun S F g => rW_putA hI (by decide) (by decide) (by decide) rfl,
    fun S F g => rW_putA hI (by decide) (by decide) (by decide) rfl,
    fun S F g => rW_putA hI (by decide) (by decide) (by decide) rfl,
    fun S F g => rW_putA hI (by decide) (by decide) (by decide) rfl,
    fun S F g => rW_putF hI,
    fun S F v x0 x8 x18 x22 h0 h8 h18 h22 => by subst h0 h8 h18 h22; exact rW_putS hI (by decide) rfl,
    fun S F v x0 x1 x18 x22 h0 h1 h18 h22 => by subst h0 h1 h18 h22; exact rW_putS hI (by decide) rfl,
    fun S F v x0 x1 x8 x22 h0 h1 h8 h22 => by subst h0 h1 h8 h22; exact rW_putS hI (by decide) rfl,
    fun S F v x0 x1 x8 x18 h0 h1 h8 h18 => by subst h0 h1 h8 h18; exact rW_putS hI (by decide) rfl⟩
theorem sA_self (S : Nat → Nat → Nat) (k : Nat) (g : Nat → Nat) : sA S k g k = g := by simp [sA]
theorem sA_ne (S : Nat → Nat → Nat) {k k' : Nat} (g : Nat → Nat) (h : k' ≠ k) : sA S k g k' = S k' := by simp [sA, h]
