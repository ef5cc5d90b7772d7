/-! the reference's measure tells the least sums -/
/-- what is known of the links and the prefixes -/
def rLk (S : Nat → Nat → Nat) : Prop := rOK S ∧ (∀ l, l < S 1 0 → 1 ≤ S 3 l ∧ 8 ≤ S 4 l ∧ S 2 (2 * l) ≠ S 2 (2 * l + 1)) ∧ (∀ i, S 7 i % 16 ≤ 8) ∧ ∀ i, S 13 i % 16 ≤ 8
def rE (S : Nat → Nat → Nat) (ro u v c : Nat) : Prop := ∃ l, l < S 1 0 ∧ rGd S ro l ∧ c = S 3 l ∧ ((u = S 2 (2 * l) ∧ v = S 2 (2 * l + 1)) ∨ (u = S 2 (2 * l + 1) ∧ v = S 2 (2 * l)))
theorem rE_E {S : Nat → Nat → Nat} (h : rLk S) {ro : Nat} : gE (rE S ro) := by
  rintro u v c ⟨l, hl, hg, rfl, hh⟩
  have h1 := h.1 2 (2 * l)
  have h2 := h.1 2 (2 * l + 1)
  have h3 := h.1 3 l
  have h4 := (h.2.1 l hl).1
  have h1 : S 2 (2 * l) ≤ 7 := h1
  have h2 : S 2 (2 * l + 1) ≤ 7 := h2
  have h3 : S 3 l ≤ 50 := h3
  refine ⟨?_, ?_, h4, h3, l, hl, hg, rfl, ?_⟩
  · rcases hh with ⟨rfl, rfl⟩ | ⟨rfl, rfl⟩ <;> omega
  · rcases hh with ⟨rfl, rfl⟩ | ⟨rfl, rfl⟩ <;> omega
  · rcases hh with ⟨rfl, rfl⟩ | ⟨rfl, rfl⟩
    · exact Or.inr ⟨rfl, rfl⟩
    · exact Or.inl ⟨rfl, rfl⟩
noncomputable def rEd (S : Nat → Nat → Nat) (ro : Nat) : Nat → List (Nat × Nat × Nat)
  | 0 => []
  | l + 1 => rEd S ro l ++ @ite _ (rGd S ro l) (Classical.propDecidable _) [(S 2 (2 * l), S 2 (2 * l + 1), S 3 l), (S 2 (2 * l + 1), S 2 (2 * l), S 3 l)] []
theorem rEd_s {S : Nat → Nat → Nat} {ro l : Nat} : rEd S ro (l + 1) = rEd S ro l ++ @ite _ (rGd S ro l) (Classical.propDecidable _) [(S 2 (2 * l), S 2 (2 * l + 1), S 3 l), (S 2 (2 * l + 1), S 2 (2 * l), S 3 l)] [] := rfl
theorem rEd_mem {S : Nat → Nat → Nat} {ro : Nat} {e : Nat × Nat × Nat} : ∀ n, e ∈ rEd S ro n ↔ ∃ l, l < n ∧ rGd S ro l ∧ e.2.2 = S 3 l ∧ ((e.1 = S 2 (2 * l) ∧ e.2.1 = S 2 (2 * l + 1)) ∨ (e.1 = S 2 (2 * l + 1) ∧ e.2.1 = S 2 (2 * l)))
  | 0 => by
    constructor
    · intro h
      exact absurd h List.not_mem_nil
    · rintro ⟨l, h, -⟩
      omega
  | n + 1 => by
    rw [rEd_s, List.mem_append, rEd_mem n]
    constructor
    · rintro (⟨l, h1, h2⟩ | h)
      · exact ⟨l, by omega, h2⟩
      · by_cases hg : rGd S ro n
        · rw [if_pos hg] at h
          rcases List.mem_cons.mp h with rfl | h
          · exact ⟨n, by omega, hg, rfl, Or.inl ⟨rfl, rfl⟩⟩
          · rw [List.mem_singleton] at h
            subst h
            exact ⟨n, by omega, hg, rfl, Or.inr ⟨rfl, rfl⟩⟩
        · rw [if_neg hg] at h
          cases h
    · rintro ⟨l, h1, hg, h3, h4⟩
      by_cases hl : l = n
      · subst hl
        right
        rw [if_pos hg]
        obtain ⟨u, v, c⟩ := e
        dsimp only at h3 h4
        subst h3
        rcases h4 with ⟨rfl, rfl⟩ | ⟨rfl, rfl⟩
        · exact List.mem_cons_self
        · exact List.mem_cons_of_mem _ List.mem_cons_self
      · exact Or.inl ⟨l, by omega, hg, h3, h4⟩
theorem rMs_row {S : Nat → Nat → Nat} {ro fr t : Nat} : ∀ l, l ≤ S 1 0 → rMs S ro fr (2 * S 1 0 * t + 2 * l) = rxs (rMs S ro fr (2 * S 1 0 * t)) (rEd S ro l)
  | 0, _ => rfl
  | l + 1, h => by
    have ih := rMs_row (S := S) (ro := ro) (fr := fr) (t := t) l (by omega)
    have e1 : (2 * S 1 0 * t + 2 * l) / 2 % S 1 0 = l := by
      have : (2 * S 1 0 * t + 2 * l) / 2 = l + S 1 0 * t := by
        rw [show 2 * S 1 0 * t + 2 * l = 2 * (l + S 1 0 * t) by rw [Nat.mul_add, Nat.mul_assoc]; omega]
        exact Nat.mul_div_cancel_left _ (by decide)
      rw [this, Nat.add_mul_mod_self_left, Nat.mod_eq_of_lt (by omega)]
    have e2 : (2 * S 1 0 * t + 2 * l) % 2 = 0 := by
      rw [show 2 * S 1 0 * t + 2 * l = 2 * (l + S 1 0 * t) by rw [Nat.mul_add, Nat.mul_assoc]; omega]
      exact Nat.mul_mod_right _ _
    have e3 : (2 * S 1 0 * t + 2 * l + 1) / 2 % S 1 0 = l := by
      have : (2 * S 1 0 * t + 2 * l + 1) / 2 = (2 * S 1 0 * t + 2 * l) / 2 := by omega
      rw [this]; exact e1
    have e4 : (2 * S 1 0 * t + 2 * l + 1) % 2 = 1 := by omega
    rw [show 2 * S 1 0 * t + 2 * (l + 1) = (2 * S 1 0 * t + 2 * l + 1) + 1 by omega]
    conv => lhs; unfold rMs
    rw [e3, e4]
    conv => lhs; unfold rMs
    rw [e1, e2, ih]
    rw [rEd_s, rxs_app]
    unfold rM1
    by_cases hg : rGd S ro l
    · rw [if_pos hg, if_pos hg, if_pos hg]
      rfl
    · rw [if_neg hg, if_neg hg, if_neg hg]
      rfl
theorem rMs_rounds {S : Nat → Nat → Nat} {ro fr : Nat} : ∀ t, rMs S ro fr (2 * S 1 0 * t) = gRn (g0 fr) (rEd S ro (S 1 0)) t
  | 0 => rfl
  | t + 1 => by
    have h := rMs_row (S := S) (ro := ro) (fr := fr) (t := t) (S 1 0) (Nat.le_refl _)
    rw [show 2 * S 1 0 * (t + 1) = 2 * S 1 0 * t + 2 * S 1 0 by rw [Nat.mul_add]; omega, h, rMs_rounds t]
    rfl
/-- the DISTANCE of the routers fr and d by what router ro holds -/
noncomputable def rDs (S : Nat → Nat → Nat) (ro fr : Nat) : Nat → Option Nat := rMs S ro fr (16 * S 1 0)
theorem rDs_D {S : Nat → Nat → Nat} (h : rLk S) {ro fr : Nat} (hf : fr < 8) : gD (rE S ro) fr (rDs S ro fr) := by
  unfold rDs
  rw [show 16 * S 1 0 = 2 * S 1 0 * 8 by omega, rMs_rounds]
  refine gD_rounds (rE_E h) hf (fun e he => ?_) (fun u v c he => ?_) (by decide)
  · exact (rEd_mem _).mp he
  · exact (rEd_mem _).mpr he
theorem rDs_le {S : Nat → Nat → Nat} (h : rLk S) {ro fr v a : Nat} (hf : fr < 8) (hv : rDs S ro fr v = some a) : a ≤ 400 := gD_le (rE_E h) hf (rDs_D h hf) hv
/-- the longest prefix of advert a that holds x, among its first k -/
def rLg (S : Nat → Nat → Nat) (a x : Nat) : Nat → Option Nat
  | 0 => none
  | k + 1 => if x / 2 ^ (8 - S 13 (3 * a + k) % 16) * 2 ^ (8 - S 13 (3 * a + k) % 16) = S 13 (3 * a + k) / 16 ∧ (∀ b, rLg S a x k = some b → b < S 13 (3 * a + k) % 16) then some (S 13 (3 * a + k) % 16) else rLg S a x k
