def j_ft (M : jMi) (pc : Nat) : Option jI := j_fetch (m_T M) pc
/-- several steps, up to the places in cut -/
def j_go (M : jMi) (post : Option Value → jW → Prop) (cut : List Nat) : Nat → Nat → jL → List Value → jW → Nat → Nat → Prop
  | 0, pc, ls, st, w, cb, sb => j_S M post pc ls st w cb sb
  | n + 1, pc, ls, st, w, cb, sb => match j_ft M pc with
    | some (i, len, x) => j_ex (m_r M) post (fun pc' ls' st' w' cb' sb' => if pc' ∈ cut then j_S M post pc' ls' st' w' cb' sb' else j_go M post cut n pc' ls' st' w' cb' sb') pc i len x ls st w cb sb
    | none => False
/-- behind a step -/
def j_k (M : jMi) (post : Option Value → jW → Prop) (cut : List Nat) (n pc : Nat) (ls : jL) (st : List Value) (w : jW) (cb sb : Nat) : Prop := if pc ∈ cut then j_S M post pc ls st w cb sb else j_go M post cut n pc ls st w cb sb
theorem j_runs {M : jMi} {post : Option Value → jW → Prop} (cut : List Nat) (hM : j_okT M) (n : Nat) {pc : Nat} {ls : jL} {st : List Value} {w : jW} {cb sb : Nat} (k : j_go M post cut n pc ls st w cb sb) : j_S M post pc ls st w cb sb := by
  refine j_run cut hM n ?_
  have e : ∀ (n pc : Nat) (ls : jL) (st : List Value) (w : jW) (cb sb : Nat), j_go M post cut n pc ls st w cb sb = j_wp M post cut n pc ls st w cb sb := by
    intro n
    induction n with
    | zero => intros; rfl
    | succ n ih =>
      intro pc ls st w cb sb
      unfold j_go j_wp j_ft
      simp only [ih]
      rfl
  rw [← e]
  exact k
theorem j_go_s {M : jMi} {post : Option Value → jW → Prop} {cut : List Nat} {n pc : Nat} {ls : jL} {st : List Value} {w : jW} {cb sb : Nat} {i : Instr} {len : Nat} {x : Option (List Nat)} (h : j_ft M pc = some (i, len, x)) : j_go M post cut (n + 1) pc ls st w cb sb ↔ j_ex (m_r M) post (j_k M post cut n) pc i len x ls st w cb sb := by
  conv => lhs; unfold j_go
  rw [h]
  exact Iff.rfl
theorem j_rf_cat (r : Option Nat) : (va_rf r).category = 1 := by cases r <;> rfl
theorem j_rf_none : va_rf none = .null := rfl
theorem j_rf_some (a : Nat) : va_rf (some a) = .ref a := rfl
theorem j_cat_i (x : Int32) : (Value.int x).category = 1 := rfl
theorem j_cat_l (x : Int64) : (Value.long x).category = 2 := rfl
theorem j_cat_r (x : Nat) : (Value.ref x).category = 1 := rfl
theorem j_cat_n : Value.null.category = 1 := rfl
