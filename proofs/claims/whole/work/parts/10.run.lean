theorem j_sw_mono {K K' : Nat → Prop} (h : ∀ t, K t → K' t) {pc : Nat} {x : Int} : ∀ (offs : List Int) (lo : Int), j_sw K pc x lo offs → j_sw K' pc x lo offs
  | [], _, _ => trivial
  | _ :: r, lo, k => ⟨fun q => h _ (k.1 q), j_sw_mono h r (lo + 1) k.2⟩
set_option maxHeartbeats 8000000 in
set_option maxRecDepth 100000 in
theorem j_ex_mono {rt : Option FieldType} {post : Option Value → jW → Prop} {K K' : Nat → jL → List Value → jW → Nat → Nat → Prop} (h : ∀ pc ls st w cb sb, K pc ls st w cb sb → K' pc ls st w cb sb) {pc : Nat} {i : Instr} {len : Nat} {x0 : Option (List Nat)} {ls : jL} {st : List Value} {w : jW} {cb sb : Nat} :
    j_ex rt post K pc i len x0 ls st w cb sb → j_ex rt post K' pc i len x0 ls st w cb sb := by
  unfold j_ex
  split
  · split
    · rintro ⟨a, b⟩; exact ⟨a, h _ _ _ _ _ _ b⟩
    · exact id
  · split <;> (try split) <;> (try split) <;> (try split) <;> (try split) <;>
    first
    | exact id
    | exact h _ _ _ _ _ _
    | (rintro ⟨a, b⟩; exact ⟨a, h _ _ _ _ _ _ b⟩)
    | (rintro ⟨a, b⟩; exact ⟨fun q => h _ _ _ _ _ _ (a q), fun q => h _ _ _ _ _ _ (b q)⟩)
    | (rintro ⟨a, b⟩; exact ⟨fun q => h _ _ _ _ _ _ (a q), j_sw_mono (fun t => h t _ _ _ _ _) _ _ b⟩)
    | (rintro ⟨a, b, d⟩; exact ⟨a, b, h _ _ _ _ _ _ d⟩)
    | (rintro ⟨a, b, d, f⟩; exact ⟨a, b, d, h _ _ _ _ _ _ f⟩)
    | (rintro ⟨a, b, d⟩; exact ⟨a, b, fun q r => h _ _ _ _ _ _ (d q r)⟩)
    | (rintro ⟨a, b, d, f, g⟩; exact ⟨a, b, d, f, fun q r => h _ _ _ _ _ _ (g q r)⟩)
    | (rintro ⟨a, b, d, f, g, i, j⟩; exact ⟨a, b, d, f, g, i, h _ _ _ _ _ _ j⟩)
    | (rintro ⟨a, b, d, f⟩; exact ⟨a, b, d, fun q r => h _ _ _ _ _ _ (f q r)⟩)
    | (rintro ⟨a, mc, ms, b, d, f⟩; exact ⟨a, mc, ms, b, d, j_sem_mono (fun v w' q => h _ _ _ _ _ _ q) f⟩)
    | (rintro ⟨a, b, mc, ms, d, f, g⟩; exact ⟨a, b, mc, ms, d, f, j_sem_mono (fun v w' q => h _ _ _ _ _ _ q) g⟩)
/-- several steps, up to the places in cut -/
def j_wp (M : jMi) (post : Option Value → jW → Prop) (cut : List Nat) : Nat → Nat → jL → List Value → jW → Nat → Nat → Prop
  | 0, pc, ls, st, w, cb, sb => j_S M post pc ls st w cb sb
  | n + 1, pc, ls, st, w, cb, sb => match j_fetch (m_T M) pc with
    | some (i, len, x) => j_ex (m_r M) post (fun pc' ls' st' w' cb' sb' => if pc' ∈ cut then j_S M post pc' ls' st' w' cb' sb' else j_wp M post cut n pc' ls' st' w' cb' sb') pc i len x ls st w cb sb
    | none => False
theorem j_run {M : jMi} {post : Option Value → jW → Prop} (cut : List Nat) (hM : j_okT M) : ∀ (n : Nat) {pc : Nat} {ls : jL} {st : List Value} {w : jW} {cb sb : Nat}, j_wp M post cut n pc ls st w cb sb → j_S M post pc ls st w cb sb
  | 0, _, _, _, _, _, _, k => k
  | n + 1, pc, ls, st, w, cb, sb, k => by
    unfold j_wp at k
    split at k
    · rename_i i len x hf
      refine j_step hM hf (j_ex_mono (fun pc' ls' st' w' cb' sb' q => ?_) k)
      split at q
      · exact q
      · exact j_run cut hM n q
    · exact k.elim
