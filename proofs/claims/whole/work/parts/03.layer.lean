/-! A LAYER OVER THE MACHINE: a world is a partial function from addresses to cells; a step of the code is a step of the world -/
abbrev jE : Type := (Nat × vp_A) ⊕ (Nat × List Value)
abbrev jW : Type := Nat → Option jE
abbrev jL : Type := List (Option Value)
def j_emb (tc : Nat → ClassId) : Option jE → va_E
  | some (.inl a) => .inl (tc a.1, a.2)
  | some (.inr o) => .inr o
  | none => .inr (0, [])
def j_pl (tc : Nat → ClassId) (L : List Nat) (w : jW) : va_W := va_pl L (fun a => j_emb tc (w a))
def j_dom (L : List Nat) (w : jW) : Prop := ∀ a, a ∈ L ↔ w a ≠ none
def j_up (w : jW) (a : Nat) (e : jE) : jW := va_up w a (some e)
theorem j_up_self (w : jW) (a : Nat) (e : jE) : j_up w a e a = some e := va_up_self _ _ _
theorem j_up_ne (w : jW) {a b : Nat} (e : jE) (h : b ≠ a) : j_up w a e b = w b := va_up_ne _ _ h
/-- the heap holds the world w at addresses of the kind A -/
def j_Wd (D : va_G) (tc : Nat → ClassId) (A : Nat → Prop) (w : jW) (H : Heap) : Prop := ∃ L, j_dom L w ∧ va_P D jcl (j_pl tc L w) H ∧ va_D A (j_pl tc L w)
theorem j_at {tc : Nat → ClassId} {L : List Nat} {w : jW} {a : Nat} {e : jE} (hL : j_dom L w) (h : w a = some e) : ∃ k : Nat, (j_pl tc L w)[k]? = some (a, j_emb tc (some e)) := by
  have hm : a ∈ L := (hL a).mpr (by rw [h]; simp)
  obtain ⟨k, hk⟩ := va_pl_get (X := []) (f := fun a => j_emb tc (w a)) hm
  refine ⟨k, ?_⟩
  rw [List.nil_append] at hk
  rw [← h]
  exact hk
theorem j_emb_up (tc : Nat → ClassId) (w : jW) (a : Nat) (e : jE) : va_up (fun b => j_emb tc (w b)) a (j_emb tc (some e)) = fun b => j_emb tc (j_up w a e b) := by
  funext b
  by_cases hb : b = a
  · subst hb
    rw [va_up_self, j_up_self]
  · rw [va_up_ne _ _ hb, j_up_ne _ _ hb]
theorem j_set {D : va_G} {tc : Nat → ClassId} {A : Nat → Prop} {L : List Nat} {w : jW} {a k : Nat} {e e' : jE} {H1 : Heap} (hL : j_dom L w) (hD0 : va_D A (j_pl tc L w)) (h : w a = some e) (hk : (j_pl tc L w)[k]? = some (a, j_emb tc (some e)))
    (hP : va_P D jcl ((j_pl tc L w).set k (a, j_emb tc (some e'))) H1) (hD : va_D A ((j_pl tc L w).set k (a, j_emb tc (some e')))) : j_Wd D tc A (j_up w a e') H1 := by
  have hm : a ∈ L := (hL a).mpr (by rw [h]; simp)
  have e1 : (j_pl tc L w).set k (a, j_emb tc (some e')) = j_pl tc L (j_up w a e') := by
    have := va_pl_set (X := []) (f := fun b => j_emb tc (w b)) (e := j_emb tc (some e')) (k := k) hD0 hm (by rw [List.nil_append]; rw [← h] at hk; exact hk)
    rw [List.nil_append, List.nil_append, j_emb_up] at this
    exact this
  rw [e1] at hP hD
  refine ⟨L, fun b => ?_, hP, hD⟩
  by_cases hb : b = a
  · subst hb
    rw [j_up_self]
    simp [hm]
  · rw [j_up_ne _ _ hb]
    exact hL b
theorem j_push {D : va_G} {tc : Nat → ClassId} {A : Nat → Prop} {L : List Nat} {w : jW} {q : Nat} {e : jE} {H1 : Heap} (hL : j_dom L w) (hP : va_P D jcl (j_pl tc L w ++ [(q, j_emb tc (some e))]) H1) (hD : va_D A (j_pl tc L w ++ [(q, j_emb tc (some e))])) : w q = none ∧ j_Wd D tc A (j_up w q e) H1 := by
  have hq : q ∉ L := va_pl_fresh2 (X := []) (f := fun b => j_emb tc (w b)) (e := j_emb tc (some e)) hD
  have hn : w q = none := by
    cases hw : w q with
    | none => rfl
    | some x => exact absurd ((hL q).mpr (by rw [hw]; simp)) hq
  have e1 : j_pl tc L w ++ [(q, j_emb tc (some e))] = j_pl tc (L ++ [q]) (j_up w q e) := by
    unfold j_pl
    rw [va_pl_push hq, j_emb_up]
  rw [e1] at hP hD
  refine ⟨hn, L ++ [q], fun b => ?_, hP, hD⟩
  by_cases hb : b = q
  · subst hb
    rw [j_up_self]
    simp
  · rw [j_up_ne _ _ hb, List.mem_append, List.mem_singleton]
    constructor
    · rintro (h | h)
      · exact (hL b).mp h
      · exact absurd h hb
    · exact fun h => Or.inl ((hL b).mpr h)
/-- the locals, place by place -/
def j_has (arr : Array Slot) (ls : jL) : Prop := arr.size = ls.length ∧ lv_wf arr ∧ ∀ (i : Nat) (v : Value), ls[i]? = some (some v) → arr[i]? = some (.val v)
def j_as (ls : jL) : List (Nat × Value) := (List.range ls.length).filterMap (fun i => (ls.getD i none).map (fun v => (i, v)))
theorem j_as_mem {ls : jL} {q : Nat × Value} : q ∈ j_as ls ↔ ls[q.1]? = some (some q.2) := by
  unfold j_as
  rw [List.mem_filterMap]
  constructor
  · rintro ⟨i, hi, h⟩
    rw [List.mem_range] at hi
    rw [List.getD_eq_getElem?_getD, List.getElem?_eq_getElem hi, Option.getD_some] at h
    cases hv : ls[i] with
    | none => rw [hv] at h; cases h
    | some v =>
      rw [hv] at h
      cases h
      rw [List.getElem?_eq_getElem hi, hv]
  · intro h
    have hi := (List.getElem?_eq_some_iff.mp h).1
    refine ⟨q.1, List.mem_range.mpr hi, ?_⟩
    rw [List.getD_eq_getElem?_getD, h]
    rfl
theorem j_has.lv {arr : Array Slot} {ls : jL} (h : j_has arr ls) : lv_has arr ls.length (j_as ls) := ⟨h.1, h.2.1, fun q hq => h.2.2 q.1 q.2 (j_as_mem.mp hq)⟩
def j_isL : Option (Option Value) → Bool
  | some (some v) => v.category == 2
  | _ => false
/-- storing one slot at i: no long is cut in two -/
def j_ok1 (ls : jL) (i : Nat) : Bool := decide (i < ls.length) && (i == 0 || !(j_isL ls[i - 1]?))
theorem j_has.st1 {arr' : Array Slot} {ls : jL} {i : Nat} {v : Value} (ho : j_ok1 ls i = true) (h : lv_has arr' ls.length ((i, v) :: (j_as ls).filter (fun q => !(q.1 == i) && !(q.1 + 1 == i && q.2.category == 2)))) : j_has arr' (ls.set i (some v)) := by
  simp only [j_ok1, Bool.and_eq_true, decide_eq_true_eq, Bool.or_eq_true, beq_iff_eq, Bool.not_eq_true'] at ho
  refine ⟨by rw [List.length_set]; exact h.1, h.2.1, fun j u hj => ?_⟩
  by_cases hji : j = i
  · subst hji
    rw [List.getElem?_set_self ho.1] at hj
    cases hj
    exact h.2.2 (j, v) List.mem_cons_self
  · rw [List.getElem?_set_ne (Ne.symm hji)] at hj
    refine h.2.2 (j, u) (List.mem_cons_of_mem _ (List.mem_filter.mpr ⟨j_as_mem.mpr hj, ?_⟩))
    simp only [Bool.and_eq_true, Bool.not_eq_true', beq_eq_false_iff_ne, Bool.and_eq_false_iff, ne_eq]
    refine ⟨hji, ?_⟩
    by_cases h2 : j + 1 = i
    · right
      rcases ho.2 with h3 | h3
      · omega
      · rw [← h2, Nat.add_sub_cancel, hj] at h3
        simpa [j_isL] using h3
    · left
      exact h2
theorem j_has.st2 {arr' : Array Slot} {ls : jL} {i : Nat} {v : Value} (ho : j_ok1 ls i = true) (h1 : i + 1 < ls.length) (h : lv_has arr' ls.length ((i, v) :: (j_as ls).filter (fun q => !(q.1 == i) && (!(q.1 == i + 1) && !(q.1 + 1 == i && q.2.category == 2))))) : j_has arr' ((ls.set i (some v)).set (i + 1) none) := by
  simp only [j_ok1, Bool.and_eq_true, decide_eq_true_eq, Bool.or_eq_true, beq_iff_eq, Bool.not_eq_true'] at ho
  refine ⟨by rw [List.length_set, List.length_set]; exact h.1, h.2.1, fun j u hj => ?_⟩
  by_cases hj1 : j = i + 1
  · subst hj1
    rw [List.getElem?_set_self (by rw [List.length_set]; exact h1)] at hj
    cases hj
  · rw [List.getElem?_set_ne (Ne.symm hj1)] at hj
    by_cases hji : j = i
    · subst hji
      rw [List.getElem?_set_self ho.1] at hj
      cases hj
      exact h.2.2 (j, v) List.mem_cons_self
    · rw [List.getElem?_set_ne (Ne.symm hji)] at hj
      refine h.2.2 (j, u) (List.mem_cons_of_mem _ (List.mem_filter.mpr ⟨j_as_mem.mpr hj, ?_⟩))
      simp only [Bool.and_eq_true, Bool.not_eq_true', beq_eq_false_iff_ne, Bool.and_eq_false_iff, ne_eq]
      refine ⟨hji, hj1, ?_⟩
      by_cases h2 : j + 1 = i
      · right
        rcases ho.2 with h3 | h3
        · omega
        · rw [← h2, Nat.add_sub_cancel, hj] at h3
          simpa [j_isL] using h3
      · left
        exact h2
/-- the locals at a method's entry -/
def j_sl (vs : List Value) : jL := vs.flatMap fun v => if v.category = 2 then [some v, none] else [some v]
def j_in (vs : List Value) (n : Nat) : jL := j_sl vs ++ List.replicate (n - (j_sl vs).length) none
theorem j_sl_len (vs : List Value) : (j_sl vs).length = (lg_sl vs).length := by
  induction vs with
  | nil => rfl
  | cons v vs ih =>
    simp only [j_sl, lg_sl, List.flatMap_cons, List.length_append] at ih ⊢
    rw [ih]
    by_cases h : v.category = 2 <;> simp [h]
theorem j_sl_mem (vs : List Value) : ∀ (o i : Nat) (v : Value), (j_sl vs)[i]? = some (some v) → (o + i, v) ∈ lv_args o vs := by
  induction vs with
  | nil => intro o i v h; simp [j_sl] at h
  | cons u vs ih =>
    intro o i v h
    by_cases hc : u.category = 2
    · have e : j_sl (u :: vs) = some u :: none :: j_sl vs := by simp [j_sl, hc]
      rw [e] at h
      simp only [lv_args, hc, if_true]
      match i, h with
      | 0, h => cases h; exact List.mem_cons_self
      | 1, h => cases h
      | i + 2, h =>
        have := ih (o + 2) i v h
        rw [show o + (i + 2) = o + 2 + i by omega]
        exact List.mem_cons_of_mem _ this
    · have e : j_sl (u :: vs) = some u :: j_sl vs := by simp [j_sl, hc]
      rw [e] at h
      simp only [lv_args, hc, if_false]
      match i, h with
      | 0, h => cases h; exact List.mem_cons_self
      | i + 1, h =>
        have := ih (o + 1) i v h
        rw [show o + (i + 1) = o + 1 + i by omega]
        exact List.mem_cons_of_mem _ this
theorem j_entry {vs : List Value} {n : Nat} (h : (j_sl vs).length ≤ n) : j_has ((lg_sl vs ++ List.replicate (n - (lg_sl vs).length) Slot.unset).toArray) (j_in vs n) := by
  have h0 := lv_entry vs (n := n) (by rw [← j_sl_len]; exact h)
  refine ⟨by rw [h0.1]; simp [j_in]; omega, h0.2.1, fun i v hi => ?_⟩
  unfold j_in at hi
  by_cases hl : i < (j_sl vs).length
  · rw [List.getElem?_append_left hl] at hi
    have := j_sl_mem vs 0 i v hi
    rw [Nat.zero_add] at this
    exact h0.2.2 (i, v) this
  · rw [List.getElem?_append_right (by omega), List.getElem?_replicate] at hi
    split at hi <;> cases hi
def j_tg (pc : Nat) (off : Int) : Nat := ((pc : Int) + off).toNat
def j_fwd (pc : Nat) (off : Int) : Bool := decide (0 ≤ (pc : Int) + off)
theorem j_tg_eq {pc : Nat} {off : Int} (h : j_fwd pc off = true) : (pc : Int) + off = ((j_tg pc off : Nat) : Int) := by
  have h' : 0 ≤ (pc : Int) + off := by simpa [j_fwd] using h
  unfold j_tg
  omega
def j_cd (c : ClassFile.Cond) (x y : Int32) : Prop := match c with
  | .eq => x = y
  | .ne => ¬ x = y
  | .lt => x < y
  | .ge => y ≤ x
  | .gt => y < x
  | .le => x ≤ y
/-- an instruction that looks at locals and stack alone, and goes on: its length, the locals, the stack -/
def j_pure (i : Instr) (ls : jL) (st : List Value) : Option (Nat × jL × List Value) := match i with
  | .iconst n => some (1, ls, .int (Int32.ofInt n) :: st)
  | .bipush n => some (2, ls, .int (Int8.ofInt n).toInt32 :: st)
  | .sipush n => some (3, ls, .int (Int16.ofInt n).toInt32 :: st)
  | .lconst n => some (1, ls, .long (Int64.ofNat (n : Nat)) :: st)
  | .aconst_null => some (1, ls, .null :: st)
  | .iload_n k => match ls[(k : Nat)]? with
    | some (some (.int x)) => some (1, ls, .int x :: st)
    | _ => none
  | .iload k => match ls[k]? with
    | some (some (.int x)) => some (2, ls, .int x :: st)
    | _ => none
  | .lload_n k => match ls[(k : Nat)]? with
    | some (some (.long x)) => some (1, ls, .long x :: st)
    | _ => none
  | .lload k => match ls[k]? with
    | some (some (.long x)) => some (2, ls, .long x :: st)
    | _ => none
  | .aload_n k => match ls[(k : Nat)]? with
    | some (some (.ref x)) => some (1, ls, .ref x :: st)
    | some (some .null) => some (1, ls, .null :: st)
    | _ => none
  | .aload k => match ls[k]? with
    | some (some (.ref x)) => some (2, ls, .ref x :: st)
    | some (some .null) => some (2, ls, .null :: st)
    | _ => none
  | .istore_n k => match st with
    | .int x :: r => if j_ok1 ls (k : Nat) = true then some (1, ls.set (k : Nat) (some (.int x)), r) else none
    | _ => none
  | .istore k => match st with
    | .int x :: r => if j_ok1 ls k = true then some (2, ls.set k (some (.int x)), r) else none
    | _ => none
  | .astore_n k => match st with
    | .ref x :: r => if j_ok1 ls (k : Nat) = true then some (1, ls.set (k : Nat) (some (.ref x)), r) else none
    | .null :: r => if j_ok1 ls (k : Nat) = true then some (1, ls.set (k : Nat) (some .null), r) else none
    | _ => none
  | .astore k => match st with
    | .ref x :: r => if j_ok1 ls k = true then some (2, ls.set k (some (.ref x)), r) else none
    | .null :: r => if j_ok1 ls k = true then some (2, ls.set k (some .null), r) else none
    | _ => none
  | .lstore_n k => match st with
    | .long x :: r => if j_ok1 ls (k : Nat) = true ∧ (k : Nat) + 1 < ls.length then some (1, (ls.set (k : Nat) (some (.long x))).set ((k : Nat) + 1) none, r) else none
    | _ => none
  | .lstore k => match st with
    | .long x :: r => if j_ok1 ls k = true ∧ k + 1 < ls.length then some (2, (ls.set k (some (.long x))).set (k + 1) none, r) else none
    | _ => none
  | .iinc k n => match ls[k]? with
    | some (some (.int x)) => if j_ok1 ls k = true then some (3, ls.set k (some (.int (x + Int32.ofInt n))), st) else none
    | _ => none
  | .iadd => match st with
    | .int y :: .int x :: r => some (1, ls, .int (x + y) :: r)
    | _ => none
  | .isub => match st with
    | .int y :: .int x :: r => some (1, ls, .int (x - y) :: r)
    | _ => none
  | .imul => match st with
    | .int y :: .int x :: r => some (1, ls, .int (x * y) :: r)
    | _ => none
  | .iand => match st with
    | .int y :: .int x :: r => some (1, ls, .int (x &&& y) :: r)
    | _ => none
  | .ior => match st with
    | .int y :: .int x :: r => some (1, ls, .int (x ||| y) :: r)
    | _ => none
  | .ixor => match st with
    | .int y :: .int x :: r => some (1, ls, .int (x ^^^ y) :: r)
    | _ => none
  | .ishl => match st with
    | .int y :: .int x :: r => some (1, ls, .int (x <<< (y &&& 31)) :: r)
    | _ => none
  | .ishr => match st with
    | .int y :: .int x :: r => some (1, ls, .int (x >>> (y &&& 31)) :: r)
    | _ => none
  | .ineg => match st with
    | .int x :: r => some (1, ls, .int (-x) :: r)
    | _ => none
  | .i2l => match st with
    | .int x :: r => some (1, ls, .long x.toInt64 :: r)
    | _ => none
  | .l2i => match st with
    | .long x :: r => some (1, ls, .int x.toInt32 :: r)
    | _ => none
  | .ladd => match st with
    | .long y :: .long x :: r => some (1, ls, .long (x + y) :: r)
    | _ => none
  | .lsub => match st with
    | .long y :: .long x :: r => some (1, ls, .long (x - y) :: r)
    | _ => none
  | .land => match st with
    | .long y :: .long x :: r => some (1, ls, .long (x &&& y) :: r)
    | _ => none
  | .lor => match st with
    | .long y :: .long x :: r => some (1, ls, .long (x ||| y) :: r)
    | _ => none
  | .lxor => match st with
    | .long y :: .long x :: r => some (1, ls, .long (x ^^^ y) :: r)
    | _ => none
  | .lshl => match st with
    | .int y :: .long x :: r => some (1, ls, .long (x <<< (y.toInt64 &&& 63)) :: r)
    | _ => none
  | .lshr => match st with
    | .int y :: .long x :: r => some (1, ls, .long (x >>> (y.toInt64 &&& 63)) :: r)
    | _ => none
  | .lushr => match st with
    | .int y :: .long x :: r => some (1, ls, .long ((x.toUInt64 >>> (y.toInt64.toUInt64 &&& Int64.toUInt64 63)).toInt64) :: r)
    | _ => none
  | .lcmp => match st with
    | .long y :: .long x :: r => some (1, ls, .int (lg_cmp x y) :: r)
    | _ => none
  | .dup => match st with
    | v :: r => if v.category = 1 then some (1, ls, v :: v :: r) else none
    | _ => none
  | .pop => match st with
    | v :: r => if v.category = 1 then some (1, ls, r) else none
    | _ => none
  | .dup_x1 => match st with
    | v :: u :: r => if v.category = 1 ∧ u.category = 1 then some (1, ls, v :: u :: v :: r) else none
    | _ => none
  | .dup_x2 => match st with
    | v :: u :: z :: r => if v.category = 1 ∧ u.category = 1 ∧ z.category = 1 then some (1, ls, v :: u :: z :: v :: r) else none
    | _ => none
  | .dup2 => match st with
    | v :: u :: r => if v.category = 1 ∧ u.category = 1 then some (1, ls, v :: u :: v :: u :: r) else none
    | _ => none
  | _ => none
