/-! THE TABLES ARE TRUE OF THE CODE: a check by computation, and what it gives -/
def j_w (pos : Nat) (w : Cond) : Bool := decide (lw_tbl[pos]? = some w) && goodWord w
theorem j_w_ok {pos : Nat} {w : Cond} (h : j_w pos w = true) : w ∈ jTS := by
  simp only [j_w, Bool.and_eq_true, decide_eq_true_eq] at h
  exact j_TS_of (j_mem pos h.1) h.2
def j_ckM (j n : Nat) : Bool := j_w ((jMP.getD j []).getD 0 0) (.code (m_y (jmt j)) (m_b (jmt j)) (m_n (jmt j)) (m_r (jmt j))) && (j_w ((jMP.getD j []).getD 1 0) (.initialized (m_y (jmt j)).cls) && (decide ((m_y (jmt j)).cls ≠ "java/lang/invoke/MethodHandle") && (decide ((m_y (jmt j)).cls ≠ "java/lang/invoke/VarHandle") && decide ((parseMethodDescriptor (m_y (jmt j)).desc).map (fun d => d.parameters.length) = some n))))
theorem j_ckM_ok {j n : Nat} (h : j_ckM j n = true) : j_okM (jmt j) n := by
  simp only [j_ckM, Bool.and_eq_true, decide_eq_true_eq] at h
  exact ⟨j_w_ok h.1, j_w_ok h.2.1, h.2.2.1, h.2.2.2.1, h.2.2.2.2⟩
def j_ckml (own : String) (idx : Nat) (y : MethodName) (k pos : Nat) : Bool := match k with
  | 0 => j_w pos (.methodLink own idx y)
  | _ => match jNW[pos]? with
    | some (.methodLinkNest o i z _) => decide (o = own) && (decide (i = idx) && decide (z = y))
    | _ => false
theorem j_ckml_ok {own : String} {idx : Nat} {y : MethodName} {k pos : Nat} (h : j_ckml own idx y k pos = true) : j_mlT own idx y := by
  unfold j_ckml at h
  split at h
  · exact Or.inl (j_w_ok h)
  · split at h
    · rename_i o i z hh hq
      simp only [Bool.and_eq_true, decide_eq_true_eq] at h
      obtain ⟨rfl, rfl, rfl⟩ := h
      exact Or.inr ⟨_, List.mem_of_getElem? hq⟩
    · cases h
def j_ckr (M : jMi) (j : Nat) : Bool := decide (m_f (jmt j) + 1 ≤ m_f M) && decide (8 + (m_n (jmt j) + 11) + m_l (jmt j) ≤ m_l M)
def j_isRef : FieldType → Bool
  | .object _ => true
  | .array _ => true
  | _ => false
def j_ckl (M : jMi) (pc : Nat) (i : Instr) (x ps : List Nat) : Bool := match i with
  | .goto off => j_fwd pc off
  | .ifCond _ off => j_fwd pc off
  | .if_icmp _ off => j_fwd pc off
  | .ifnull off => j_fwd pc off
  | .ifnonnull off => j_fwd pc off
  | .tableswitch d lo hi offs => j_fwd pc d && (offs.toList.all (j_fwd pc) && decide (hi - lo + 1 = (offs.toList.length : Int)))
  | .lreturn => decide (m_r M = some .long)
  | .areturn => (match m_r M with
    | some t => j_isRef t
    | none => false)
  | .return_ => decide (m_r M = none)
  | .getfield idx => (match x, ps with
    | [ci, k], [pos] => (match jcl[ci]? with
      | some q => decide (k < q.2.2) && j_w pos (.fieldLink (m_y M).cls idx (q.2.1 k).1 (q.2.1 k).2.1 (q.2.1 k).2.2.1)
      | none => false)
    | _, _ => false)
  | .putfield idx => (match x, ps with
    | [ci, k, t], [pos] => (match jcl[ci]? with
      | some q => decide (k < q.2.2) && (j_w pos (.fieldLink (m_y M).cls idx (q.2.1 k).1 (q.2.1 k).2.1 (q.2.1 k).2.2.1) && (j_tyc t (j_fty q.2.1 k) && (decide ((q.2.1 k).2.2.2 = false) || (decide ((q.2.1 k).2.2.2 = true) && (decide ((m_y M).name = "<init>") && decide ((q.2.1 k).1 = (m_y M).cls))))))
      | none => false)
    | _, _ => false)
  | .new idx => (match x, ps with
    | ci :: ts, [p1, p2, p3] => (match jcl[ci]? with
      | some q => decide (ts.length = q.2.2) && (j_w p1 (.classLink (m_y M).cls idx q.1) && (j_w p2 (.instantiable q.1 q.2.2) && (j_w p3 (.initialized q.1) && (List.range q.2.2).all (fun j => decide (defaultValue (j_fty q.2.1 j) = vp_V (ts.map j_dv) j)))))
      | none => false)
    | _, _ => false)
  | .newarray at_ => (match x, ps with
    | [tk], [p1] => decide (jTY[tk]? = some (newarray.typeOf at_)) && (j_w p1 (.arrayClass (newarray.typeOf at_)) && (decide (at_ = .int) || (decide (at_ = .boolean) || decide (at_ = .long))))
    | _, _ => false)
  | .anewarray idx => (match x, ps with
    | [tk], [p1] => (match jTY[tk]? with
      | some (.object C) => decide (C ∈ jAO) && j_w p1 (.classLink (m_y M).cls idx C)
      | _ => false)
    | _, _ => false)
  | .iaload => (match x with
    | [tk] => decide (jTY[tk]? = some .int)
    | _ => false)
  | .iastore => (match x with
    | [tk] => decide (jTY[tk]? = some .int)
    | _ => false)
  | .baload => (match x with
    | [tk] => decide (jTY[tk]? = some .boolean)
    | _ => false)
  | .bastore => (match x with
    | [tk] => decide (jTY[tk]? = some .boolean)
    | _ => false)
  | .laload => (match x with
    | [tk] => decide (jTY[tk]? = some .long)
    | _ => false)
  | .lastore => (match x with
    | [tk] => decide (jTY[tk]? = some .long)
    | _ => false)
  | .aaload => (match x with
    | [tk] => (match jTY[tk]? with
      | some (.object _) => true
      | _ => false)
    | _ => false)
  | .aastore => (match x with
    | [tk, ci] => (match jcl[ci]? with
      | some q => decide (jTY[tk]? = some (.object q.1))
      | none => false)
    | _ => false)
  | .arraylength => (match x with
    | [tk] => (match jTY[tk]? with
      | some _ => true
      | none => false)
    | _ => false)
  | .ldc idx => (match x, ps with
    | [v], [p1] => j_w p1 (.constant (m_y M).cls idx (Int32.ofNat v))
    | _, _ => false)
  | .ldc2_w idx => (match x, ps with
    | [v], [p1] => j_w p1 (.constantLong (m_y M).cls idx (Int64.ofNat v))
    | _, _ => false)
  | .checkcast idx => (match x, ps with
    | [0], [p1] => j_w p1 (.classLink (m_y M).cls idx "[I")
    | _, _ => false)
  | .invokestatic idx => (match x, ps with
    | [1000], [p1] => j_w p1 (.methodLink (m_y M).cls idx arraycopyName) && (j_w (jSP.getD 0 0) (.native arraycopyName) && (j_w (jSP.getD 1 0) (.static arraycopyName) && (j_w (jSP.getD 2 0) (.initialized "java/lang/System") && (decide (1 ≤ m_f M) && decide (40 ≤ m_l M)))))
    | [j, n], [k, p1] => j_ckM j n && (j_w ((jMP.getD j []).getD 2 0) (.static (m_y (jmt j))) && (j_ckml (m_y M).cls idx (m_y (jmt j)) k p1 && j_ckr M j))
    | _, _ => false)
  | .invokevirtual idx => (match x, ps with
    | [1001], [p1] => j_w p1 (.methodLink (m_y M).cls idx ⟨"[I", "clone", "()Ljava/lang/Object;"⟩) && (j_w (jSP.getD 3 0) (.sameMethod "[I" "java/lang/Object" "clone" "()Ljava/lang/Object;") && (j_w (jSP.getD 4 0) (.native ⟨"java/lang/Object", "clone", "()Ljava/lang/Object;"⟩) && (j_w (jSP.getD 5 0) (.instanceMethod ⟨"java/lang/Object", "clone", "()Ljava/lang/Object;"⟩) && (j_w (jSP.getD 6 0) (.selects "[I" ⟨"[I", "clone", "()Ljava/lang/Object;"⟩ ⟨"java/lang/Object", "clone", "()Ljava/lang/Object;"⟩) && (decide (Cond.castable "[I" "java/lang/Cloneable" ∈ jNW) && (decide (1 ≤ m_f M) && decide (40 ≤ m_l M)))))))
    | [j, n, ci], [k, p1, p2] => (match jcl[ci]? with
      | some q => j_ckM j n && (j_w ((jMP.getD j []).getD 2 0) (.instanceMethod (m_y (jmt j))) && (j_w p2 (.selects q.1 (m_y (jmt j)) (m_y (jmt j))) && (j_ckml (m_y M).cls idx (m_y (jmt j)) k p1 && j_ckr M j)))
      | none => false)
    | _, _ => false)
  | .invokespecial idx => (match x, ps with
    | [], [p1] => j_w p1 (.methodLink (m_y M).cls idx Lib.objectInit) && (j_w (jSP.getD 7 0) (.instanceMethod Lib.objectInit) && (j_w (jSP.getD 8 0) (.code Lib.objectInit ⟨#[0xb1]⟩ 1 none) && (decide (1 ≤ m_f M) && decide (20 ≤ m_l M))))
    | [j, n], [k, p1] => j_ckM j n && (j_w ((jMP.getD j []).getD 2 0) (.instanceMethod (m_y (jmt j))) && (decide ((m_y (jmt j)).name = "<init>") && (decide (m_r (jmt j) = none) && (j_ckml (m_y M).cls idx (m_y (jmt j)) k p1 && j_ckr M j))))
    | _, _ => false)
  | _ => true
set_option maxHeartbeats 8000000 in
set_option maxRecDepth 100000 in
theorem j_ckl_ok {M : jMi} {pc : Nat} {i : Instr} {x ps : List Nat} (hC : ∀ (ci : Nat) (q : vw_C), jcl[ci]? = some q → j_okC q) (h : j_ckl M pc i x ps = true) : j_lk M pc i x := by
  cases i
  case goto off => exact h
  case ifCond cd off => exact h
  case if_icmp cd off => exact h
  case ifnull off => exact h
  case ifnonnull off => exact h
  case tableswitch d lo hi offs =>
    simp only [j_ckl, Bool.and_eq_true, decide_eq_true_eq] at h
    exact ⟨h.1, h.2.1, h.2.2⟩
  case lreturn => exact (of_decide_eq_true h : m_r M = some .long)
  case areturn =>
    simp only [j_ckl] at h
    split at h
    · rename_i t ht
      refine ⟨t, ht, ?_⟩
      cases t <;> first | exact Or.inl ⟨_, rfl⟩ | exact Or.inr ⟨_, rfl⟩ | (simp [j_isRef] at h)
    · cases h
  case return_ => exact (of_decide_eq_true h : m_r M = none)
  case getfield idx =>
    simp only [j_ckl] at h
    split at h <;> try (cases h; done)
    split at h <;> try (cases h; done)
    rename_i q hq
    simp only [Bool.and_eq_true, decide_eq_true_eq] at h
    exact ⟨q, _, _, rfl, hq, hC _ _ hq, h.1, Or.inl (j_w_ok h.2)⟩
  case putfield idx =>
    simp only [j_ckl] at h
    split at h <;> try (cases h; done)
    split at h <;> try (cases h; done)
    rename_i q hq
    simp only [Bool.and_eq_true, Bool.or_eq_true, decide_eq_true_eq] at h
    obtain ⟨h1, h2, h3, h4⟩ := h
    refine ⟨q, _, _, _, rfl, hq, hC _ _ hq, h1, Or.inl (j_w_ok h2), h3, ?_⟩
    rcases h4 with h4 | ⟨h4, h5, h6⟩
    · exact Or.inl h4
    · exact Or.inr ⟨h4, h5, h6, j_w_ok h2⟩
  case new idx =>
    simp only [j_ckl] at h
    split at h <;> try (cases h; done)
    split at h <;> try (cases h; done)
    rename_i q hq
    simp only [Bool.and_eq_true, decide_eq_true_eq, List.all_eq_true, List.mem_range] at h
    exact ⟨q, _, _, rfl, hq, hC _ _ hq, h.1, j_w_ok h.2.1, j_w_ok h.2.2.1, j_w_ok h.2.2.2.1, h.2.2.2.2⟩
  case newarray at_ =>
    simp only [j_ckl] at h
    split at h <;> try (cases h; done)
    simp only [Bool.and_eq_true, Bool.or_eq_true, decide_eq_true_eq] at h
    exact ⟨_, rfl, h.1, j_w_ok h.2.1, h.2.2⟩
  case anewarray idx =>
    simp only [j_ckl] at h
    split at h <;> try (cases h; done)
    split at h <;> try (cases h; done)
    rename_i C hC2
    simp only [Bool.and_eq_true, decide_eq_true_eq] at h
    exact ⟨_, C, rfl, hC2, h.1, j_w_ok h.2⟩
  case iaload => simp only [j_ckl] at h; split at h <;> try (cases h; done)
                 exact ⟨_, rfl, of_decide_eq_true h⟩
  case iastore => simp only [j_ckl] at h; split at h <;> try (cases h; done)
                  exact ⟨_, rfl, of_decide_eq_true h⟩
  case baload => simp only [j_ckl] at h; split at h <;> try (cases h; done)
                 exact ⟨_, rfl, of_decide_eq_true h⟩
  case bastore => simp only [j_ckl] at h; split at h <;> try (cases h; done)
                  exact ⟨_, rfl, of_decide_eq_true h⟩
  case laload => simp only [j_ckl] at h; split at h <;> try (cases h; done)
                 exact ⟨_, rfl, of_decide_eq_true h⟩
  case lastore => simp only [j_ckl] at h; split at h <;> try (cases h; done)
                  exact ⟨_, rfl, of_decide_eq_true h⟩
  case aaload =>
    simp only [j_ckl] at h
    split at h <;> try (cases h; done)
    split at h <;> try (cases h; done)
    rename_i C hC2
    exact ⟨_, C, rfl, hC2⟩
  case aastore =>
    simp only [j_ckl] at h
    split at h <;> try (cases h; done)
    split at h <;> try (cases h; done)
    rename_i q hq
    exact ⟨_, _, q, rfl, hq, of_decide_eq_true h⟩
  case arraylength =>
    simp only [j_ckl] at h
    split at h <;> try (cases h; done)
    split at h <;> try (cases h; done)
    rename_i ty hty
    exact ⟨_, ty, rfl, hty⟩
  case ldc idx =>
    simp only [j_ckl] at h
    split at h <;> try (cases h; done)
    exact ⟨_, rfl, j_w_ok h⟩
  case ldc2_w idx =>
    simp only [j_ckl] at h
    split at h <;> try (cases h; done)
    exact ⟨_, rfl, j_w_ok h⟩
  case checkcast idx =>
    simp only [j_ckl] at h
    split at h <;> try (cases h; done)
    exact ⟨rfl, j_w_ok h⟩
  case invokestatic idx =>
    simp only [j_ckl] at h
    split at h <;> try (cases h; done)
    · simp only [Bool.and_eq_true, decide_eq_true_eq] at h
      exact Or.inl ⟨rfl, j_w_ok h.1, j_w_ok h.2.1, j_w_ok h.2.2.1, j_w_ok h.2.2.2.1, h.2.2.2.2.1, h.2.2.2.2.2⟩
    · simp only [Bool.and_eq_true, j_ckr, decide_eq_true_eq] at h
      exact Or.inr ⟨_, _, rfl, j_ckM_ok h.1, j_w_ok h.2.1, j_ckml_ok h.2.2.1, h.2.2.2.1, h.2.2.2.2⟩
  case invokevirtual idx =>
    simp only [j_ckl] at h
    split at h <;> try (cases h; done)
    · simp only [Bool.and_eq_true, decide_eq_true_eq] at h
      exact Or.inl ⟨rfl, j_w_ok h.1, j_w_ok h.2.1, j_w_ok h.2.2.1, j_w_ok h.2.2.2.1, j_w_ok h.2.2.2.2.1, h.2.2.2.2.2.1, h.2.2.2.2.2.2.1, h.2.2.2.2.2.2.2⟩
    · split at h <;> try (cases h; done)
      rename_i q hq
      simp only [Bool.and_eq_true, j_ckr, decide_eq_true_eq] at h
      exact Or.inr ⟨_, _, _, q, rfl, hq, j_ckM_ok h.1, j_w_ok h.2.1, j_w_ok h.2.2.1, j_ckml_ok h.2.2.2.1, h.2.2.2.2.1, h.2.2.2.2.2⟩
  case invokespecial idx =>
    simp only [j_ckl] at h
    split at h <;> try (cases h; done)
    · simp only [Bool.and_eq_true, decide_eq_true_eq] at h
      exact Or.inl ⟨rfl, j_w_ok h.1, j_w_ok h.2.1, j_w_ok h.2.2.1, h.2.2.2.1, h.2.2.2.2⟩
    · simp only [Bool.and_eq_true, j_ckr, decide_eq_true_eq] at h
      exact Or.inr ⟨_, _, rfl, j_ckM_ok h.1, j_w_ok h.2.1, h.2.2.1, h.2.2.2.1, j_ckml_ok h.2.2.2.2.1, h.2.2.2.2.2.1, h.2.2.2.2.2.2⟩
  all_goals exact trivial
def j_ck1 (M : jMi) (q : Nat × jI) (ps : List Nat) : Bool := decide (decode (m_b M) q.1 = .ok (q.2.1, q.2.2.1)) && (match q.2.2.2 with
  | none => true
  | some x => decide (q.2.2.1 = j_ln q.2.1 q.2.2.1) && j_ckl M q.1 q.2.1 x ps)
def j_ckT (M : jMi) : List (Nat × jI) → List (List Nat) → Bool
  | [], _ => true
  | q :: T, ps :: P => j_ck1 M q ps && j_ckT M T P
  | _ :: _, [] => false
theorem j_ckT_ok {M : jMi} (hC : ∀ (ci : Nat) (q : vw_C), jcl[ci]? = some q → j_okC q) : ∀ (T : List (Nat × jI)) (P : List (List Nat)), j_ckT M T P = true → ∀ q ∈ T, decode (m_b M) q.1 = .ok (q.2.1, q.2.2.1) ∧ ∀ x, q.2.2.2 = some x → q.2.2.1 = j_ln q.2.1 q.2.2.1 ∧ j_lk M q.1 q.2.1 x
  | [], _, _, q, hq => by cases hq
  | q0 :: T, [], h, q, hq => by cases h
  | q0 :: T, ps :: P, h, q, hq => by
    simp only [j_ckT, Bool.and_eq_true] at h
    rcases List.mem_cons.mp hq with rfl | hq
    · have h1 := h.1
      simp only [j_ck1, Bool.and_eq_true, decide_eq_true_eq] at h1
      refine ⟨h1.1, fun x hx => ?_⟩
      have h2 := h1.2
      rw [hx] at h2
      simp only [Bool.and_eq_true, decide_eq_true_eq] at h2
      exact ⟨h2.1, j_ckl_ok hC h2.2⟩
    · exact j_ckT_ok hC T P h.2 q hq
theorem j_okT_of {M : jMi} (P : List (List Nat)) (hC : ∀ (ci : Nat) (q : vw_C), jcl[ci]? = some q → j_okC q) (h : j_ckT M (m_T M) P = true) : j_okT M := j_ckT_ok hC (m_T M) P h
theorem j_okC_of {q : vw_C} (h1 : (u_ws q.1 q.2.1 q.2.2).all (fun w => decide (w ∈ lw_tbl) && goodWord w) = true) (h2 : (List.range q.2.2).all (fun k => decide (parseFieldDescriptor (q.2.1 k).2.2.1 = some (j_fty q.2.1 k))) = true) (h3 : (List.range q.2.2).all (fun a => (List.range q.2.2).all (fun b => decide (a = b) || decide ((q.2.1 a).2.1 ≠ (q.2.1 b).2.1))) = true) : j_okC q := by
  refine ⟨fun w hw => ?_, fun k hk => ?_, fun a ha b hb hab => ?_⟩
  · have := List.all_eq_true.mp h1 w hw
    simp only [Bool.and_eq_true, decide_eq_true_eq] at this
    exact j_TS_of this.1 this.2
  · have := List.all_eq_true.mp h2 k (List.mem_range.mpr hk)
    exact of_decide_eq_true this
  · have := List.all_eq_true.mp (List.all_eq_true.mp h3 a (List.mem_range.mpr ha)) b (List.mem_range.mpr hb)
    simp only [Bool.or_eq_true, decide_eq_true_eq] at this
    exact this.resolve_left hab
