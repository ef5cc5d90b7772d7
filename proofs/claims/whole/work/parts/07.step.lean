def j_dv (t : Nat) : Value := match t with
  | 0 => .int 0
  | 1 => .int 0
  | 2 => .null
  | _ => .long 0
/-- a value that a field of the kind t takes as it is: 0 int, 1 boolean, 2 a reference, 3 long -/
def j_okv (t : Nat) (v : Value) : Prop := match t, v with
  | 0, .int _ => True
  | 1, .int x => x = 0 ∨ x = 1
  | 2, .ref _ => True
  | 2, .null => True
  | 3, .long _ => True
  | _, _ => False
def j_tyc (t : Nat) (ty : FieldType) : Bool := match t, ty with
  | 0, .int => true
  | 1, .boolean => true
  | 2, .object _ => true
  | 2, .array _ => true
  | 3, .long => true
  | _, _ => false
theorem j_okv_fit {t : Nat} {v : Value} {ty : FieldType} (h : j_okv t v) (ht : j_tyc t ty = true) : narrow ty v = v ∧ fits ty v = true := by
  unfold j_okv at h
  unfold j_tyc at ht
  split at h <;> split at ht <;> first | (cases ht; done) | (cases h; done) | (exact h.elim) | (exact ⟨rfl, rfl⟩) | skip
  all_goals first | (exact ⟨rfl, rfl⟩) | (rcases h with rfl | rfl <;> exact ⟨rfl, rfl⟩) | (simp_all; done) | omega
def j_spl : Nat → List Value → List Value → Option (List Value × List Value)
  | 0, acc, st => some (acc, st)
  | n + 1, acc, v :: st => j_spl n (v :: acc) st
  | _ + 1, _, [] => none
theorem j_spl_ok : ∀ (n : Nat) (acc st As r : List Value), j_spl n acc st = some (As, r) → As.reverse ++ r = acc.reverse ++ st ∧ As.length = acc.length + n
  | 0, acc, st, As, r, h => by cases h; exact ⟨rfl, rfl⟩
  | n + 1, acc, [], As, r, h => by cases h
  | n + 1, acc, v :: st, As, r, h => by
    obtain ⟨h1, h2⟩ := j_spl_ok n (v :: acc) st As r h
    refine ⟨by rw [h1]; simp, by rw [h2]; simp; omega⟩
def j_w8 (r : List Value) : Prop := (r.map fun v => v.category).sum ≤ 8
def j_sw (K : Nat → Prop) (pc : Nat) (x lo : Int) : List Int → Prop
  | [] => True
  | off :: r => (x = lo → K (j_tg pc off)) ∧ j_sw K pc x (lo + 1) r
def j_fetch (T : List (Nat × jI)) (pc : Nat) : Option jI := match T with
  | [] => none
  | q :: r => if q.1 = pc then some q.2 else j_fetch r pc
/-- one instruction: what must hold, K is what holds behind it -/
def j_ex (rt : Option FieldType) (post : Option Value → jW → Prop) (K : Nat → jL → List Value → jW → Nat → Nat → Prop) (pc : Nat) (i : Instr) (len : Nat) (x0 : Option (List Nat)) (ls : jL) (st : List Value) (w : jW) (cb sb : Nat) : Prop := match x0 with
  | none => (match j_pure i ls st with
    | some (d, ls', st') => d = len ∧ K (pc + d) ls' st' w cb sb
    | none => False)
  | some x => match i with
  | .goto off => K (j_tg pc off) ls st w cb sb
  | .ifCond cd off => match st with
    | .int a :: r => (j_cd cd a 0 → K (j_tg pc off) ls r w cb sb) ∧ (¬ j_cd cd a 0 → K (pc + 3) ls r w cb sb)
    | _ => False
  | .if_icmp cd off => match st with
    | .int b :: .int a :: r => (j_cd cd a b → K (j_tg pc off) ls r w cb sb) ∧ (¬ j_cd cd a b → K (pc + 3) ls r w cb sb)
    | _ => False
  | .ifnull off => match st with
    | .null :: r => K (j_tg pc off) ls r w cb sb
    | .ref _ :: r => K (pc + 3) ls r w cb sb
    | _ => False
  | .ifnonnull off => match st with
    | .null :: r => K (pc + 3) ls r w cb sb
    | .ref _ :: r => K (j_tg pc off) ls r w cb sb
    | _ => False
  | .tableswitch d lo hi offs => match st with
    | .int a :: r => (a.toInt < lo ∨ hi < a.toInt → K (j_tg pc d) ls r w cb sb) ∧ j_sw (fun t => K t ls r w cb sb) pc a.toInt lo offs.toList
    | _ => False
  | .idiv => match st with
    | .int b :: .int a :: r => ¬ b = 0 ∧ K (pc + 1) ls (.int (a / b) :: r) w cb sb
    | _ => False
  | .irem => match st with
    | .int b :: .int a :: r => ¬ b = 0 ∧ K (pc + 1) ls (.int (a - a / b * b) :: r) w cb sb
    | _ => False
  | .ireturn => match st with
    | [.int a] => (match rt with
      | some ty => narrow ty (.int a) = .int a ∧ post (some (.int a)) w
      | none => False)
    | _ => False
  | .lreturn => match st with
    | [.long a] => post (some (.long a)) w
    | _ => False
  | .areturn => match st with
    | [.ref a] => post (some (.ref a)) w
    | [.null] => post (some .null) w
    | _ => False
  | .return_ => match st with
    | [] => post none w
    | _ => False
  | .getfield _ => match x, st with
    | [ci, k], .ref a :: r => (match w a with
      | some (.inr (cj, fs)) => cj = ci ∧ (match fs[k]? with
        | some v => K (pc + 3) ls (v :: r) w cb sb
        | none => False)
      | _ => False)
    | _, _ => False
  | .putfield _ => match x, st with
    | [ci, k, t], v :: .ref a :: r => (match w a with
      | some (.inr (cj, fs)) => cj = ci ∧ k < fs.length ∧ j_okv t v ∧ K (pc + 3) ls r (j_up w a (.inr (ci, fs.set k v))) cb sb
      | _ => False)
    | _, _ => False
  | .new _ => match x with
    | ci :: ts => 1 ≤ cb ∧ ts.length ≤ sb ∧ ∀ a, w a = none → K (pc + 3) ls (.ref a :: st) (j_up w a (.inr (ci, ts.map j_dv))) (cb - 1) (sb - ts.length)
    | _ => False
  | .newarray at_ => match x, st with
    | [tk], .int n :: r => ¬ n < 0 ∧ 1 ≤ cb ∧ n.toNatClampNeg ≤ sb ∧ n.toNatClampNeg ≤ 60000000 ∧ ∀ a, w a = none → K (pc + 2) ls (.ref a :: r) (j_up w a (.inl (tk, n.toNatClampNeg, if at_ = .long then .inr (.inl (fun _ => 0)) else .inl (fun _ => 0)))) (cb - 1) (sb - n.toNatClampNeg)
    | _, _ => False
  | .anewarray _ => match x, st with
    | [tk], .int n :: r => ¬ n < 0 ∧ 1 ≤ cb ∧ n.toNatClampNeg ≤ sb ∧ n.toNatClampNeg ≤ 60000000 ∧ ∀ a, w a = none → K (pc + 3) ls (.ref a :: r) (j_up w a (.inl (tk, n.toNatClampNeg, .inr (.inr (.inr (.inr (fun _ => none))))))) (cb - 1) (sb - n.toNatClampNeg)
    | _, _ => False
  | .iaload => match x, st with
    | [tk], .int j :: .ref a :: r => (match w a with
      | some (.inl (t, n, .inl f)) => t = tk ∧ vp_in j n ∧ K (pc + 1) ls (.int (f j.toNatClampNeg) :: r) w cb sb
      | _ => False)
    | _, _ => False
  | .baload => match x, st with
    | [tk], .int j :: .ref a :: r => (match w a with
      | some (.inl (t, n, .inl f)) => t = tk ∧ vp_in j n ∧ K (pc + 1) ls (.int (f j.toNatClampNeg) :: r) w cb sb
      | _ => False)
    | _, _ => False
  | .laload => match x, st with
    | [tk], .int j :: .ref a :: r => (match w a with
      | some (.inl (t, n, .inr (.inl f))) => t = tk ∧ vp_in j n ∧ K (pc + 1) ls (.long (f j.toNatClampNeg) :: r) w cb sb
      | _ => False)
    | _, _ => False
  | .aaload => match x, st with
    | [tk], .int j :: .ref a :: r => (match w a with
      | some (.inl (t, n, .inr (.inr (.inr (.inr f))))) => t = tk ∧ vp_in j n ∧ K (pc + 1) ls (va_rf (f j.toNatClampNeg) :: r) w cb sb
      | _ => False)
    | _, _ => False
  | .iastore => match x, st with
    | [tk], .int v :: .int j :: .ref a :: r => (match w a with
      | some (.inl (t, n, .inl f)) => t = tk ∧ vp_in j n ∧ K (pc + 1) ls r (j_up w a (.inl (tk, n, .inl (upd f j.toNatClampNeg v)))) cb sb
      | _ => False)
    | _, _ => False
  | .bastore => match x, st with
    | [tk], .int v :: .int j :: .ref a :: r => (match w a with
      | some (.inl (t, n, .inl f)) => t = tk ∧ vp_in j n ∧ K (pc + 1) ls r (j_up w a (.inl (tk, n, .inl (upd f j.toNatClampNeg (vp_nar .boolean v))))) cb sb
      | _ => False)
    | _, _ => False
  | .lastore => match x, st with
    | [tk], .long v :: .int j :: .ref a :: r => (match w a with
      | some (.inl (t, n, .inr (.inl f))) => t = tk ∧ vp_in j n ∧ K (pc + 1) ls r (j_up w a (.inl (tk, n, .inr (.inl (vp_updL f j.toNatClampNeg v))))) cb sb
      | _ => False)
    | _, _ => False
  | .aastore => match x, st with
    | [tk, ci], .ref v :: .int j :: .ref a :: r => (match w a with
      | some (.inl (t, n, .inr (.inr (.inr (.inr f))))) => t = tk ∧ vp_in j n ∧ (match w v with
        | some (.inr (cj, _)) => cj = ci ∧ K (pc + 1) ls r (j_up w a (.inl (tk, n, .inr (.inr (.inr (.inr (va_up f j.toNatClampNeg (some v)))))))) cb sb
        | _ => False)
      | _ => False)
    | [tk, _], .null :: .int j :: .ref a :: r => (match w a with
      | some (.inl (t, n, .inr (.inr (.inr (.inr f))))) => t = tk ∧ vp_in j n ∧ K (pc + 1) ls r (j_up w a (.inl (tk, n, .inr (.inr (.inr (.inr (va_up f j.toNatClampNeg none))))))) cb sb
      | _ => False)
    | _, _ => False
  | .arraylength => match x, st with
    | [tk], .ref a :: r => (match w a with
      | some (.inl (t, y)) => t = tk ∧ K (pc + 1) ls (.int (Int32.ofNat y.1) :: r) w cb sb
      | _ => False)
    | _, _ => False
  | .ldc _ => match x with
    | [v] => K (pc + 2) ls (.int (Int32.ofNat v) :: st) w cb sb
    | _ => False
  | .ldc2_w _ => match x with
    | [v] => K (pc + 3) ls (.long (Int64.ofNat v) :: st) w cb sb
    | _ => False
  | .checkcast _ => match x, st with
    | [0], .ref a :: r => (match w a with
      | some (.inl (0, _)) => K (pc + 3) ls (.ref a :: r) w cb sb
      | _ => False)
    | _, _ => False
  | .invokestatic _ => match x with
    | [1000] => (match st with
      | .int n :: .int dp :: .ref a :: .int sp :: .ref a0 :: r => (match w a0 with
        | some (.inl (0, n0, .inl f)) => (match w a with
          | some (.inl (0, n1, .inl g)) => j_w8 r ∧ ¬ sp < 0 ∧ ¬ dp < 0 ∧ ¬ n < 0 ∧ sp.toNatClampNeg + n.toNatClampNeg ≤ n0 ∧ dp.toNatClampNeg + n.toNatClampNeg ≤ n1 ∧ K (pc + 3) ls r (j_up w a (.inl (0, n1, .inl (va_cpy f g sp.toNatClampNeg dp.toNatClampNeg n.toNatClampNeg)))) cb sb
          | _ => False)
        | _ => False)
      | _ => False)
    | [j, n] => (match j_spl n [] st with
      | some (As, r) => j_w8 r ∧ ∃ mc ms, mc ≤ cb ∧ ms ≤ sb ∧ j_sem (jmt j) As w mc ms (fun v w' => K (pc + 3) ls (v.toList ++ r) w' (cb - mc) (sb - ms))
      | none => False)
    | _ => False
  | .invokevirtual _ => match x with
    | [1001] => (match st with
      | .ref a :: r => (match w a with
        | some (.inl (0, n, .inl f)) => j_w8 r ∧ 1 ≤ cb ∧ n ≤ sb ∧ ∀ q, w q = none → K (pc + 3) ls (.ref q :: r) (j_up w q (.inl (0, n, .inl f))) (cb - 1) (sb - n)
        | _ => False)
      | _ => False)
    | [j, n, ci] => (match j_spl n [] st with
      | some (As, .ref b :: r) => (match w b with
        | some (.inr (cj, _)) => cj = ci
        | _ => False) ∧ j_w8 r ∧ ∃ mc ms, mc ≤ cb ∧ ms ≤ sb ∧ j_sem (jmt j) (.ref b :: As) w mc ms (fun v w' => K (pc + 3) ls (v.toList ++ r) w' (cb - mc) (sb - ms))
      | _ => False)
    | _ => False
  | .invokespecial _ => match x with
    | [] => (match st with
      | .ref _ :: r => j_w8 r ∧ K (pc + 3) ls r w cb sb
      | _ => False)
    | [j, n] => (match j_spl n [] st with
      | some (As, .ref b :: r) => j_w8 r ∧ ∃ mc ms, mc ≤ cb ∧ ms ≤ sb ∧ j_sem (jmt j) (.ref b :: As) w mc ms (fun v w' => K (pc + 3) ls (v.toList ++ r) w' (cb - mc) (sb - ms))
      | _ => False)
    | _ => False
  | _ => False
def j_flT (own : String) (idx : Nat) (q : String × String × String × Bool) : Prop := Cond.fieldLink own idx q.1 q.2.1 q.2.2.1 ∈ jTS ∨ ∃ host, Cond.fieldLinkNest own idx q.1 q.2.1 q.2.2.1 host ∈ jNW
def j_mlT (own : String) (idx : Nat) (y : MethodName) : Prop := Cond.methodLink own idx y ∈ jTS ∨ ∃ host, Cond.methodLinkNest own idx y host ∈ jNW
/-- what the tables must say for an instruction -/
def j_lk (M : jMi) (pc : Nat) (i : Instr) (x : List Nat) : Prop := match i with
  | .goto off => j_fwd pc off = true
  | .ifCond _ off => j_fwd pc off = true
  | .if_icmp _ off => j_fwd pc off = true
  | .ifnull off => j_fwd pc off = true
  | .ifnonnull off => j_fwd pc off = true
  | .tableswitch d lo hi offs => j_fwd pc d = true ∧ offs.toList.all (j_fwd pc) = true ∧ hi - lo + 1 = (offs.toList.length : Int)
  | .lreturn => m_r M = some .long
  | .areturn => ∃ t, m_r M = some t ∧ ((∃ n, t = .object n) ∨ ∃ u, t = .array u)
  | .return_ => m_r M = none
  | .getfield idx => ∃ (q : vw_C) (ci k : Nat), x = [ci, k] ∧ jcl[ci]? = some q ∧ j_okC q ∧ k < q.2.2 ∧ j_flT (m_y M).cls idx (q.2.1 k)
  | .putfield idx => ∃ (q : vw_C) (ci k t : Nat), x = [ci, k, t] ∧ jcl[ci]? = some q ∧ j_okC q ∧ k < q.2.2 ∧ j_flT (m_y M).cls idx (q.2.1 k) ∧ j_tyc t (j_fty q.2.1 k) = true ∧
      ((q.2.1 k).2.2.2 = false ∨ ((q.2.1 k).2.2.2 = true ∧ (m_y M).name = "<init>" ∧ (q.2.1 k).1 = (m_y M).cls ∧ Cond.fieldLink (m_y M).cls idx (q.2.1 k).1 (q.2.1 k).2.1 (q.2.1 k).2.2.1 ∈ jTS))
  | .new idx => ∃ (q : vw_C) (ci : Nat) (ts : List Nat), x = ci :: ts ∧ jcl[ci]? = some q ∧ j_okC q ∧ ts.length = q.2.2 ∧ Cond.classLink (m_y M).cls idx q.1 ∈ jTS ∧ Cond.instantiable q.1 q.2.2 ∈ jTS ∧ Cond.initialized q.1 ∈ jTS ∧ ∀ j, j < q.2.2 → defaultValue (j_fty q.2.1 j) = vp_V (ts.map j_dv) j
  | .newarray at_ => ∃ tk, x = [tk] ∧ jTY[tk]? = some (newarray.typeOf at_) ∧ Cond.arrayClass (newarray.typeOf at_) ∈ jTS ∧ (at_ = .int ∨ at_ = .boolean ∨ at_ = .long)
  | .anewarray idx => ∃ (tk : Nat) (C : String), x = [tk] ∧ jTY[tk]? = some (.object C) ∧ C ∈ jAO ∧ Cond.classLink (m_y M).cls idx C ∈ jTS
  | .iaload => ∃ tk, x = [tk] ∧ jTY[tk]? = some .int
  | .iastore => ∃ tk, x = [tk] ∧ jTY[tk]? = some .int
  | .baload => ∃ tk, x = [tk] ∧ jTY[tk]? = some .boolean
  | .bastore => ∃ tk, x = [tk] ∧ jTY[tk]? = some .boolean
  | .laload => ∃ tk, x = [tk] ∧ jTY[tk]? = some .long
  | .lastore => ∃ tk, x = [tk] ∧ jTY[tk]? = some .long
  | .aaload => ∃ (tk : Nat) (C : String), x = [tk] ∧ jTY[tk]? = some (.object C)
  | .aastore => ∃ (tk ci : Nat) (q : vw_C), x = [tk, ci] ∧ jcl[ci]? = some q ∧ jTY[tk]? = some (.object q.1)
  | .arraylength => ∃ (tk : Nat) (ty : FieldType), x = [tk] ∧ jTY[tk]? = some ty
  | .ldc idx => ∃ v, x = [v] ∧ Cond.constant (m_y M).cls idx (Int32.ofNat v) ∈ jTS
  | .ldc2_w idx => ∃ v, x = [v] ∧ Cond.constantLong (m_y M).cls idx (Int64.ofNat v) ∈ jTS
  | .checkcast idx => x = [0] ∧ Cond.classLink (m_y M).cls idx "[I" ∈ jTS
  | .invokestatic idx => (x = [1000] ∧ Cond.methodLink (m_y M).cls idx arraycopyName ∈ jTS ∧ Cond.native arraycopyName ∈ jTS ∧ Cond.static arraycopyName ∈ jTS ∧ Cond.initialized "java/lang/System" ∈ jTS ∧ 1 ≤ m_f M ∧ 40 ≤ m_l M) ∨ ∃ j n, x = [j, n] ∧ j_okM (jmt j) n ∧ Cond.static (m_y (jmt j)) ∈ jTS ∧ j_mlT (m_y M).cls idx (m_y (jmt j)) ∧ m_f (jmt j) + 1 ≤ m_f M ∧ 8 + (m_n (jmt j) + 11) + m_l (jmt j) ≤ m_l M
  | .invokevirtual idx => (x = [1001] ∧ Cond.methodLink (m_y M).cls idx ⟨"[I", "clone", "()Ljava/lang/Object;"⟩ ∈ jTS ∧ Cond.sameMethod "[I" "java/lang/Object" "clone" "()Ljava/lang/Object;" ∈ jTS ∧ Cond.native ⟨"java/lang/Object", "clone", "()Ljava/lang/Object;"⟩ ∈ jTS ∧ Cond.instanceMethod ⟨"java/lang/Object", "clone", "()Ljava/lang/Object;"⟩ ∈ jTS ∧ Cond.selects "[I" ⟨"[I", "clone", "()Ljava/lang/Object;"⟩ ⟨"java/lang/Object", "clone", "()Ljava/lang/Object;"⟩ ∈ jTS ∧ Cond.castable "[I" "java/lang/Cloneable" ∈ jNW ∧ 1 ≤ m_f M ∧ 40 ≤ m_l M) ∨ ∃ (j n ci : Nat) (q : vw_C), x = [j, n, ci] ∧ jcl[ci]? = some q ∧ j_okM (jmt j) n ∧ Cond.instanceMethod (m_y (jmt j)) ∈ jTS ∧ Cond.selects q.1 (m_y (jmt j)) (m_y (jmt j)) ∈ jTS ∧ j_mlT (m_y M).cls idx (m_y (jmt j)) ∧ m_f (jmt j) + 1 ≤ m_f M ∧ 8 + (m_n (jmt j) + 11) + m_l (jmt j) ≤ m_l M
  | .invokespecial idx => (x = [] ∧ Cond.methodLink (m_y M).cls idx Lib.objectInit ∈ jTS ∧ Cond.instanceMethod Lib.objectInit ∈ jTS ∧ Cond.code Lib.objectInit ⟨#[0xb1]⟩ 1 none ∈ jTS ∧ 1 ≤ m_f M ∧ 20 ≤ m_l M) ∨
      (∃ j n, x = [j, n] ∧ j_okM (jmt j) n ∧ Cond.instanceMethod (m_y (jmt j)) ∈ jTS ∧ (m_y (jmt j)).name = "<init>" ∧ m_r (jmt j) = none ∧ j_mlT (m_y M).cls idx (m_y (jmt j)) ∧ m_f (jmt j) + 1 ≤ m_f M ∧ 8 + (m_n (jmt j) + 11) + m_l (jmt j) ≤ m_l M)
  | _ => True
def j_ln (i : Instr) (len : Nat) : Nat := match i with
  | .tableswitch .. => len
  | .goto _ => 3
  | .ifCond .. => 3
  | .if_icmp .. => 3
  | .ifnull _ => 3
  | .ifnonnull _ => 3
  | .getfield _ => 3
  | .putfield _ => 3
  | .new _ => 3
  | .anewarray _ => 3
  | .invokestatic _ => 3
  | .invokevirtual _ => 3
  | .invokespecial _ => 3
  | .ldc2_w _ => 3
  | .checkcast _ => 3
  | .newarray _ => 2
  | .ldc _ => 2
  | _ => 1
def j_okT (M : jMi) : Prop := ∀ q ∈ m_T M, decode (m_b M) q.1 = .ok (q.2.1, q.2.2.1) ∧ ∀ x, q.2.2.2 = some x → q.2.2.1 = j_ln q.2.1 q.2.2.1 ∧ j_lk M q.1 q.2.1 x
/-- how a method ends: the instruction, the stack, the answer -/
def j_rv (cc : ByteArray) (rt : Option FieldType) (pc : Nat) (st : List Value) (v : Option Value) : Prop :=
  (v = none ∧ st = [] ∧ rt = none ∧ decode cc pc = .ok (.return_, 1)) ∨ (∃ (a : Int32) (ty : FieldType), v = some (.int a) ∧ st = [.int a] ∧ rt = some ty ∧ narrow ty (.int a) = .int a ∧ decode cc pc = .ok (.ireturn, 1)) ∨
  (∃ a : Int64, v = some (.long a) ∧ st = [.long a] ∧ rt = some .long ∧ decode cc pc = .ok (.lreturn, 1)) ∨ (∃ (u : Value) (t : FieldType), (u = .null ∨ ∃ a, u = .ref a) ∧ v = some u ∧ st = [u] ∧ rt = some t ∧ ((∃ n, t = .object n) ∨ ∃ z, t = .array z) ∧ decode cc pc = .ok (.areturn, 1))
/-- a walk of the method M: what holds all the time -/
def j_cx (M : jMi) (p : Program) (R : Room) (s : State) (m : MethodId) (args : Array Value) (meth : Method) (c : Code) (D : va_G) (tc : Nat → ClassId) (A : Nat → Prop) (MC MS : Nat) : Prop :=
  p.tables.exec = Jvm.exec ∧ c.code = m_b M ∧ c.maxLocals = m_n M ∧ s.vm.findClass (m_y M).cls = some m.cls ∧ (∀ w ∈ jTS, w.before args s = true) ∧ j_Z D tc s ∧ (∀ q, s.heap.size ≤ q → A q) ∧ ((m_y M).name = "<init>" → meth.name = "<init>") ∧ m_f M ≤ R.frames ∧ m_l M ≤ R.locals ∧ MC ≤ R.cells ∧ MS ≤ R.slots
def j_rt (M : jMi) (post : Option Value → jW → Prop) (p : Program) (l : Launch) (e : Env) (R : Room) (s : State) (m : MethodId) (args : Array Value) (below : List Frame) (meth : Method) (c : Code) (Q : State → Prop) (D : va_G) (tc : Nat → ClassId) (A : Nat → Prop) (MC MS : Nat) : Prop :=
  ∀ (v : Option Value) (w : jW) (H : Heap) (locs : List Loc) (cells slots pc : Nat) (arr : Array Slot) (st : List Value), post v w → j_rv (m_b M) (m_r M) pc st v → j_Wd D tc A w H → va_S A s.heap H locs → cells ≤ MC → slots ≤ MS → W p l e R s m args below meth c H locs cells slots Q (F0 m pc arr st)
/-- from this place of M the machine comes to M's end, with post -/
def j_S (M : jMi) (post : Option Value → jW → Prop) (pc : Nat) (ls : jL) (st : List Value) (w : jW) (cb sb : Nat) : Prop :=
  ls.length = m_n M → ∀ (p : Program) (l : Launch) (e : Env) (R : Room) (s : State) (m : MethodId) (args : Array Value) (below : List Frame) (meth : Method) (c : Code) (Q : State → Prop) (D : va_G) (tc : Nat → ClassId) (A : Nat → Prop) (MC MS : Nat),
    j_cx M p R s m args meth c D tc A MC MS → j_rt M post p l e R s m args below meth c Q D tc A MC MS → j_A p l e R s m args below meth c Q D tc A MC MS pc ls st w cb sb
theorem j_fetch_mem : ∀ {T : List (Nat × jI)} {pc : Nat} {i : jI}, j_fetch T pc = some i → (pc, i) ∈ T
  | [], _, _, h => by cases h
  | q :: r, pc, i, h => by
    unfold j_fetch at h
    split at h
    · rename_i hq
      cases h
      subst hq
      exact List.mem_cons_self
    · exact List.mem_cons_of_mem _ (j_fetch_mem h)
