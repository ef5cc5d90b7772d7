/-! THE STEP, INSTRUCTION BY INSTRUCTION, as equations for simp -/
def g_ld (o : Option (Option Value)) (f : Value → Prop) : Prop := match o with
  | some (some v) => f v
  | _ => False
theorem g_ld_s (v : Value) (f : Value → Prop) : g_ld (some (some v)) f ↔ f v := Iff.rfl
def g_v (o : Option Value) (f : Value → Prop) : Prop := match o with
  | some v => f v
  | none => False
theorem g_v_s (v : Value) (f : Value → Prop) : g_v (some v) f ↔ f v := Iff.rfl
def g_ob (ci : Nat) (o : Option jE) (f : List Value → Prop) : Prop := match o with
  | some (.inr (cj, fs)) => cj = ci ∧ f fs
  | _ => False
theorem g_ob_s (ci : Nat) (fs : List Value) (f : List Value → Prop) : g_ob ci (some (.inr (ci, fs))) f ↔ f fs := by simp [g_ob]
def g_ia (tk : Nat) (o : Option jE) (f : Nat → (Nat → Int32) → Prop) : Prop := match o with
  | some (.inl (t, n, .inl g)) => t = tk ∧ f n g
  | _ => False
theorem g_ia_s (tk n : Nat) (g : Nat → Int32) (f : Nat → (Nat → Int32) → Prop) : g_ia tk (some (.inl (tk, n, .inl g))) f ↔ f n g := by simp [g_ia]
def g_la (tk : Nat) (o : Option jE) (f : Nat → (Nat → Int64) → Prop) : Prop := match o with
  | some (.inl (t, n, .inr (.inl g))) => t = tk ∧ f n g
  | _ => False
theorem g_la_s (tk n : Nat) (g : Nat → Int64) (f : Nat → (Nat → Int64) → Prop) : g_la tk (some (.inl (tk, n, .inr (.inl g)))) f ↔ f n g := by simp [g_la]
def g_qa (tk : Nat) (o : Option jE) (f : Nat → (Nat → Option Nat) → Prop) : Prop := match o with
  | some (.inl (t, n, .inr (.inr (.inr (.inr g))))) => t = tk ∧ f n g
  | _ => False
theorem g_qa_s (tk n : Nat) (g : Nat → Option Nat) (f : Nat → (Nat → Option Nat) → Prop) : g_qa tk (some (.inl (tk, n, .inr (.inr (.inr (.inr g)))))) f ↔ f n g := by simp [g_qa]
def g_al (tk : Nat) (o : Option jE) (f : Nat → Prop) : Prop := match o with
  | some (.inl (t, y)) => t = tk ∧ f y.1
  | _ => False
theorem g_al_s (tk : Nat) (y : vp_A) (f : Nat → Prop) : g_al tk (some (.inl (tk, y))) f ↔ f y.1 := by simp [g_al]
theorem j_ok1_s (ls : jL) (i : Nat) : (j_ok1 ls i = true) ↔ (i < ls.length ∧ (i = 0 ∨ j_isL ls[i - 1]? = false)) := by simp [j_ok1]
section EQS
variable {rt : Option FieldType} {post : Option Value → jW → Prop} {K : Nat → jL → List Value → jW → Nat → Nat → Prop} {pc : Nat} {ls : jL} {r : List Value} {w : jW} {cb sb : Nat}
theorem e_iconst {n : Int} : j_ex rt post K pc (.iconst n) 1 none ls r w cb sb ↔ K (pc + 1) ls (.int (Int32.ofInt n) :: r) w cb sb := by simp [j_ex, j_pure]
theorem e_bipush {n : Int} : j_ex rt post K pc (.bipush n) 2 none ls r w cb sb ↔ K (pc + 2) ls (.int (Int8.ofInt n).toInt32 :: r) w cb sb := by simp [j_ex, j_pure]
theorem e_sipush {n : Int} : j_ex rt post K pc (.sipush n) 3 none ls r w cb sb ↔ K (pc + 3) ls (.int (Int16.ofInt n).toInt32 :: r) w cb sb := by simp [j_ex, j_pure]
theorem e_lconst {n : Fin 2} : j_ex rt post K pc (.lconst n) 1 none ls r w cb sb ↔ K (pc + 1) ls (.long (Int64.ofNat (n : Nat)) :: r) w cb sb := by simp [j_ex, j_pure]
theorem e_null : j_ex rt post K pc .aconst_null 1 none ls r w cb sb ↔ K (pc + 1) ls (.null :: r) w cb sb := by simp [j_ex, j_pure]
def t_i (v : Value) : Prop := match v with
  | .int _ => True
  | _ => False
def t_a (v : Value) : Prop := match v with
  | .ref _ => True
  | .null => True
  | _ => False
def t_l (v : Value) : Prop := match v with
  | .long _ => True
  | _ => False
theorem t_i_s (x : Int32) : t_i (.int x) ↔ True := Iff.rfl
theorem t_a_r (x : Nat) : t_a (.ref x) ↔ True := Iff.rfl
theorem t_a_n : t_a .null ↔ True := Iff.rfl
theorem t_a_q (x : Option Nat) : t_a (va_rf x) ↔ True := by cases x <;> exact Iff.rfl
theorem t_l_s (x : Int64) : t_l (.long x) ↔ True := Iff.rfl
theorem e_iload {n : Nat} : j_ex rt post K pc (.iload n) 2 none ls r w cb sb ↔ g_ld ls[n]? (fun v => t_i v ∧ K (pc + 2) ls (v :: r) w cb sb) := by
  simp only [j_ex, j_pure, g_ld]; cases ls[n]? with
  | none => simp
  | some o => cases o with
    | none => simp
    | some v => cases v <;> simp [t_i]
theorem e_iload_n {n : Fin 4} : j_ex rt post K pc (.iload_n n) 1 none ls r w cb sb ↔ g_ld ls[(n : Nat)]? (fun v => t_i v ∧ K (pc + 1) ls (v :: r) w cb sb) := by
  simp only [j_ex, j_pure, g_ld]; cases ls[(n : Nat)]? with
  | none => simp
  | some o => cases o with
    | none => simp
    | some v => cases v <;> simp [t_i]
theorem e_lload_n {n : Fin 4} : j_ex rt post K pc (.lload_n n) 1 none ls r w cb sb ↔ g_ld ls[(n : Nat)]? (fun v => t_l v ∧ K (pc + 1) ls (v :: r) w cb sb) := by
  simp only [j_ex, j_pure, g_ld]; cases ls[(n : Nat)]? with
  | none => simp
  | some o => cases o with
    | none => simp
    | some v => cases v <;> simp [t_l]
theorem e_aload {n : Nat} : j_ex rt post K pc (.aload n) 2 none ls r w cb sb ↔ g_ld ls[n]? (fun v => t_a v ∧ K (pc + 2) ls (v :: r) w cb sb) := by
  simp only [j_ex, j_pure, g_ld]; cases ls[n]? with
  | none => simp
  | some o => cases o with
    | none => simp
    | some v => cases v <;> simp [t_a]
theorem e_aload_n {n : Fin 4} : j_ex rt post K pc (.aload_n n) 1 none ls r w cb sb ↔ g_ld ls[(n : Nat)]? (fun v => t_a v ∧ K (pc + 1) ls (v :: r) w cb sb) := by
  simp only [j_ex, j_pure, g_ld]; cases ls[(n : Nat)]? with
  | none => simp
  | some o => cases o with
    | none => simp
    | some v => cases v <;> simp [t_a]
theorem e_istore {n : Nat} {x : Int32} : j_ex rt post K pc (.istore n) 2 none ls (.int x :: r) w cb sb ↔ j_ok1 ls n = true ∧ K (pc + 2) (ls.set n (some (.int x))) r w cb sb := by
  simp only [j_ex, j_pure]; by_cases h : j_ok1 ls n = true <;> simp [h]
theorem e_istore_n {n : Fin 4} {x : Int32} : j_ex rt post K pc (.istore_n n) 1 none ls (.int x :: r) w cb sb ↔ j_ok1 ls (n : Nat) = true ∧ K (pc + 1) (ls.set (n : Nat) (some (.int x))) r w cb sb := by
  simp only [j_ex, j_pure]; by_cases h : j_ok1 ls (n : Nat) = true <;> simp [h]
theorem e_lstore_n {n : Fin 4} {x : Int64} : j_ex rt post K pc (.lstore_n n) 1 none ls (.long x :: r) w cb sb ↔ (j_ok1 ls (n : Nat) = true ∧ (n : Nat) + 1 < ls.length) ∧ K (pc + 1) ((ls.set (n : Nat) (some (.long x))).set ((n : Nat) + 1) none) r w cb sb := by
  simp only [j_ex, j_pure]; by_cases h : j_ok1 ls (n : Nat) = true ∧ (n : Nat) + 1 < ls.length <;> simp [h]
theorem e_astore {n : Nat} {v : Value} : j_ex rt post K pc (.astore n) 2 none ls (v :: r) w cb sb ↔ (t_a v ∧ j_ok1 ls n = true) ∧ K (pc + 2) (ls.set n (some v)) r w cb sb := by
  simp only [j_ex, j_pure]; cases v <;> by_cases h : j_ok1 ls n = true <;> simp [h, t_a]
theorem e_astore_n {n : Fin 4} {v : Value} : j_ex rt post K pc (.astore_n n) 1 none ls (v :: r) w cb sb ↔ (t_a v ∧ j_ok1 ls (n : Nat) = true) ∧ K (pc + 1) (ls.set (n : Nat) (some v)) r w cb sb := by
  simp only [j_ex, j_pure]; cases v <;> by_cases h : j_ok1 ls (n : Nat) = true <;> simp [h, t_a]
theorem e_iinc {n : Nat} {z : Int} : j_ex rt post K pc (.iinc n z) 3 none ls r w cb sb ↔ g_ld ls[n]? (fun v => (match v with
    | .int x => j_ok1 ls n = true ∧ K (pc + 3) (ls.set n (some (.int (x + Int32.ofInt z)))) r w cb sb
    | _ => False)) := by
  simp only [j_ex, j_pure, g_ld]; cases ls[n]? with
  | none => simp
  | some o => cases o with
    | none => simp
    | some v => cases v <;> by_cases h : j_ok1 ls n = true <;> simp [h]
theorem e_iadd {x y : Int32} : j_ex rt post K pc .iadd 1 none ls (.int y :: .int x :: r) w cb sb ↔ K (pc + 1) ls (.int (x + y) :: r) w cb sb := by simp [j_ex, j_pure]
theorem e_isub {x y : Int32} : j_ex rt post K pc .isub 1 none ls (.int y :: .int x :: r) w cb sb ↔ K (pc + 1) ls (.int (x - y) :: r) w cb sb := by simp [j_ex, j_pure]
theorem e_imul {x y : Int32} : j_ex rt post K pc .imul 1 none ls (.int y :: .int x :: r) w cb sb ↔ K (pc + 1) ls (.int (x * y) :: r) w cb sb := by simp [j_ex, j_pure]
theorem e_iand {x y : Int32} : j_ex rt post K pc .iand 1 none ls (.int y :: .int x :: r) w cb sb ↔ K (pc + 1) ls (.int (x &&& y) :: r) w cb sb := by simp [j_ex, j_pure]
theorem e_ior {x y : Int32} : j_ex rt post K pc .ior 1 none ls (.int y :: .int x :: r) w cb sb ↔ K (pc + 1) ls (.int (x ||| y) :: r) w cb sb := by simp [j_ex, j_pure]
theorem e_ixor {x y : Int32} : j_ex rt post K pc .ixor 1 none ls (.int y :: .int x :: r) w cb sb ↔ K (pc + 1) ls (.int (x ^^^ y) :: r) w cb sb := by simp [j_ex, j_pure]
theorem e_ishl {x y : Int32} : j_ex rt post K pc .ishl 1 none ls (.int y :: .int x :: r) w cb sb ↔ K (pc + 1) ls (.int (x <<< (y &&& 31)) :: r) w cb sb := by simp [j_ex, j_pure]
theorem e_ishr {x y : Int32} : j_ex rt post K pc .ishr 1 none ls (.int y :: .int x :: r) w cb sb ↔ K (pc + 1) ls (.int (x >>> (y &&& 31)) :: r) w cb sb := by simp [j_ex, j_pure]
theorem e_i2l {x : Int32} : j_ex rt post K pc .i2l 1 none ls (.int x :: r) w cb sb ↔ K (pc + 1) ls (.long x.toInt64 :: r) w cb sb := by simp [j_ex, j_pure]
theorem e_l2i {x : Int64} : j_ex rt post K pc .l2i 1 none ls (.long x :: r) w cb sb ↔ K (pc + 1) ls (.int x.toInt32 :: r) w cb sb := by simp [j_ex, j_pure]
theorem e_ladd {x y : Int64} : j_ex rt post K pc .ladd 1 none ls (.long y :: .long x :: r) w cb sb ↔ K (pc + 1) ls (.long (x + y) :: r) w cb sb := by simp [j_ex, j_pure]
theorem e_lsub {x y : Int64} : j_ex rt post K pc .lsub 1 none ls (.long y :: .long x :: r) w cb sb ↔ K (pc + 1) ls (.long (x - y) :: r) w cb sb := by simp [j_ex, j_pure]
theorem e_land {x y : Int64} : j_ex rt post K pc .land 1 none ls (.long y :: .long x :: r) w cb sb ↔ K (pc + 1) ls (.long (x &&& y) :: r) w cb sb := by simp [j_ex, j_pure]
theorem e_lor {x y : Int64} : j_ex rt post K pc .lor 1 none ls (.long y :: .long x :: r) w cb sb ↔ K (pc + 1) ls (.long (x ||| y) :: r) w cb sb := by simp [j_ex, j_pure]
theorem e_lshl {x : Int64} {y : Int32} : j_ex rt post K pc .lshl 1 none ls (.int y :: .long x :: r) w cb sb ↔ K (pc + 1) ls (.long (x <<< (y.toInt64 &&& 63)) :: r) w cb sb := by simp [j_ex, j_pure]
theorem e_lshr {x : Int64} {y : Int32} : j_ex rt post K pc .lshr 1 none ls (.int y :: .long x :: r) w cb sb ↔ K (pc + 1) ls (.long (x >>> (y.toInt64 &&& 63)) :: r) w cb sb := by simp [j_ex, j_pure]
theorem e_lushr {x : Int64} {y : Int32} : j_ex rt post K pc .lushr 1 none ls (.int y :: .long x :: r) w cb sb ↔ K (pc + 1) ls (.long ((x.toUInt64 >>> (y.toInt64.toUInt64 &&& Int64.toUInt64 63)).toInt64) :: r) w cb sb := by simp [j_ex, j_pure]
theorem e_lcmp {x y : Int64} : j_ex rt post K pc .lcmp 1 none ls (.long y :: .long x :: r) w cb sb ↔ K (pc + 1) ls (.int (lg_cmp x y) :: r) w cb sb := by simp [j_ex, j_pure]
theorem e_dup {v : Value} : j_ex rt post K pc .dup 1 none ls (v :: r) w cb sb ↔ v.category = 1 ∧ K (pc + 1) ls (v :: v :: r) w cb sb := by
  simp only [j_ex, j_pure]; by_cases h : v.category = 1 <;> simp [h]
theorem e_pop {v : Value} : j_ex rt post K pc .pop 1 none ls (v :: r) w cb sb ↔ v.category = 1 ∧ K (pc + 1) ls r w cb sb := by
  simp only [j_ex, j_pure]; by_cases h : v.category = 1 <;> simp [h]
theorem e_dup_x1 {v u : Value} : j_ex rt post K pc .dup_x1 1 none ls (v :: u :: r) w cb sb ↔ (v.category = 1 ∧ u.category = 1) ∧ K (pc + 1) ls (v :: u :: v :: r) w cb sb := by
  simp only [j_ex, j_pure]; by_cases h : v.category = 1 ∧ u.category = 1 <;> simp [h]
theorem e_dup2 {v u : Value} : j_ex rt post K pc .dup2 1 none ls (v :: u :: r) w cb sb ↔ (v.category = 1 ∧ u.category = 1) ∧ K (pc + 1) ls (v :: u :: v :: u :: r) w cb sb := by
  simp only [j_ex, j_pure]; by_cases h : v.category = 1 ∧ u.category = 1 <;> simp [h]
theorem e_goto {off : Int} {x : List Nat} : j_ex rt post K pc (.goto off) 3 (some x) ls r w cb sb ↔ K (j_tg pc off) ls r w cb sb := Iff.rfl
theorem e_if {cd : ClassFile.Cond} {off : Int} {x : List Nat} {a : Int32} : j_ex rt post K pc (.ifCond cd off) 3 (some x) ls (.int a :: r) w cb sb ↔ (j_cd cd a 0 → K (j_tg pc off) ls r w cb sb) ∧ (¬ j_cd cd a 0 → K (pc + 3) ls r w cb sb) := Iff.rfl
theorem e_icmp {cd : ClassFile.Cond} {off : Int} {x : List Nat} {a b : Int32} : j_ex rt post K pc (.if_icmp cd off) 3 (some x) ls (.int b :: .int a :: r) w cb sb ↔ (j_cd cd a b → K (j_tg pc off) ls r w cb sb) ∧ (¬ j_cd cd a b → K (pc + 3) ls r w cb sb) := Iff.rfl
theorem e_ifnull_n {off : Int} {x : List Nat} : j_ex rt post K pc (.ifnull off) 3 (some x) ls (.null :: r) w cb sb ↔ K (j_tg pc off) ls r w cb sb := Iff.rfl
theorem e_ifnull_r {off : Int} {x : List Nat} {a : Nat} : j_ex rt post K pc (.ifnull off) 3 (some x) ls (.ref a :: r) w cb sb ↔ K (pc + 3) ls r w cb sb := Iff.rfl
theorem e_ifnonnull_n {off : Int} {x : List Nat} : j_ex rt post K pc (.ifnonnull off) 3 (some x) ls (.null :: r) w cb sb ↔ K (pc + 3) ls r w cb sb := Iff.rfl
theorem e_ifnonnull_r {off : Int} {x : List Nat} {a : Nat} : j_ex rt post K pc (.ifnonnull off) 3 (some x) ls (.ref a :: r) w cb sb ↔ K (j_tg pc off) ls r w cb sb := Iff.rfl
theorem e_idiv {x : List Nat} {a b : Int32} : j_ex rt post K pc .idiv 1 (some x) ls (.int b :: .int a :: r) w cb sb ↔ ¬ b = 0 ∧ K (pc + 1) ls (.int (a / b) :: r) w cb sb := Iff.rfl
theorem e_irem {x : List Nat} {a b : Int32} : j_ex rt post K pc .irem 1 (some x) ls (.int b :: .int a :: r) w cb sb ↔ ¬ b = 0 ∧ K (pc + 1) ls (.int (a - a / b * b) :: r) w cb sb := Iff.rfl
theorem e_iret {x : List Nat} {a : Int32} {ty : FieldType} : j_ex (some ty) post K pc .ireturn 1 (some x) ls [.int a] w cb sb ↔ narrow ty (.int a) = .int a ∧ post (some (.int a)) w := Iff.rfl
theorem e_lret {x : List Nat} {a : Int64} : j_ex rt post K pc .lreturn 1 (some x) ls [.long a] w cb sb ↔ post (some (.long a)) w := Iff.rfl
theorem e_aret {x : List Nat} {v : Value} : j_ex rt post K pc .areturn 1 (some x) ls [v] w cb sb ↔ t_a v ∧ post (some v) w := by cases v <;> simp [j_ex, t_a]
theorem e_vret {x : List Nat} : j_ex rt post K pc .return_ 1 (some x) ls [] w cb sb ↔ post none w := Iff.rfl
theorem e_getf {idx ci k a : Nat} : j_ex rt post K pc (.getfield idx) 3 (some [ci, k]) ls (.ref a :: r) w cb sb ↔ g_ob ci (w a) (fun fs => g_v fs[k]? (fun v => K (pc + 3) ls (v :: r) w cb sb)) := by
  simp only [j_ex, g_ob]; cases w a with
  | none => rfl
  | some o => cases o with
    | inl _ => rfl
    | inr q => obtain ⟨cj, fs⟩ := q; simp only [g_v]; cases fs[k]? <;> rfl
theorem e_putf {idx ci k t a : Nat} {v : Value} : j_ex rt post K pc (.putfield idx) 3 (some [ci, k, t]) ls (v :: .ref a :: r) w cb sb ↔ g_ob ci (w a) (fun fs => k < fs.length ∧ j_okv t v ∧ K (pc + 3) ls r (j_up w a (.inr (ci, fs.set k v))) cb sb) := by
  simp only [j_ex, g_ob]; cases w a with
  | none => rfl
  | some o => cases o with
    | inl _ => rfl
    | inr q => obtain ⟨cj, fs⟩ := q; rfl
theorem e_new {idx ci : Nat} {ts : List Nat} : j_ex rt post K pc (.new idx) 3 (some (ci :: ts)) ls r w cb sb ↔ 1 ≤ cb ∧ ts.length ≤ sb ∧ ∀ a, w a = none → K (pc + 3) ls (.ref a :: r) (j_up w a (.inr (ci, ts.map j_dv))) (cb - 1) (sb - ts.length) := Iff.rfl
theorem e_newi {tk : Nat} {n : Int32} : j_ex rt post K pc (.newarray .int) 2 (some [tk]) ls (.int n :: r) w cb sb ↔ ¬ n < 0 ∧ 1 ≤ cb ∧ n.toNatClampNeg ≤ sb ∧ n.toNatClampNeg ≤ 60000000 ∧ ∀ a, w a = none → K (pc + 2) ls (.ref a :: r) (j_up w a (.inl (tk, n.toNatClampNeg, .inl (fun _ => 0)))) (cb - 1) (sb - n.toNatClampNeg) := Iff.rfl
theorem e_newz {tk : Nat} {n : Int32} : j_ex rt post K pc (.newarray .boolean) 2 (some [tk]) ls (.int n :: r) w cb sb ↔ ¬ n < 0 ∧ 1 ≤ cb ∧ n.toNatClampNeg ≤ sb ∧ n.toNatClampNeg ≤ 60000000 ∧ ∀ a, w a = none → K (pc + 2) ls (.ref a :: r) (j_up w a (.inl (tk, n.toNatClampNeg, .inl (fun _ => 0)))) (cb - 1) (sb - n.toNatClampNeg) := Iff.rfl
theorem e_newl {tk : Nat} {n : Int32} : j_ex rt post K pc (.newarray .long) 2 (some [tk]) ls (.int n :: r) w cb sb ↔ ¬ n < 0 ∧ 1 ≤ cb ∧ n.toNatClampNeg ≤ sb ∧ n.toNatClampNeg ≤ 60000000 ∧ ∀ a, w a = none → K (pc + 2) ls (.ref a :: r) (j_up w a (.inl (tk, n.toNatClampNeg, .inr (.inl (fun _ => 0))))) (cb - 1) (sb - n.toNatClampNeg) := Iff.rfl
theorem e_newq {idx tk : Nat} {n : Int32} : j_ex rt post K pc (.anewarray idx) 3 (some [tk]) ls (.int n :: r) w cb sb ↔ ¬ n < 0 ∧ 1 ≤ cb ∧ n.toNatClampNeg ≤ sb ∧ n.toNatClampNeg ≤ 60000000 ∧ ∀ a, w a = none → K (pc + 3) ls (.ref a :: r) (j_up w a (.inl (tk, n.toNatClampNeg, .inr (.inr (.inr (.inr (fun _ => none))))))) (cb - 1) (sb - n.toNatClampNeg) := Iff.rfl
theorem e_iald {tk a : Nat} {j : Int32} : j_ex rt post K pc .iaload 1 (some [tk]) ls (.int j :: .ref a :: r) w cb sb ↔ g_ia tk (w a) (fun n f => vp_in j n ∧ K (pc + 1) ls (.int (f j.toNatClampNeg) :: r) w cb sb) := by
  simp only [j_ex, g_ia]; rcases w a with _ | (⟨t, n, _ | _ | _ | _ | _⟩ | _) <;> rfl
theorem e_zald {tk a : Nat} {j : Int32} : j_ex rt post K pc .baload 1 (some [tk]) ls (.int j :: .ref a :: r) w cb sb ↔ g_ia tk (w a) (fun n f => vp_in j n ∧ K (pc + 1) ls (.int (f j.toNatClampNeg) :: r) w cb sb) := by
  simp only [j_ex, g_ia]; rcases w a with _ | (⟨t, n, _ | _ | _ | _ | _⟩ | _) <;> rfl
theorem e_lald {tk a : Nat} {j : Int32} : j_ex rt post K pc .laload 1 (some [tk]) ls (.int j :: .ref a :: r) w cb sb ↔ g_la tk (w a) (fun n f => vp_in j n ∧ K (pc + 1) ls (.long (f j.toNatClampNeg) :: r) w cb sb) := by
  simp only [j_ex, g_la]; rcases w a with _ | (⟨t, n, _ | _ | _ | _ | _⟩ | _) <;> rfl
theorem e_aald {tk a : Nat} {j : Int32} : j_ex rt post K pc .aaload 1 (some [tk]) ls (.int j :: .ref a :: r) w cb sb ↔ g_qa tk (w a) (fun n f => vp_in j n ∧ K (pc + 1) ls (va_rf (f j.toNatClampNeg) :: r) w cb sb) := by
  simp only [j_ex, g_qa]; rcases w a with _ | (⟨t, n, _ | _ | _ | _ | _⟩ | _) <;> rfl
theorem e_iast {tk a : Nat} {j v : Int32} : j_ex rt post K pc .iastore 1 (some [tk]) ls (.int v :: .int j :: .ref a :: r) w cb sb ↔ g_ia tk (w a) (fun n f => vp_in j n ∧ K (pc + 1) ls r (j_up w a (.inl (tk, n, .inl (upd f j.toNatClampNeg v)))) cb sb) := by
  simp only [j_ex, g_ia]; rcases w a with _ | (⟨t, n, _ | _ | _ | _ | _⟩ | _) <;> rfl
theorem e_zast {tk a : Nat} {j v : Int32} : j_ex rt post K pc .bastore 1 (some [tk]) ls (.int v :: .int j :: .ref a :: r) w cb sb ↔ g_ia tk (w a) (fun n f => vp_in j n ∧ K (pc + 1) ls r (j_up w a (.inl (tk, n, .inl (upd f j.toNatClampNeg (vp_nar .boolean v))))) cb sb) := by
  simp only [j_ex, g_ia]; rcases w a with _ | (⟨t, n, _ | _ | _ | _ | _⟩ | _) <;> rfl
theorem e_last {tk a : Nat} {j : Int32} {v : Int64} : j_ex rt post K pc .lastore 1 (some [tk]) ls (.long v :: .int j :: .ref a :: r) w cb sb ↔ g_la tk (w a) (fun n f => vp_in j n ∧ K (pc + 1) ls r (j_up w a (.inl (tk, n, .inr (.inl (vp_updL f j.toNatClampNeg v))))) cb sb) := by
  simp only [j_ex, g_la]; rcases w a with _ | (⟨t, n, _ | _ | _ | _ | _⟩ | _) <;> rfl
theorem e_aast {tk ci a v : Nat} {j : Int32} : j_ex rt post K pc .aastore 1 (some [tk, ci]) ls (.ref v :: .int j :: .ref a :: r) w cb sb ↔ g_qa tk (w a) (fun n f => vp_in j n ∧ g_ob ci (w v) (fun _ => K (pc + 1) ls r (j_up w a (.inl (tk, n, .inr (.inr (.inr (.inr (va_up f j.toNatClampNeg (some v)))))))) cb sb)) := by
  simp only [j_ex, g_qa, g_ob]; rcases w a with _ | (⟨t, n, _ | _ | _ | _ | _⟩ | _) <;> rcases w v with _ | (_ | ⟨cj, fs⟩) <;> rfl
theorem e_alen {tk a : Nat} : j_ex rt post K pc .arraylength 1 (some [tk]) ls (.ref a :: r) w cb sb ↔ g_al tk (w a) (fun n => K (pc + 1) ls (.int (Int32.ofNat n) :: r) w cb sb) := by
  simp only [j_ex, g_al]; rcases w a with _ | (⟨t, y⟩ | _) <;> rfl
theorem e_ldc {idx v : Nat} : j_ex rt post K pc (.ldc idx) 2 (some [v]) ls r w cb sb ↔ K (pc + 2) ls (.int (Int32.ofNat v) :: r) w cb sb := Iff.rfl
theorem e_ldc2 {idx v : Nat} : j_ex rt post K pc (.ldc2_w idx) 3 (some [v]) ls r w cb sb ↔ K (pc + 3) ls (.long (Int64.ofNat v) :: r) w cb sb := Iff.rfl
theorem e_objinit {idx a : Nat} : j_ex rt post K pc (.invokespecial idx) 3 (some []) ls (.ref a :: r) w cb sb ↔ j_w8 r ∧ K (pc + 3) ls r w cb sb := Iff.rfl
/-- a call: some cells and slots are set aside for it -/
def g_call (M : jMi) (av : List Value) (w : jW) (cb sb : Nat) (K : Option Value → jW → Nat → Nat → Prop) : Prop := ∃ mc ms, mc ≤ cb ∧ ms ≤ sb ∧ j_sem M av w mc ms (fun v w' => K v w' (cb - mc) (sb - ms))
def g_spl (o : Option (List Value × List Value)) (f : List Value → List Value → Prop) : Prop := match o with
  | some (As, r) => f As r
  | none => False
theorem g_spl_s (As r : List Value) (f : List Value → List Value → Prop) : g_spl (some (As, r)) f ↔ f As r := Iff.rfl
def g_rcv (o : Option (List Value × List Value)) (f : List Value → Nat → List Value → Prop) : Prop := match o with
  | some (As, .ref b :: r) => f As b r
  | _ => False
theorem g_rcv_s (As r : List Value) (b : Nat) (f : List Value → Nat → List Value → Prop) : g_rcv (some (As, .ref b :: r)) f ↔ f As b r := Iff.rfl
theorem e_calls {idx j n : Nat} {st : List Value} : j_ex rt post K pc (.invokestatic idx) 3 (some [j, n]) ls st w cb sb ↔ g_spl (j_spl n [] st) (fun As r => j_w8 r ∧ g_call (jmt j) As w cb sb (fun v w' c s => K (pc + 3) ls (v.toList ++ r) w' c s)) := by
  simp only [j_ex, g_spl, g_call]; rcases j_spl n [] st with _ | ⟨As, r⟩ <;> rfl
theorem e_callv {idx j n ci : Nat} {st : List Value} : j_ex rt post K pc (.invokevirtual idx) 3 (some [j, n, ci]) ls st w cb sb ↔ g_rcv (j_spl n [] st) (fun As b r => g_ob ci (w b) (fun _ => True) ∧ j_w8 r ∧ g_call (jmt j) (.ref b :: As) w cb sb (fun v w' c s => K (pc + 3) ls (v.toList ++ r) w' c s)) := by
  simp only [j_ex, g_rcv, g_call]
  rcases j_spl n [] st with _ | ⟨As, _ | ⟨_ | _ | _ | _ | _ | _ | _, r⟩⟩ <;> try rfl
  rename_i b
  refine and_congr ?_ Iff.rfl
  unfold g_ob
  rcases w b with _ | (_ | ⟨cj, fs⟩) <;> simp
theorem e_calli {idx j n : Nat} {st : List Value} : j_ex rt post K pc (.invokespecial idx) 3 (some [j, n]) ls st w cb sb ↔ g_rcv (j_spl n [] st) (fun As b r => j_w8 r ∧ g_call (jmt j) (.ref b :: As) w cb sb (fun v w' c s => K (pc + 3) ls (v.toList ++ r) w' c s)) := by
  simp only [j_ex, g_rcv, g_call]
  rcases j_spl n [] st with _ | ⟨As, _ | ⟨_ | _ | _ | _ | _ | _ | _, r⟩⟩ <;> rfl
theorem e_tsw {d lo hi : Int} {offs : Array Int} {len : Nat} {x : List Nat} {a : Int32} : j_ex rt post K pc (.tableswitch d lo hi offs) len (some x) ls (.int a :: r) w cb sb ↔ (a.toInt < lo ∨ hi < a.toInt → K (j_tg pc d) ls r w cb sb) ∧ j_sw (fun t => K t ls r w cb sb) pc a.toInt lo offs.toList := Iff.rfl
end EQS
theorem g_call0 {M : jMi} {av : List Value} {w : jW} {cb sb : Nat} {K : Option Value → jW → Nat → Nat → Prop} (h : j_sem M av w 0 0 (fun v w' => K v w' cb sb)) : g_call M av w cb sb K := ⟨0, 0, Nat.zero_le _, Nat.zero_le _, h⟩
theorem g_calln {M : jMi} {av : List Value} {w : jW} {cb sb mc ms : Nat} {K : Option Value → jW → Nat → Nat → Prop} (h1 : mc ≤ cb) (h2 : ms ≤ sb) (h : j_sem M av w mc ms (fun v w' => K v w' (cb - mc) (sb - ms))) : g_call M av w cb sb K := ⟨mc, ms, h1, h2, h⟩
theorem j_w8_of {r : List Value} (h : (r.map fun v => v.category).sum ≤ 8) : j_w8 r := h
