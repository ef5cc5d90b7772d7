def j_fty (T : u_T) (k : Nat) : FieldType := (parseFieldDescriptor (T k).2.2.1).getD .int
/-- what holds of a class of the tables -/
def j_okC (q : vw_C) : Prop := (∀ w ∈ u_ws q.1 q.2.1 q.2.2, w ∈ jTS) ∧ (∀ k, k < q.2.2 → parseFieldDescriptor (q.2.1 k).2.2.1 = some (j_fty q.2.1 k)) ∧ ∀ a, a < q.2.2 → ∀ b, b < q.2.2 → a ≠ b → (q.2.1 a).2.1 ≠ (q.2.1 b).2.1
def j_tys (tc : Nat → ClassId) : List (ClassId × FieldType) := (List.range jTY.length).map (fun k => (tc k, jTY.getD k .int))
theorem j_tys_at {tc : Nat → ClassId} {k : Nat} {ty : FieldType} (h : jTY[k]? = some ty) : (j_tys tc)[k]? = some (tc k, ty) := by
  have hk := (List.getElem?_eq_some_iff.mp h).1
  unfold j_tys
  rw [List.getElem?_map, List.getElem?_range hk, Option.map_some, List.getD_eq_getElem?_getD, h]
  rfl
def j_isN : Cond → Bool
  | .fieldLinkNest .. => true
  | .methodLinkNest .. => true
  | .castable .. => true
  | _ => false
/-- what the tables say of a state, and every later one -/
def j_Z (D : va_G) (tc : Nat → ClassId) (U : State) : Prop := va_K D jcl (j_tys tc) U ∧ (∀ w ∈ jNW, j_isN w = true ∧ va_Nw w U) ∧ ∀ C ∈ jAO, va_AO C U
theorem j_Z.moved {D : va_G} {tc : Nat → ClassId} {s U : State} (hW : s.WarmedH U.vm) (h : j_Z D tc s) : j_Z D tc U := by
  refine ⟨h.1.moved hW.alike, fun w hw => ?_, fun C hC => (h.2.2 C hC).moved hW.alike⟩
  obtain ⟨h1, h2⟩ := h.2.1 w hw
  refine ⟨h1, ?_⟩
  cases w
  case fieldLinkNest a i b n d hh => exact va_Nw.warmF hW h2
  case methodLinkNest a i y hh => exact va_Nw.warmM hW h2
  case castable a b => exact va_Nw.warmC hW h2
  all_goals (simp [j_isN] at h1)
theorem j_Z.calling {D : va_G} {tc : Nat → ClassId} {U : State} {g : JFrame} {mk : MethodId} {a : Array Value} (h : j_Z D tc U) : j_Z D tc (U.calling g mk a) := by
  refine ⟨va_K.moved (u := U) (U := U.calling g mk a) (Vm.Alike.refl U.vm) h.1, fun w hw => ?_, fun C hC => va_AO.moved (u := U) (U := U.calling g mk a) (Vm.Alike.refl U.vm) (h.2.2 C hC)⟩
  obtain ⟨h1, h2⟩ := h.2.1 w hw
  refine ⟨h1, va_Nw.same ?_ (rfl : U.vm = (U.calling g mk a).vm) h2⟩
  cases w <;> first | rfl | (simp [j_isN] at h1)
theorem j_RA_inj {s : State} {c1 c2 : ClassId} {ty : FieldType} (h1 : va_RA s c1 ty) (h2 : va_RA s c2 ty) : c1 = c2 := by
  cases ty with
  | object C =>
    obtain ⟨_, _, _, _, _, h3⟩ := h1
    obtain ⟨_, _, _, _, _, h4⟩ := h2
    exact Option.some.inj (h3.symm.trans h4)
  | _ => exact Option.some.inj (Eq.trans (Eq.symm h1) h2)
theorem j_Wd.weaken {D : va_G} {tc : Nat → ClassId} {A B : Nat → Prop} {w : jW} {H : Heap} (h : j_Wd D tc A w H) (hAB : ∀ q, w q ≠ none → A q → B q) : j_Wd D tc B w H := by
  obtain ⟨L, hL, hP, hD⟩ := h
  refine ⟨L, hL, hP, hD.weaken fun k q hk ha => hAB q.1 ?_ ha⟩
  have := List.mem_of_getElem? hk
  obtain ⟨a, ha1, ha2⟩ := List.mem_map.mp this
  rw [← ha2]
  exact (hL a).mp ha1
theorem j_Wd.in {D : va_G} {tc : Nat → ClassId} {A : Nat → Prop} {w : jW} {H : Heap} (h : j_Wd D tc A w H) {q : Nat} (hq : w q ≠ none) : A q := by
  obtain ⟨L, hL, hP, hD⟩ := h
  cases hw : w q with
  | none => exact absurd hw hq
  | some e =>
    obtain ⟨k, hk⟩ := j_at (tc := tc) hL hw
    exact hD.2 k _ hk
theorem j_Wd.lt {D : va_G} {tc : Nat → ClassId} {A : Nat → Prop} {w : jW} {H : Heap} (h : j_Wd D tc A w H) {q : Nat} (hq : w q ≠ none) : q < H.size := by
  obtain ⟨L, hL, hP, hD⟩ := h
  cases hw : w q with
  | none => exact absurd hw hq
  | some e =>
    obtain ⟨k, hk⟩ := j_at (tc := tc) hL hw
    exact (hP k _ hk).lt
section JH
variable {p : Program} {l : Launch} {e : Env} {R : Room} {s : State} {m : MethodId} {args : Array Value} {below : List Frame} {meth : Method} {c : Code} {Q : State → Prop}
variable {D : va_G} {tc : Nat → ClassId} {A : Nat → Prop} {MC MS : Nat} {cc : ByteArray} {own : String}
variable {pc : Nat} {ls : jL} {st : List Value} {w : jW} {cb sb : Nat}
def j_fl (own : String) (idx : Nat) (q : String × String × String × Bool) (args : Array Value) (s : State) : Prop := (Cond.fieldLink own idx q.1 q.2.1 q.2.2.1).before args s = true ∨ ∃ host, (Cond.fieldLinkNest own idx q.1 q.2.1 q.2.2.1 host).before args s = true
theorem j_getf (hx : p.tables.exec = Jvm.exec) (hb : c.code = cc) (hts : ∀ w ∈ jTS, w.before args s = true) (hown : s.vm.findClass own = some m.cls) (hZ : j_Z D tc s) {q : vw_C} {ci k idx a : Nat} {fs : List Value} {v : Value} (hc : jcl[ci]? = some q) (hC : j_okC q) (hk : k < q.2.2) (hlink : j_fl own idx (q.2.1 k) args s)
    (hw : w a = some (.inr (ci, fs))) (hv : fs[k]? = some v) (hd : decode cc pc = .ok (.getfield idx, 3)) (kk : j_A p l e R s m args below meth c Q D tc A MC MS (pc + 3) ls (v :: st) w cb sb) : j_A p l e R s m args below meth c Q D tc A MC MS pc ls (.ref a :: st) w cb sb := by
  intro H locs arr cells slots hl hW hS h1 h2
  have k1 := kk H locs arr cells slots hl hW hS h1 h2
  obtain ⟨L, hL, hP, hD⟩ := hW
  obtain ⟨z, hz⟩ := j_at (tc := tc) hL hw
  rcases hlink with h | ⟨host, h⟩
  · exact va_get (C := q.1) (T := q.2.1) (N := q.2.2) hx hb hts hC.1 hown hZ.1 hP z hz hc k hk h (fun _ h => h) hv hd k1
  · exact va_getN (C := q.1) (T := q.2.1) (N := q.2.2) hx hb hts hC.1 hown hZ.1 hP z hz hc k hk h (fun _ h => h) hv hd k1
theorem j_putf (hx : p.tables.exec = Jvm.exec) (hb : c.code = cc) (hts : ∀ w ∈ jTS, w.before args s = true) (hown : s.vm.findClass own = some m.cls) (hZ : j_Z D tc s) {q : vw_C} {ci k idx a : Nat} {fs : List Value} {v : Value} (hc : jcl[ci]? = some q) (hC : j_okC q) (hk : k < q.2.2) (hlink : j_fl own idx (q.2.1 k) args s)
    (hfin : (q.2.1 k).2.2.2 = false ∨ ((q.2.1 k).2.2.2 = true ∧ meth.name = "<init>" ∧ (q.2.1 k).1 = own ∧ (Cond.fieldLink own idx (q.2.1 k).1 (q.2.1 k).2.1 (q.2.1 k).2.2.1).before args s = true)) (hn : narrow (j_fty q.2.1 k) v = v) (hf : fits (j_fty q.2.1 k) v = true)
    (hw : w a = some (.inr (ci, fs))) (hl0 : k < fs.length) (hd : decode cc pc = .ok (.putfield idx, 3)) (kk : j_A p l e R s m args below meth c Q D tc A MC MS (pc + 3) ls st (j_up w a (.inr (ci, fs.set k v))) cb sb) : j_A p l e R s m args below meth c Q D tc A MC MS pc ls (v :: .ref a :: st) w cb sb := by
  intro H locs arr cells slots hl hW hS h1 h2
  have k1 := fun H1 locs1 (hW1 : j_Wd D tc A (j_up w a (.inr (ci, fs.set k v))) H1) (hS1 : va_S A s.heap H1 locs1) => kk H1 locs1 arr cells slots hl hW1 hS1 h1 h2
  obtain ⟨L, hL, hP, hD⟩ := hW
  obtain ⟨z, hz⟩ := j_at (tc := tc) hL hw
  rcases hfin with hfin | ⟨hfin, hin, hdecl, hlk⟩
  · rcases hlink with h | ⟨host, h⟩
    · exact va_put (C := q.1) (T := q.2.1) (N := q.2.2) hx hb hts hC.1 (j_fty q.2.1) hC.2.1 hC.2.2 hown hZ.1 hP hD hS z hz hc k hk h (fun _ h => h) hfin (hC.2.1 k hk) hn hf hl0 hd (fun H1 locs1 hP1 hD1 hS1 => k1 H1 locs1 (j_set (e' := .inr (ci, fs.set k v)) hL hD hw hz hP1 hD1) hS1)
    · exact va_putN (C := q.1) (T := q.2.1) (N := q.2.2) hx hb hts hC.1 (j_fty q.2.1) hC.2.1 hC.2.2 hown hZ.1 hP hD hS z hz hc k hk h (fun _ h => h) hfin (hC.2.1 k hk) hn hf hl0 hd (fun H1 locs1 hP1 hD1 hS1 => k1 H1 locs1 (j_set (e' := .inr (ci, fs.set k v)) hL hD hw hz hP1 hD1) hS1)
  · exact va_putF (C := q.1) (T := q.2.1) (N := q.2.2) hx hb hts hC.1 (j_fty q.2.1) hC.2.1 hC.2.2 hown hZ.1 hP hD hS z hz hc k hk hlk (fun _ h => h) hfin hin hdecl (hC.2.1 k hk) hn hf hl0 hd (fun H1 locs1 hP1 hD1 hS1 => k1 H1 locs1 (j_set (e' := .inr (ci, fs.set k v)) hL hD hw hz hP1 hD1) hS1)
theorem j_new (hx : p.tables.exec = Jvm.exec) (hb : c.code = cc) (hts : ∀ w ∈ jTS, w.before args s = true) (hown : s.vm.findClass own = some m.cls) (hZ : j_Z D tc s) (hA : ∀ q, s.heap.size ≤ q → A q) (hMC : MC ≤ R.cells) (hMS : MS ≤ R.slots) {q : vw_C} {ci idx : Nat} {fs : List Value} (hc : jcl[ci]? = some q) (hC : j_okC q)
    (hcl : (Cond.classLink own idx q.1).before args s = true) (hinst : (Cond.instantiable q.1 q.2.2).before args s = true) (hini : (Cond.initialized q.1).before args s = true) (hfs : ∀ j, j < q.2.2 → defaultValue (j_fty q.2.1 j) = vp_V fs j)
    (hd : decode cc pc = .ok (.new idx, 3)) (hcb : 1 ≤ cb) (hsb : q.2.2 ≤ sb) (kk : ∀ a, w a = none → j_A p l e R s m args below meth c Q D tc A MC MS (pc + 3) ls (.ref a :: st) (j_up w a (.inr (ci, fs))) (cb - 1) (sb - q.2.2)) : j_A p l e R s m args below meth c Q D tc A MC MS pc ls st w cb sb := by
  intro H locs arr cells slots hl hW hS h1 h2
  obtain ⟨L, hL, hP, hD⟩ := hW
  refine va_new (C := q.1) (T := q.2.1) (N := q.2.2) (ci := ci) (fs := fs) hx hb hts hC.1 (j_fty q.2.1) hC.2.1 hown hcl hinst hini hZ.1 hP hD hS hA hc hfs (by omega) (by omega) hd (fun a H1 hP1 hD1 hS1 => ?_)
  obtain ⟨hn, hW1⟩ := j_push (e := .inr (ci, fs)) hL hP1 hD1
  exact kk a hn H1 locs arr (cells + 1) (slots + q.2.2) hl hW1 hS1 (by omega) (by omega)
theorem j_newa (hx : p.tables.exec = Jvm.exec) (hb : c.code = cc) (hZ : j_Z D tc s) (hA : ∀ q, s.heap.size ≤ q → A q) (hMC : MC ≤ R.cells) (hMS : MS ≤ R.slots) {atype : ArrayType} {tk N : Nat} {n : Int32} {a0 : vp_A} (harr : (Cond.arrayClass (newarray.typeOf atype)).before args s = true) (htk : jTY[tk]? = some (newarray.typeOf atype)) (ha : ∀ cA : ClassId, vp_cell cA a0 = arrV cA N (fun _ => defaultValue (newarray.typeOf atype)))
    (hn : ¬ n < 0) (hN : n.toNatClampNeg = N) (hbytes : N * componentBytes (newarray.typeOf atype) ≤ 536870912) (hd : decode cc pc = .ok (.newarray atype, 2)) (hcb : 1 ≤ cb) (hsb : N ≤ sb)
    (kk : ∀ a, w a = none → j_A p l e R s m args below meth c Q D tc A MC MS (pc + 2) ls (.ref a :: st) (j_up w a (.inl (tk, a0))) (cb - 1) (sb - N)) : j_A p l e R s m args below meth c Q D tc A MC MS pc ls (.int n :: st) w cb sb := by
  intro H locs arr cells slots hl hW hS h1 h2
  obtain ⟨L, hL, hP, hD⟩ := hW
  refine va_newa (a0 := a0) hx hb harr rfl hZ.1 hP hD hS hA ha hn hN hbytes (by omega) (by omega) hd (fun a cA H1 hK1 hP1 hD1 hS1 => ?_)
  have e1 : cA = tc tk := by
    have g1 := (hK1.2 (j_tys tc).length (cA, newarray.typeOf atype) (by rw [List.getElem?_append_right (Nat.le_refl _), Nat.sub_self]; rfl)).2
    have g2 := (hZ.1.2 tk _ (j_tys_at htk)).2
    exact j_RA_inj g1 g2
  subst e1
  obtain ⟨hn, hW1⟩ := j_push (e := .inl (tk, a0)) hL hP1 hD1
  exact kk a hn H1 locs arr (cells + 1) (slots + N) hl hW1 hS1 (by omega) (by omega)
theorem j_newq (hx : p.tables.exec = Jvm.exec) (hb : c.code = cc) (hown : s.vm.findClass own = some m.cls) (hZ : j_Z D tc s) (hA : ∀ q, s.heap.size ≤ q → A q) (hMC : MC ≤ R.cells) (hMS : MS ≤ R.slots) {C : String} {idx tk N : Nat} {n : Int32} (hcl : (Cond.classLink own idx C).before args s = true) (hao : C ∈ jAO) (htk : jTY[tk]? = some (.object C))
    (hn : ¬ n < 0) (hN : n.toNatClampNeg = N) (hbytes : N * 4 ≤ 536870912) (hd : decode cc pc = .ok (.anewarray idx, 3)) (hcb : 1 ≤ cb) (hsb : N ≤ sb)
    (kk : ∀ a, w a = none → j_A p l e R s m args below meth c Q D tc A MC MS (pc + 3) ls (.ref a :: st) (j_up w a (.inl (tk, N, .inr (.inr (.inr (.inr (fun _ => none))))))) (cb - 1) (sb - N)) : j_A p l e R s m args below meth c Q D tc A MC MS pc ls (.int n :: st) w cb sb := by
  intro H locs arr cells slots hl hW hS h1 h2
  obtain ⟨L, hL, hP, hD⟩ := hW
  refine va_newq hx hb hown hcl (hZ.2.2 C hao) hZ.1 hP hD hS hA hn hN hbytes (by omega) (by omega) hd (fun a cA H1 hK1 hP1 hD1 hS1 => ?_)
  have e1 : cA = tc tk := by
    have g1 := (hK1.2 (j_tys tc).length (cA, .object C) (by rw [List.getElem?_append_right (Nat.le_refl _), Nat.sub_self]; rfl)).2
    have g2 := (hZ.1.2 tk _ (j_tys_at htk)).2
    exact j_RA_inj g1 g2
  subst e1
  obtain ⟨hn, hW1⟩ := j_push (e := .inl (tk, N, .inr (.inr (.inr (.inr (fun _ => none)))))) hL hP1 hD1
  exact kk a hn H1 locs arr (cells + 1) (slots + N) hl hW1 hS1 (by omega) (by omega)
theorem j_iald (hx : p.tables.exec = Jvm.exec) (hb : c.code = cc) (hZ : j_Z D tc s) {tk n a : Nat} {f : Nat → Int32} {i : Int32} (htk : jTY[tk]? = some .int) (hw : w a = some (.inl (tk, n, .inl f))) (hin : vp_in i n) (hd : decode cc pc = .ok (.iaload, 1))
    (kk : j_A p l e R s m args below meth c Q D tc A MC MS (pc + 1) ls (.int (f i.toNatClampNeg) :: st) w cb sb) : j_A p l e R s m args below meth c Q D tc A MC MS pc ls (.int i :: .ref a :: st) w cb sb := by
  intro H locs arr cells slots hl hW hS h1 h2
  have k1 := kk H locs arr cells slots hl hW hS h1 h2
  obtain ⟨L, hL, hP, hD⟩ := hW
  obtain ⟨z, hz⟩ := j_at (tc := tc) hL hw
  exact va_iald hx hb hZ.1 hP z tk hz (j_tys_at htk) hin hd k1
theorem j_zald (hx : p.tables.exec = Jvm.exec) (hb : c.code = cc) (hZ : j_Z D tc s) {tk n a : Nat} {f : Nat → Int32} {i : Int32} (htk : jTY[tk]? = some .boolean) (hw : w a = some (.inl (tk, n, .inl f))) (hin : vp_in i n) (hd : decode cc pc = .ok (.baload, 1))
    (kk : j_A p l e R s m args below meth c Q D tc A MC MS (pc + 1) ls (.int (f i.toNatClampNeg) :: st) w cb sb) : j_A p l e R s m args below meth c Q D tc A MC MS pc ls (.int i :: .ref a :: st) w cb sb := by
  intro H locs arr cells slots hl hW hS h1 h2
  have k1 := kk H locs arr cells slots hl hW hS h1 h2
  obtain ⟨L, hL, hP, hD⟩ := hW
  obtain ⟨z, hz⟩ := j_at (tc := tc) hL hw
  exact va_zald hx hb hZ.1 hP z tk hz (j_tys_at htk) hin hd k1
theorem j_lald (hx : p.tables.exec = Jvm.exec) (hb : c.code = cc) (hZ : j_Z D tc s) {tk n a : Nat} {f : Nat → Int64} {i : Int32} (htk : jTY[tk]? = some .long) (hw : w a = some (.inl (tk, n, .inr (.inl f)))) (hin : vp_in i n) (hd : decode cc pc = .ok (.laload, 1))
    (kk : j_A p l e R s m args below meth c Q D tc A MC MS (pc + 1) ls (.long (f i.toNatClampNeg) :: st) w cb sb) : j_A p l e R s m args below meth c Q D tc A MC MS pc ls (.int i :: .ref a :: st) w cb sb := by
  intro H locs arr cells slots hl hW hS h1 h2
  have k1 := kk H locs arr cells slots hl hW hS h1 h2
  obtain ⟨L, hL, hP, hD⟩ := hW
  obtain ⟨z, hz⟩ := j_at (tc := tc) hL hw
  exact va_lald hx hb hZ.1 hP z tk hz (j_tys_at htk) hin hd k1
theorem j_aald (hx : p.tables.exec = Jvm.exec) (hb : c.code = cc) (hZ : j_Z D tc s) {tk n a : Nat} {C : String} {f : Nat → Option Nat} {i : Int32} (htk : jTY[tk]? = some (.object C)) (hw : w a = some (.inl (tk, n, .inr (.inr (.inr (.inr f)))))) (hin : vp_in i n) (hd : decode cc pc = .ok (.aaload, 1))
    (kk : j_A p l e R s m args below meth c Q D tc A MC MS (pc + 1) ls (va_rf (f i.toNatClampNeg) :: st) w cb sb) : j_A p l e R s m args below meth c Q D tc A MC MS pc ls (.int i :: .ref a :: st) w cb sb := by
  intro H locs arr cells slots hl hW hS h1 h2
  have k1 := kk H locs arr cells slots hl hW hS h1 h2
  obtain ⟨L, hL, hP, hD⟩ := hW
  obtain ⟨z, hz⟩ := j_at (tc := tc) hL hw
  exact va_aldq hx hb hZ.1 hP z tk hz (j_tys_at htk) hin hd k1
theorem j_alen (hx : p.tables.exec = Jvm.exec) (hb : c.code = cc) (hZ : j_Z D tc s) {tk a : Nat} {ty : FieldType} {x : vp_A} (htk : jTY[tk]? = some ty) (hw : w a = some (.inl (tk, x))) (hd : decode cc pc = .ok (.arraylength, 1))
    (kk : j_A p l e R s m args below meth c Q D tc A MC MS (pc + 1) ls (.int (Int32.ofNat x.1) :: st) w cb sb) : j_A p l e R s m args below meth c Q D tc A MC MS pc ls (.ref a :: st) w cb sb := by
  intro H locs arr cells slots hl hW hS h1 h2
  have k1 := kk H locs arr cells slots hl hW hS h1 h2
  obtain ⟨L, hL, hP, hD⟩ := hW
  obtain ⟨z, hz⟩ := j_at (tc := tc) hL hw
  exact va_alen hx hb hZ.1 hP z tk hz (j_tys_at htk) rfl hd k1
theorem j_iast (hx : p.tables.exec = Jvm.exec) (hb : c.code = cc) (hZ : j_Z D tc s) {tk n a : Nat} {f : Nat → Int32} {i x : Int32} (htk : jTY[tk]? = some .int) (hw : w a = some (.inl (tk, n, .inl f))) (hin : vp_in i n) (hd : decode cc pc = .ok (.iastore, 1))
    (kk : j_A p l e R s m args below meth c Q D tc A MC MS (pc + 1) ls st (j_up w a (.inl (tk, n, .inl (upd f i.toNatClampNeg x)))) cb sb) : j_A p l e R s m args below meth c Q D tc A MC MS pc ls (.int x :: .int i :: .ref a :: st) w cb sb := by
  intro H locs arr cells slots hl hW hS h1 h2
  obtain ⟨L, hL, hP, hD⟩ := hW
  obtain ⟨z, hz⟩ := j_at (tc := tc) hL hw
  exact va_iast hx hb hZ.1 hP hD hS z tk hz (j_tys_at htk) hin hd (fun H1 locs1 hP1 hD1 hS1 => kk H1 locs1 arr cells slots hl (j_set (e' := .inl (tk, n, .inl (upd f i.toNatClampNeg x))) hL hD hw hz hP1 hD1) hS1 h1 h2)
theorem j_zast (hx : p.tables.exec = Jvm.exec) (hb : c.code = cc) (hZ : j_Z D tc s) {tk n a : Nat} {f : Nat → Int32} {i x : Int32} (htk : jTY[tk]? = some .boolean) (hw : w a = some (.inl (tk, n, .inl f))) (hin : vp_in i n) (hd : decode cc pc = .ok (.bastore, 1))
    (kk : j_A p l e R s m args below meth c Q D tc A MC MS (pc + 1) ls st (j_up w a (.inl (tk, n, .inl (upd f i.toNatClampNeg (vp_nar .boolean x))))) cb sb) : j_A p l e R s m args below meth c Q D tc A MC MS pc ls (.int x :: .int i :: .ref a :: st) w cb sb := by
  intro H locs arr cells slots hl hW hS h1 h2
  obtain ⟨L, hL, hP, hD⟩ := hW
  obtain ⟨z, hz⟩ := j_at (tc := tc) hL hw
  exact va_zast hx hb hZ.1 hP hD hS z tk hz (j_tys_at htk) hin hd (fun H1 locs1 hP1 hD1 hS1 => kk H1 locs1 arr cells slots hl (j_set (e' := .inl (tk, n, .inl (upd f i.toNatClampNeg (vp_nar .boolean x)))) hL hD hw hz hP1 hD1) hS1 h1 h2)
theorem j_last (hx : p.tables.exec = Jvm.exec) (hb : c.code = cc) (hZ : j_Z D tc s) {tk n a : Nat} {f : Nat → Int64} {i : Int32} {x : Int64} (htk : jTY[tk]? = some .long) (hw : w a = some (.inl (tk, n, .inr (.inl f)))) (hin : vp_in i n) (hd : decode cc pc = .ok (.lastore, 1))
    (kk : j_A p l e R s m args below meth c Q D tc A MC MS (pc + 1) ls st (j_up w a (.inl (tk, n, .inr (.inl (vp_updL f i.toNatClampNeg x))))) cb sb) : j_A p l e R s m args below meth c Q D tc A MC MS pc ls (.long x :: .int i :: .ref a :: st) w cb sb := by
  intro H locs arr cells slots hl hW hS h1 h2
  obtain ⟨L, hL, hP, hD⟩ := hW
  obtain ⟨z, hz⟩ := j_at (tc := tc) hL hw
  exact va_last hx hb hZ.1 hP hD hS z tk hz (j_tys_at htk) hin hd (fun H1 locs1 hP1 hD1 hS1 => kk H1 locs1 arr cells slots hl (j_set (e' := .inl (tk, n, .inr (.inl (vp_updL f i.toNatClampNeg x)))) hL hD hw hz hP1 hD1) hS1 h1 h2)
theorem j_aast (hx : p.tables.exec = Jvm.exec) (hb : c.code = cc) (hZ : j_Z D tc s) {tk n a v ci : Nat} {q : vw_C} {vs : List Value} {f : Nat → Option Nat} {i : Int32} (hc : jcl[ci]? = some q) (htk : jTY[tk]? = some (.object q.1)) (hw : w a = some (.inl (tk, n, .inr (.inr (.inr (.inr f)))))) (hv : w v = some (.inr (ci, vs))) (hin : vp_in i n) (hd : decode cc pc = .ok (.aastore, 1))
    (kk : j_A p l e R s m args below meth c Q D tc A MC MS (pc + 1) ls st (j_up w a (.inl (tk, n, .inr (.inr (.inr (.inr (va_up f i.toNatClampNeg (some v)))))))) cb sb) : j_A p l e R s m args below meth c Q D tc A MC MS pc ls (.ref v :: .int i :: .ref a :: st) w cb sb := by
  intro H locs arr cells slots hl hW hS h1 h2
  obtain ⟨L, hL, hP, hD⟩ := hW
  obtain ⟨z, hz⟩ := j_at (tc := tc) hL hw
  obtain ⟨zv, hzv⟩ := j_at (tc := tc) hL hv
  exact va_astq hx hb hZ.1 hP hD hS z tk zv ci hz (j_tys_at htk) hzv hc hin hd (fun H1 locs1 hP1 hD1 hS1 => kk H1 locs1 arr cells slots hl (j_set (e' := .inl (tk, n, .inr (.inr (.inr (.inr (va_up f i.toNatClampNeg (some v))))))) hL hD hw hz hP1 hD1) hS1 h1 h2)
theorem j_aastN (hx : p.tables.exec = Jvm.exec) (hb : c.code = cc) (hZ : j_Z D tc s) {tk n a : Nat} {C : String} {f : Nat → Option Nat} {i : Int32} (htk : jTY[tk]? = some (.object C)) (hw : w a = some (.inl (tk, n, .inr (.inr (.inr (.inr f)))))) (hin : vp_in i n) (hd : decode cc pc = .ok (.aastore, 1))
    (kk : j_A p l e R s m args below meth c Q D tc A MC MS (pc + 1) ls st (j_up w a (.inl (tk, n, .inr (.inr (.inr (.inr (va_up f i.toNatClampNeg none))))))) cb sb) : j_A p l e R s m args below meth c Q D tc A MC MS pc ls (.null :: .int i :: .ref a :: st) w cb sb := by
  intro H locs arr cells slots hl hW hS h1 h2
  obtain ⟨L, hL, hP, hD⟩ := hW
  obtain ⟨z, hz⟩ := j_at (tc := tc) hL hw
  exact va_astqN hx hb hZ.1 hP hD hS z tk hz (j_tys_at htk) hin hd (fun H1 locs1 hP1 hD1 hS1 => kk H1 locs1 arr cells slots hl (j_set (e' := .inl (tk, n, .inr (.inr (.inr (.inr (va_up f i.toNatClampNeg none)))))) hL hD hw hz hP1 hD1) hS1 h1 h2)
theorem j_objInit (hx : p.tables.exec = Jvm.exec) (hb : c.code = cc) (hml : c.maxLocals = ls.length) (hown : s.vm.findClass own = some m.cls) {idx a : Nat} (hlink : (Cond.methodLink own idx Lib.objectInit).before args s = true) (hinst : (Cond.instanceMethod Lib.objectInit).before args s = true) (hcode : (Cond.code Lib.objectInit ⟨#[0xb1]⟩ 1 none).before args s = true)
    (hfr : 1 ≤ R.frames) (hlo : (st.map fun v => v.category).sum + 12 ≤ R.locals) (hd : decode cc pc = .ok (.invokespecial idx, 3)) (kk : j_A p l e R s m args below meth c Q D tc A MC MS (pc + 3) ls st w cb sb) : j_A p l e R s m args below meth c Q D tc A MC MS pc ls (.ref a :: st) w cb sb := by
  intro H locs arr cells slots hl hW hS h1 h2
  exact W.objInit hx hb hown hlink hinst hcode rfl (by rw [hml]; exact hl.1) rfl hd hfr (by show 2 * 0 + _ + 12 ≤ _; omega) (kk H locs arr cells slots hl hW hS h1 h2)
theorem j_copyi (hx : p.tables.exec = Jvm.exec) (hb : c.code = cc) (hml : c.maxLocals = ls.length) (hown : s.vm.findClass own = some m.cls) (hZ : j_Z D tc s) {idx a0 a n0 n1 : Nat} {f g : Nat → Int32} {sp dp n : Int32} (hlink : (Cond.methodLink own idx arraycopyName).before args s = true) (hnat : (Cond.native arraycopyName).before args s = true) (hstat : (Cond.static arraycopyName).before args s = true) (hini : (Cond.initialized "java/lang/System").before args s = true) (htk : jTY[0]? = some .int)
    (hw0 : w a0 = some (.inl (0, n0, .inl f))) (hw1 : w a = some (.inl (0, n1, .inl g))) (h1 : ¬ sp < 0) (h2 : ¬ dp < 0) (h3 : ¬ n < 0) (h4 : sp.toNatClampNeg + n.toNatClampNeg ≤ n0) (h5 : dp.toNatClampNeg + n.toNatClampNeg ≤ n1) (hfr : 1 ≤ R.frames) (hlo : (st.map fun v => v.category).sum + 18 ≤ R.locals) (hd : decode cc pc = .ok (.invokestatic idx, 3))
    (kk : j_A p l e R s m args below meth c Q D tc A MC MS (pc + 3) ls st (j_up w a (.inl (0, n1, .inl (va_cpy f g sp.toNatClampNeg dp.toNatClampNeg n.toNatClampNeg)))) cb sb) : j_A p l e R s m args below meth c Q D tc A MC MS pc ls (.int n :: .int dp :: .ref a :: .int sp :: .ref a0 :: st) w cb sb := by
  intro H locs arr cells slots hl hW hS q1 q2
  obtain ⟨L, hL, hP, hD⟩ := hW
  obtain ⟨z0, hz0⟩ := j_at (tc := tc) hL hw0
  obtain ⟨z, hz⟩ := j_at (tc := tc) hL hw1
  exact va_copyi hx hb (by rw [hml]; exact hl.1.symm) hown hlink hnat hstat hini hZ.1 hP hD hS z0 z 0 0 hz0 hz (j_tys_at htk) (j_tys_at htk) rfl h1 h2 h3 h4 h5 (fun _ _ => rfl) hfr (by show _ + (7 + 11) ≤ _; omega) hd (fun H1 locs1 hP1 hD1 hS1 => kk H1 locs1 arr cells slots hl (j_set (e' := .inl (0, n1, .inl (va_cpy f g sp.toNatClampNeg dp.toNatClampNeg n.toNatClampNeg))) hL hD hw1 hz hP1 hD1) hS1 q1 q2)
theorem j_clone (hx : p.tables.exec = Jvm.exec) (hb : c.code = cc) (hml : c.maxLocals = ls.length) (hown : s.vm.findClass own = some m.cls) (hZ : j_Z D tc s) (hA : ∀ q, s.heap.size ≤ q → A q) (hMC : MC ≤ R.cells) (hMS : MS ≤ R.slots) {idx a n : Nat} {f : Nat → Int32}
    (hlink : (Cond.methodLink own idx ⟨"[I", "clone", "()Ljava/lang/Object;"⟩).before args s = true) (hsame : (Cond.sameMethod "[I" "java/lang/Object" "clone" "()Ljava/lang/Object;").before args s = true)
    (hnat : (Cond.native ⟨"java/lang/Object", "clone", "()Ljava/lang/Object;"⟩).before args s = true) (hinst : (Cond.instanceMethod ⟨"java/lang/Object", "clone", "()Ljava/lang/Object;"⟩).before args s = true)
    (hsel : (Cond.selects "[I" ⟨"[I", "clone", "()Ljava/lang/Object;"⟩ ⟨"java/lang/Object", "clone", "()Ljava/lang/Object;"⟩).before args s = true) (hcl : va_Nw (.castable "[I" "java/lang/Cloneable") s) (htk : jTY[0]? = some .int)
    (hw : w a = some (.inl (0, n, .inl f))) (hfr : 1 ≤ R.frames) (hlo : (st.map fun v => v.category).sum + 14 ≤ R.locals) (hd : decode cc pc = .ok (.invokevirtual idx, 3)) (hcb : 1 ≤ cb) (hsb : n ≤ sb)
    (kk : ∀ q, w q = none → j_A p l e R s m args below meth c Q D tc A MC MS (pc + 3) ls (.ref q :: st) (j_up w q (.inl (0, n, .inl f))) (cb - 1) (sb - n)) : j_A p l e R s m args below meth c Q D tc A MC MS pc ls (.ref a :: st) w cb sb := by
  intro H locs arr cells slots hl hW hS q1 q2
  obtain ⟨L, hL, hP, hD⟩ := hW
  obtain ⟨z, hz⟩ := j_at (tc := tc) hL hw
  have hnm : s.vm.findClass "[I" = some (tc 0) := (hZ.1.2 0 _ (j_tys_at htk)).2
  refine va_clone (x := (n, .inl f)) hx hb (by rw [hml]; exact hl.1.symm) hown hlink hsame hnat hinst hsel hcl hZ.1 hP hD hS hA z 0 hz (j_tys_at htk) hnm (fun i v hv => ?_) hfr hlo (by omega) (by show slots + n ≤ _; omega) hd (fun q H1 hK1 hP1 hD1 hS1 => ?_)
  · rw [vp_cell_i] at hv
    by_cases hi : i < n
    · rw [arrV_read _ _ hi] at hv
      cases hv
      rfl
    · rw [Array.getElem?_eq_none (by rw [arrV_size]; omega)] at hv
      cases hv
  · obtain ⟨hn, hW1⟩ := j_push (e := .inl (0, n, .inl f)) hL hP1 hD1
    exact kk q hn H1 locs arr (cells + 1) (slots + n) hl hW1 hS1 (by omega) (by omega)
theorem j_castA (hx : p.tables.exec = Jvm.exec) (hb : c.code = cc) (hown : s.vm.findClass own = some m.cls) (hZ : j_Z D tc s) {idx a : Nat} {y : vp_A} (hlink : (Cond.classLink own idx "[I").before args s = true) (htk : jTY[0]? = some .int) (hw : w a = some (.inl (0, y))) (hd : decode cc pc = .ok (.checkcast idx, 3))
    (kk : j_A p l e R s m args below meth c Q D tc A MC MS (pc + 3) ls (.ref a :: st) w cb sb) : j_A p l e R s m args below meth c Q D tc A MC MS pc ls (.ref a :: st) w cb sb := by
  intro H locs arr cells slots hl hW hS q1 q2
  have k1 := kk H locs arr cells slots hl hW hS q1 q2
  obtain ⟨L, hL, hP, hD⟩ := hW
  obtain ⟨z, hz⟩ := j_at (tc := tc) hL hw
  have hnm : s.vm.findClass "[I" = some (tc 0) := (hZ.1.2 0 _ (j_tys_at htk)).2
  exact va_castA hx hb hown hlink hP z hz hnm hd k1
end JH
