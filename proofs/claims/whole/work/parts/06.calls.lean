/-! METHODS: name, bytes, locals, answer's type, frames and words that its calls need, its instructions (place, instruction, length, what its numbers name) -/
abbrev m_y (M : jMi) : MethodName := M.1
abbrev m_b (M : jMi) : ByteArray := M.2.1
abbrev m_n (M : jMi) : Nat := M.2.2.1
abbrev m_r (M : jMi) : Option FieldType := M.2.2.2.1
abbrev m_f (M : jMi) : Nat := M.2.2.2.2.1
abbrev m_l (M : jMi) : Nat := M.2.2.2.2.2.1
abbrev m_T (M : jMi) : List (Nat × jI) := M.2.2.2.2.2.2
def m_ws (M : jMi) : List Cond := .code (m_y M) (m_b M) (m_n M) (m_r M) :: jTS
def m_rm (M : jMi) (mc ms : Nat) : Room := { frames := m_f M, cells := mc, slots := ms, locals := m_l M }
/-- the cells of a world, and those that come -/
def j_fr (w : jW) (sz : Nat) : Nat → Prop := fun q => w q ≠ none ∨ sz ≤ q
def j_Q (D : va_G) (tc : Nat → ClassId) (post : Option Value → jW → Prop) (A : Nat → Prop) : Array Value → State → Outcome → State → Prop := fun _ st oc t => (∃ (v : Option Value) (w' : jW), oc = .returned v ∧ post v w' ∧ j_Wd D tc A w' t.heap) ∧ va_F A st t
def j_B (D : va_G) (tc : Nat → ClassId) (w : jW) (sz : Nat) (U : State) : Prop := U.heap.size = sz ∧ j_Wd D tc (fun _ => True) w U.heap ∧ j_Z D tc U
/-- WHAT A METHOD DOES: from every state that holds the world w, with these arguments, it returns, with an answer and a world that post allows; it makes at most mc cells of ms slots; nothing but its world is written -/
def j_sem (M : jMi) (av : List Value) (w : jW) (mc ms : Nat) (post : Option Value → jW → Prop) : Prop :=
  ∀ (l : Launch) (D : va_G) (tc : Nat → ClassId) (sz : Nat), Met l (m_y M) (m_ws M) (m_rm M mc ms) (va_Pc av (j_B D tc w sz)) (j_Q D tc post (j_fr w sz)) mc ms (j_fr w sz)
theorem j_blind {D : va_G} {tc : Nat → ClassId} {w : jW} {sz : Nat} {av : List Value} : FrameBlind (va_Pc av (j_B D tc w sz)) := fun _ _ _ _ q => ⟨q.1, q.2.1, q.2.2.1, q.2.2.2.calling⟩
theorem j_pre {D : va_G} {tc : Nat → ClassId} {A : Nat → Prop} {w : jW} {H : Heap} {s U : State} {av : List Value} (hW : j_Wd D tc A w H) (hZ : j_Z D tc s) (hU : U.heap = H) (hw : s.WarmedH U.vm) : va_Pc av (j_B D tc w H.size) av.toArray U := ⟨rfl, by rw [hU], by rw [hU]; exact hW.weaken (fun _ _ _ => trivial), hZ.moved hw⟩
/-- the words are the same for every method -/
theorem j_good {M : jMi} (hcode : Cond.code (m_y M) (m_b M) (m_n M) (m_r M) ∈ jTS) (hg : ∀ w ∈ jTS, (w.onTables && w.keeps) = true ∨ ∃ ty, w = .arrayClass ty) : GoodIn jTS (m_ws M) := by
  intro w hw
  rcases List.mem_cons.mp hw with h | h
  · rw [h]; exact ⟨hcode, hg _ hcode⟩
  · exact ⟨h, hg _ h⟩
section JC
variable {p : Program} {l : Launch} {e : Env} {R : Room} {s : State} {m : MethodId} {args : Array Value} {below : List Frame} {meth : Method} {c : Code} {Q : State → Prop}
variable {D : va_G} {tc : Nat → ClassId} {A : Nat → Prop} {MC MS : Nat} {cc : ByteArray} {own : String}
variable {pc : Nat} {ls : jL} {st : List Value} {w : jW} {cb sb : Nat}
theorem j_back {H : Heap} {locs : List Loc} {arr : Array Slot} {cells slots mc ms : Nat} {st0 rest : List Value} {a : Array Value} {post : Option Value → jW → Prop} (hr : va_Run p l e R s m args below meth c H locs cells slots mc ms (F0 m pc arr st0) rest (j_Q D tc post (j_fr w H.size) a) (j_fr w H.size))
    (hl : j_has arr ls) (hW : j_Wd D tc A w H) (hS : va_S A s.heap H locs) (hA : ∀ q, s.heap.size ≤ q → A q) (h1 : cells + cb ≤ MC) (h2 : slots + sb ≤ MS) (hcb : mc ≤ cb) (hsb : ms ≤ sb)
    (kk : ∀ v w', post v w' → j_A p l e R s m args below meth c Q D tc A MC MS (pc + 3) ls (v.toList ++ rest) w' (cb - mc) (sb - ms)) : W p l e R s m args below meth c H locs cells slots Q (F0 m pc arr st0) := by
  intro T hT X
  obtain ⟨v, st₀, t, T', L, h0, X', hL, e1, e2, ⟨⟨v', w', hv, hp, hW'⟩, hz, hk⟩, st⟩ := hr T hT X
  cases hv
  rw [h0] at hz hk
  have hin : ∀ q, j_fr w H.size q → A q := fun q h => h.elim (fun h => hW.in h) (fun h => hA q (Nat.le_trans hS.1 h))
  have hS' : va_S A s.heap T'.heap (locs ++ L) := ⟨Nat.le_trans hS.1 (by rw [e1]; exact hz), fun q q1 q2 => by rw [e1, hk q (Nat.lt_of_lt_of_le q1 hS.1) (fun z => q2 (hin q z))]; exact hS.2.1 q q1 q2, fun q hq => by
      rcases List.mem_append.mp hq with h | h
      · exact hS.2.2 q h
      · exact hin _ (hL q h)⟩
  obtain ⟨t2, a1, b1⟩ := kk v w' hp T'.heap (locs ++ L) arr (cells + mc) (slots + ms) hl (by rw [e1]; exact hW'.weaken (fun q _ h => hin q h)) hS' (by omega) (by omega) T' rfl X'
  exact ⟨t2, st t2 a1, b1⟩
/-- what a caller must know of a method that it calls: n arguments behind the receiver -/
def j_okM (M : jMi) (n : Nat) : Prop := Cond.code (m_y M) (m_b M) (m_n M) (m_r M) ∈ jTS ∧ Cond.initialized (m_y M).cls ∈ jTS ∧ ((m_y M).cls ≠ "java/lang/invoke/MethodHandle" ∧ (m_y M).cls ≠ "java/lang/invoke/VarHandle" ∧ (parseMethodDescriptor (m_y M).desc).map (fun d => d.parameters.length) = some n)
def j_ml (own : String) (idx : Nat) (y : MethodName) (args : Array Value) (s : State) : Prop := (Cond.methodLink own idx y).before args s = true ∨ ∃ host, va_Nw (.methodLinkNest own idx y host) s
theorem j_callS (hx : p.tables.exec = Jvm.exec) (hb : c.code = cc) (hml : c.maxLocals = ls.length) (hts : ∀ w ∈ jTS, w.before args s = true) (hg : ∀ w ∈ jTS, (w.onTables && w.keeps) = true ∨ ∃ ty, w = .arrayClass ty) (hown : s.vm.findClass own = some m.cls) (hZ : j_Z D tc s) (hA : ∀ q, s.heap.size ≤ q → A q) (hMC : MC ≤ R.cells) (hMS : MS ≤ R.slots)
    {M : jMi} {n idx mc ms : Nat} {As rest : List Value} {post : Option Value → jW → Prop} (hM : j_okM M n) (hst : Cond.static (m_y M) ∈ jTS) (hlink : j_ml own idx (m_y M) args s) (hR : m_f M + 1 ≤ R.frames ∧ 8 + (m_n M + 11) + m_l M ≤ R.locals) (hn : As.length = n) (h8 : (rest.map fun v => v.category).sum ≤ 8) (hs : st = As.reverse ++ rest)
    (hd : decode cc pc = .ok (.invokestatic idx, 3)) (hsem : j_sem M As w mc ms post) (hcb : mc ≤ cb) (hsb : ms ≤ sb) (kk : ∀ v w', post v w' → j_A p l e R s m args below meth c Q D tc A MC MS (pc + 3) ls (v.toList ++ rest) w' (cb - mc) (sb - ms)) : j_A p l e R s m args below meth c Q D tc A MC MS pc ls st w cb sb := by
  intro H locs arr cells slots hl hW hS h1 h2
  have hf : cells + mc ≤ R.cells ∧ slots + ms ≤ R.slots := ⟨by omega, by omega⟩
  have hp : PreS s H (va_Pc As (j_B D tc w H.size)) As := ⟨j_blind, fun U hU hw => j_pre hW hZ hU hw⟩
  have hG := j_good hM.1 hg
  rcases hlink with h | ⟨host, h⟩
  · exact j_back (a := As.toArray) (post := post) (va_runS ⟨hx, hb, hml, hown, hts⟩ (hsem l D tc H.size) ⟨callB_of n hts hG rfl rfl rfl (hts _ hM.2.1) h hM.2.2 hR, hts _ hst⟩ hp rfl hn hl.1 hs (lv_room h8) hd hf) hl hW hS hA h1 h2 hcb hsb kk
  · exact j_back (a := As.toArray) (post := post) (va_runSN ⟨hx, hb, hml, hown, hts⟩ (hsem l D tc H.size) ⟨va_cnB n hts hG rfl rfl rfl h (hts _ hM.2.1) hM.2.2 hR, hts _ hst, trivial⟩ hp rfl hn hl.1 hs (lv_room h8) hd hf) hl hW hS hA h1 h2 hcb hsb kk
theorem j_recv {H : Heap} {q : vw_C} {ci b : Nat} {fs : List Value} (hZ : j_Z D tc s) (hW : j_Wd D tc A w H) (hc : jcl[ci]? = some q) (hb : w b = some (.inr (ci, fs))) : ∃ cell : Cell, H[b]? = some cell ∧ cell.vm.isStatics = false ∧ s.vm.findClass q.1 = some cell.cls := by
  obtain ⟨L, hL, hP, hD⟩ := hW
  obtain ⟨z, hz⟩ := j_at (tc := tc) hL hb
  exact va_recv hZ.1 hP hc hz
theorem j_callV (hx : p.tables.exec = Jvm.exec) (hb : c.code = cc) (hml : c.maxLocals = ls.length) (hts : ∀ w ∈ jTS, w.before args s = true) (hg : ∀ w ∈ jTS, (w.onTables && w.keeps) = true ∨ ∃ ty, w = .arrayClass ty) (hown : s.vm.findClass own = some m.cls) (hZ : j_Z D tc s) (hA : ∀ q, s.heap.size ≤ q → A q) (hMC : MC ≤ R.cells) (hMS : MS ≤ R.slots)
    {M : jMi} {n idx mc ms ci b : Nat} {q : vw_C} {fs : List Value} {As rest : List Value} {post : Option Value → jW → Prop} (hM : j_okM M n) (hin : Cond.instanceMethod (m_y M) ∈ jTS) (hse : Cond.selects q.1 (m_y M) (m_y M) ∈ jTS) (hlink : j_ml own idx (m_y M) args s) (hR : m_f M + 1 ≤ R.frames ∧ 8 + (m_n M + 11) + m_l M ≤ R.locals) (hn : As.length = n) (h8 : (rest.map fun v => v.category).sum ≤ 8) (hs : st = As.reverse ++ .ref b :: rest)
    (hc : jcl[ci]? = some q) (hrb : w b = some (.inr (ci, fs))) (hd : decode cc pc = .ok (.invokevirtual idx, 3)) (hsem : j_sem M (.ref b :: As) w mc ms post) (hcb : mc ≤ cb) (hsb : ms ≤ sb) (kk : ∀ v w', post v w' → j_A p l e R s m args below meth c Q D tc A MC MS (pc + 3) ls (v.toList ++ rest) w' (cb - mc) (sb - ms)) : j_A p l e R s m args below meth c Q D tc A MC MS pc ls st w cb sb := by
  intro H locs arr cells slots hl hW hS h1 h2
  have hf : cells + mc ≤ R.cells ∧ slots + ms ≤ R.slots := ⟨by omega, by omega⟩
  have hp : PreV s H q.1 b (va_Pc (.ref b :: As) (j_B D tc w H.size)) As := ⟨j_blind, j_recv hZ hW hc hrb, fun U hU hw => j_pre hW hZ hU hw⟩
  have hG := j_good hM.1 hg
  rcases hlink with h | ⟨host, h⟩
  · exact j_back (a := (Value.ref b :: As).toArray) (post := post) (va_runV ⟨hx, hb, hml, hown, hts⟩ (hsem l D tc H.size) ⟨callB_of n hts hG rfl rfl rfl (hts _ hM.2.1) h hM.2.2 hR, hts _ hin, hts _ hse⟩ hp rfl hn hl.1 hs (lv_room h8) hd hf) hl hW hS hA h1 h2 hcb hsb kk
  · exact j_back (a := (Value.ref b :: As).toArray) (post := post) (va_runVN ⟨hx, hb, hml, hown, hts⟩ (hsem l D tc H.size) ⟨va_cnB n hts hG rfl rfl rfl h (hts _ hM.2.1) hM.2.2 hR, hts _ hin, hts _ hse⟩ hp rfl hn hl.1 hs (lv_room h8) hd hf) hl hW hS hA h1 h2 hcb hsb kk
theorem j_callI (hx : p.tables.exec = Jvm.exec) (hb : c.code = cc) (hml : c.maxLocals = ls.length) (hts : ∀ w ∈ jTS, w.before args s = true) (hg : ∀ w ∈ jTS, (w.onTables && w.keeps) = true ∨ ∃ ty, w = .arrayClass ty) (hown : s.vm.findClass own = some m.cls) (hZ : j_Z D tc s) (hA : ∀ q, s.heap.size ≤ q → A q) (hMC : MC ≤ R.cells) (hMS : MS ≤ R.slots)
    {M : jMi} {n idx mc ms b : Nat} {As rest : List Value} {post : Option Value → jW → Prop} (hM : j_okM M n) (hin : Cond.instanceMethod (m_y M) ∈ jTS) (hy : (m_y M).name = "<init>") (hrn : m_r M = none) (hlink : j_ml own idx (m_y M) args s) (hR : m_f M + 1 ≤ R.frames ∧ 8 + (m_n M + 11) + m_l M ≤ R.locals) (hn : As.length = n) (h8 : (rest.map fun v => v.category).sum ≤ 8) (hs : st = As.reverse ++ .ref b :: rest)
    (hd : decode cc pc = .ok (.invokespecial idx, 3)) (hsem : j_sem M (.ref b :: As) w mc ms post) (hcb : mc ≤ cb) (hsb : ms ≤ sb) (kk : ∀ v w', post v w' → j_A p l e R s m args below meth c Q D tc A MC MS (pc + 3) ls (v.toList ++ rest) w' (cb - mc) (sb - ms)) : j_A p l e R s m args below meth c Q D tc A MC MS pc ls st w cb sb := by
  intro H locs arr cells slots hl hW hS h1 h2
  have hf : cells + mc ≤ R.cells ∧ slots + ms ≤ R.slots := ⟨by omega, by omega⟩
  have hp : PreS s H (va_Pc (.ref b :: As) (j_B D tc w H.size)) (.ref b :: As) := ⟨j_blind, fun U hU hw => j_pre hW hZ hU hw⟩
  have hG := j_good hM.1 hg
  have hw0 : m_ws M = Cond.code (m_y M) (m_b M) (m_n M) none :: jTS := by unfold m_ws; rw [hrn]
  rcases hlink with h | ⟨host, h⟩
  · exact j_back (a := (Value.ref b :: As).toArray) (post := post) (va_runI ⟨hx, hb, hml, hown, hts⟩ (hsem l D tc H.size) ⟨callB_of n hts hG hw0 rfl rfl (hts _ hM.2.1) h hM.2.2 hR, hy, hts _ hin⟩ hp rfl hn hl.1 hs (lv_room h8) hd hf) hl hW hS hA h1 h2 hcb hsb kk
  · exact j_back (a := (Value.ref b :: As).toArray) (post := post) (va_runIN ⟨hx, hb, hml, hown, hts⟩ (hsem l D tc H.size) ⟨va_cnB n hts hG hw0 rfl rfl h (hts _ hM.2.1) hM.2.2 hR, hy, hts _ hin⟩ hp rfl hn hl.1 hs (lv_room h8) hd hf) hl hW hS hA h1 h2 hcb hsb kk
end JC
