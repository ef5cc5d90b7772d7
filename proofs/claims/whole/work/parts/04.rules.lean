section JA
variable {p : Program} {l : Launch} {e : Env} {R : Room} {s : State} {m : MethodId} {args : Array Value} {below : List Frame} {meth : Method} {c : Code} {Q : State → Prop}
variable {D : va_G} {tc : Nat → ClassId} {A : Nat → Prop} {MC MS : Nat} {cc : ByteArray} {own : String}
/-- from this place of the code, with these locals, this stack, this world, and room for cb cells of sb slots, the machine comes to Q -/
def j_A (p : Program) (l : Launch) (e : Env) (R : Room) (s : State) (m : MethodId) (args : Array Value) (below : List Frame) (meth : Method) (c : Code) (Q : State → Prop) (D : va_G) (tc : Nat → ClassId) (A : Nat → Prop) (MC MS : Nat)
    (pc : Nat) (ls : jL) (st : List Value) (w : jW) (cb sb : Nat) : Prop :=
  ∀ (H : Heap) (locs : List Loc) (arr : Array Slot) (cells slots : Nat), j_has arr ls → j_Wd D tc A w H → va_S A s.heap H locs → cells + cb ≤ MC → slots + sb ≤ MS → W p l e R s m args below meth c H locs cells slots Q (F0 m pc arr st)
set_option maxHeartbeats 4000000 in
theorem j_pure_ok (hx : p.tables.exec = Jvm.exec) (hb : c.code = cc) {pc len : Nat} {i : Instr} {ls ls' : jL} {st st' : List Value} {w : jW} {cb sb : Nat} (hd : decode cc pc = .ok (i, len)) (h : j_pure i ls st = some (len, ls', st'))
    (k : j_A p l e R s m args below meth c Q D tc A MC MS (pc + len) ls' st' w cb sb) : j_A p l e R s m args below meth c Q D tc A MC MS pc ls st w cb sb := by
  intro H locs arr cells slots hl hw hS h1 h2
  have kk := fun (arr' : Array Slot) (hl' : j_has arr' ls') => k H locs arr' cells slots hl' hw hS h1 h2
  cases i
  case iconst n => cases h; exact lv_iconst hx hb hd rfl (kk _ hl)
  case bipush n => cases h; exact lv_bipush hx hb hd rfl (kk _ hl)
  case sipush n => cases h; exact lv_sipush hx hb hd rfl (kk _ hl)
  case lconst n => cases h; exact lv_lconst hx hb hd rfl (kk _ hl)
  case aconst_null => cases h; exact lv_null hx hb hd (kk _ hl)
  case iload_n n => simp only [j_pure] at h; split at h <;> cases h; rename_i hv; exact lv_iload_n hx hb hd rfl (hl.2.2 _ _ hv) (kk _ hl)
  case iload n => simp only [j_pure] at h; split at h <;> cases h; rename_i hv; exact lv_iload hx hb hd (hl.2.2 _ _ hv) (kk _ hl)
  case lload_n n => simp only [j_pure] at h; split at h <;> cases h; rename_i hv; exact lv_lload_n hx hb hd rfl (hl.2.2 _ _ hv) (kk _ hl)
  case lload n => simp only [j_pure] at h; split at h <;> cases h; rename_i hv; exact lv_lload hx hb hd (hl.2.2 _ _ hv) (kk _ hl)
  case aload_n n =>
    simp only [j_pure] at h
    split at h <;> cases h
    · rename_i hv; exact lv_aload_n hx hb hd rfl (hl.2.2 _ _ hv) (kk _ hl)
    · rename_i hv; exact lv_aload_nN hx hb hd rfl (hl.2.2 _ _ hv) (kk _ hl)
  case aload n =>
    simp only [j_pure] at h
    split at h <;> cases h
    · rename_i hv; exact lv_aload hx hb hd (hl.2.2 _ _ hv) (kk _ hl)
    · rename_i hv; exact lv_aloadN hx hb hd (hl.2.2 _ _ hv) (kk _ hl)
  case istore_n n =>
    simp only [j_pure] at h
    split at h <;> try cases h
    split at h <;> cases h
    rename_i ho
    exact lv_istore_n hx hb hd rfl hl.lv (by simp [j_ok1] at ho; exact ho.1) rfl (fun ls' h' => kk ls' (j_has.st1 ho h'))
  case istore n =>
    simp only [j_pure] at h
    split at h <;> try cases h
    split at h <;> cases h
    rename_i ho
    exact lv_istore hx hb hd hl.lv (by simp [j_ok1] at ho; exact ho.1) rfl (fun ls' h' => kk ls' (j_has.st1 ho h'))
  case astore_n n =>
    simp only [j_pure] at h
    split at h <;> try cases h
    · split at h <;> cases h
      rename_i ho
      exact lv_astore_n hx hb hd rfl hl.lv (by simp [j_ok1] at ho; exact ho.1) rfl (fun ls' h' => kk ls' (j_has.st1 ho h'))
    · split at h <;> cases h
      rename_i ho
      exact lv_astore_nN hx hb hd rfl hl.lv (by simp [j_ok1] at ho; exact ho.1) rfl (fun ls' h' => kk ls' (j_has.st1 ho h'))
  case astore n =>
    simp only [j_pure] at h
    split at h <;> try cases h
    · split at h <;> cases h
      rename_i ho
      exact lv_astore hx hb hd hl.lv (by simp [j_ok1] at ho; exact ho.1) rfl (fun ls' h' => kk ls' (j_has.st1 ho h'))
    · split at h <;> cases h
      rename_i ho
      exact lv_astoreN hx hb hd hl.lv (by simp [j_ok1] at ho; exact ho.1) rfl (fun ls' h' => kk ls' (j_has.st1 ho h'))
  case lstore_n n =>
    simp only [j_pure] at h
    split at h <;> try cases h
    split at h <;> cases h
    rename_i ho
    exact lv_lstore_n hx hb hd rfl hl.lv ho.2 rfl (fun ls' h' => kk ls' (j_has.st2 ho.1 ho.2 h'))
  case lstore n =>
    simp only [j_pure] at h
    split at h <;> try cases h
    split at h <;> cases h
    rename_i ho
    exact lv_lstore hx hb hd hl.lv ho.2 rfl (fun ls' h' => kk ls' (j_has.st2 ho.1 ho.2 h'))
  case iinc n z =>
    simp only [j_pure] at h
    split at h <;> try cases h
    rename_i x hv
    split at h <;> cases h
    rename_i ho
    obtain ⟨q, hq⟩ := List.getElem?_of_mem ((j_as_mem (q := (n, Value.int x))).mpr hv)
    exact lv_iinc hx hb hd hl.lv hq rfl (by simp [j_ok1] at ho; exact ho.1) rfl (fun ls' h' => kk ls' (j_has.st1 ho h'))
  case iadd => simp only [j_pure] at h; split at h <;> cases h; exact lv_iadd hx hb hd (kk _ hl)
  case isub => simp only [j_pure] at h; split at h <;> cases h; exact lv_isub hx hb hd (kk _ hl)
  case imul => simp only [j_pure] at h; split at h <;> cases h; exact lv_imul hx hb hd (kk _ hl)
  case iand => simp only [j_pure] at h; split at h <;> cases h; exact lv_iand hx hb hd (kk _ hl)
  case ior => simp only [j_pure] at h; split at h <;> cases h; exact lv_ior hx hb hd (kk _ hl)
  case ixor => simp only [j_pure] at h; split at h <;> cases h; exact lv_ixor hx hb hd (kk _ hl)
  case ishl => simp only [j_pure] at h; split at h <;> cases h; exact lv_ishl hx hb hd (kk _ hl)
  case ishr => simp only [j_pure] at h; split at h <;> cases h; exact lv_ishr hx hb hd (kk _ hl)
  case ineg => simp only [j_pure] at h; split at h <;> cases h; exact lv_ineg hx hb hd (kk _ hl)
  case i2l => simp only [j_pure] at h; split at h <;> cases h; exact lv_i2l hx hb hd rfl (kk _ hl)
  case l2i => simp only [j_pure] at h; split at h <;> cases h; exact lv_l2i hx hb hd rfl (kk _ hl)
  case ladd => simp only [j_pure] at h; split at h <;> cases h; exact lv_ladd hx hb hd (kk _ hl)
  case lsub => simp only [j_pure] at h; split at h <;> cases h; exact lv_lsub hx hb hd (kk _ hl)
  case land => simp only [j_pure] at h; split at h <;> cases h; exact lv_land hx hb hd (kk _ hl)
  case lor => simp only [j_pure] at h; split at h <;> cases h; exact lv_lor hx hb hd (kk _ hl)
  case lxor => simp only [j_pure] at h; split at h <;> cases h; exact lv_lxor hx hb hd (kk _ hl)
  case lshl => simp only [j_pure] at h; split at h <;> cases h; exact lv_lshl hx hb hd rfl (kk _ hl)
  case lshr => simp only [j_pure] at h; split at h <;> cases h; exact lv_lshr hx hb hd rfl (kk _ hl)
  case lushr => simp only [j_pure] at h; split at h <;> cases h; exact lv_lushr hx hb hd rfl (kk _ hl)
  case lcmp => simp only [j_pure] at h; split at h <;> cases h; exact W.lcmp hx hb hd (kk _ hl)
  case dup => simp only [j_pure] at h; split at h <;> try cases h
              split at h <;> cases h
              rename_i hv; exact lv_dup hx hb hd hv (kk _ hl)
  case pop => simp only [j_pure] at h; split at h <;> try cases h
              split at h <;> cases h
              rename_i hv; exact lv_pop hx hb hd hv (kk _ hl)
  case dup_x1 => simp only [j_pure] at h; split at h <;> try cases h
                 split at h <;> cases h
                 rename_i hv; exact lv_dup_x1 hx hb hd hv.1 hv.2 (kk _ hl)
  case dup_x2 => simp only [j_pure] at h; split at h <;> try cases h
                 split at h <;> cases h
                 rename_i hv; exact lv_dup_x2 hx hb hd hv.1 hv.2.1 hv.2.2 (kk _ hl)
  case dup2 => simp only [j_pure] at h; split at h <;> try cases h
               split at h <;> cases h
               rename_i hv; exact lv_dup2_11 hx hb hd hv.1 hv.2 (kk _ hl)
  all_goals (simp [j_pure] at h)
variable {pc : Nat} {ls : jL} {st : List Value} {w : jW} {cb sb : Nat}
theorem j_goto (hx : p.tables.exec = Jvm.exec) (hb : c.code = cc) {off : Int} (hd : decode cc pc = .ok (.goto off, 3)) (hf : j_fwd pc off = true) (k : j_A p l e R s m args below meth c Q D tc A MC MS (j_tg pc off) ls st w cb sb) : j_A p l e R s m args below meth c Q D tc A MC MS pc ls st w cb sb :=
  fun H locs arr cells slots hl hw hS h1 h2 => lv_goto hx hb hd (j_tg_eq hf) (k H locs arr cells slots hl hw hS h1 h2)
theorem j_if (hx : p.tables.exec = Jvm.exec) (hb : c.code = cc) {off : Int} {cd : ClassFile.Cond} {x : Int32} (hd : decode cc pc = .ok (.ifCond cd off, 3)) (hf : j_fwd pc off = true)
    (kt : j_cd cd x 0 → j_A p l e R s m args below meth c Q D tc A MC MS (j_tg pc off) ls st w cb sb) (kf : ¬ j_cd cd x 0 → j_A p l e R s m args below meth c Q D tc A MC MS (pc + 3) ls st w cb sb) : j_A p l e R s m args below meth c Q D tc A MC MS pc ls (.int x :: st) w cb sb := by
  intro H locs arr cells slots hl hw hS h1 h2
  have kt' := fun h => kt h H locs arr cells slots hl hw hS h1 h2
  have kf' := fun h => kf h H locs arr cells slots hl hw hS h1 h2
  cases cd
  · exact lv_if_eq hx hb hd (j_tg_eq hf) kt' kf'
  · exact lv_if_ne hx hb hd (j_tg_eq hf) kt' (fun h => kf' (fun q => q h))
  · exact lv_if_lt hx hb hd (j_tg_eq hf) kt' kf'
  · exact lv_if_ge hx hb hd (j_tg_eq hf) kt' kf'
  · exact lv_if_gt hx hb hd (j_tg_eq hf) kt' kf'
  · exact lv_if_le hx hb hd (j_tg_eq hf) kt' kf'
theorem j_icmp (hx : p.tables.exec = Jvm.exec) (hb : c.code = cc) {off : Int} {cd : ClassFile.Cond} {x y : Int32} (hd : decode cc pc = .ok (.if_icmp cd off, 3)) (hf : j_fwd pc off = true)
    (kt : j_cd cd x y → j_A p l e R s m args below meth c Q D tc A MC MS (j_tg pc off) ls st w cb sb) (kf : ¬ j_cd cd x y → j_A p l e R s m args below meth c Q D tc A MC MS (pc + 3) ls st w cb sb) : j_A p l e R s m args below meth c Q D tc A MC MS pc ls (.int y :: .int x :: st) w cb sb := by
  intro H locs arr cells slots hl hw hS h1 h2
  have kt' := fun h => kt h H locs arr cells slots hl hw hS h1 h2
  have kf' := fun h => kf h H locs arr cells slots hl hw hS h1 h2
  cases cd
  · exact lv_icmp_eq hx hb hd (j_tg_eq hf) kt' kf'
  · exact lv_icmp_ne hx hb hd (j_tg_eq hf) kt' (fun h => kf' (fun q => q h))
  · exact lv_icmp_lt hx hb hd (j_tg_eq hf) kt' kf'
  · exact lv_icmp_ge hx hb hd (j_tg_eq hf) kt' kf'
  · exact lv_icmp_gt hx hb hd (j_tg_eq hf) kt' kf'
  · exact lv_icmp_le hx hb hd (j_tg_eq hf) kt' kf'
theorem j_ifnullN (hx : p.tables.exec = Jvm.exec) (hb : c.code = cc) {off : Int} (hd : decode cc pc = .ok (.ifnull off, 3)) (hf : j_fwd pc off = true) (k : j_A p l e R s m args below meth c Q D tc A MC MS (j_tg pc off) ls st w cb sb) : j_A p l e R s m args below meth c Q D tc A MC MS pc ls (.null :: st) w cb sb :=
  fun H locs arr cells slots hl hw hS h1 h2 => lv_ifnullN hx hb hd (j_tg_eq hf) (k H locs arr cells slots hl hw hS h1 h2)
theorem j_ifnull (hx : p.tables.exec = Jvm.exec) (hb : c.code = cc) {off : Int} {a : Nat} (hd : decode cc pc = .ok (.ifnull off, 3)) (k : j_A p l e R s m args below meth c Q D tc A MC MS (pc + 3) ls st w cb sb) : j_A p l e R s m args below meth c Q D tc A MC MS pc ls (.ref a :: st) w cb sb :=
  fun H locs arr cells slots hl hw hS h1 h2 => lv_ifnull hx hb hd (k H locs arr cells slots hl hw hS h1 h2)
theorem j_ifnonnull (hx : p.tables.exec = Jvm.exec) (hb : c.code = cc) {off : Int} {a : Nat} (hd : decode cc pc = .ok (.ifnonnull off, 3)) (hf : j_fwd pc off = true) (k : j_A p l e R s m args below meth c Q D tc A MC MS (j_tg pc off) ls st w cb sb) : j_A p l e R s m args below meth c Q D tc A MC MS pc ls (.ref a :: st) w cb sb :=
  fun H locs arr cells slots hl hw hS h1 h2 => lv_ifnonnull hx hb hd (j_tg_eq hf) (k H locs arr cells slots hl hw hS h1 h2)
theorem j_ifnonnullN (hx : p.tables.exec = Jvm.exec) (hb : c.code = cc) {off : Int} (hd : decode cc pc = .ok (.ifnonnull off, 3)) (k : j_A p l e R s m args below meth c Q D tc A MC MS (pc + 3) ls st w cb sb) : j_A p l e R s m args below meth c Q D tc A MC MS pc ls (.null :: st) w cb sb :=
  fun H locs arr cells slots hl hw hS h1 h2 => lv_ifnonnullN hx hb hd (k H locs arr cells slots hl hw hS h1 h2)
theorem j_idiv (hx : p.tables.exec = Jvm.exec) (hb : c.code = cc) {x y : Int32} (hd : decode cc pc = .ok (.idiv, 1)) (hy : ¬ y = 0) (k : j_A p l e R s m args below meth c Q D tc A MC MS (pc + 1) ls (.int (x / y) :: st) w cb sb) : j_A p l e R s m args below meth c Q D tc A MC MS pc ls (.int y :: .int x :: st) w cb sb :=
  fun H locs arr cells slots hl hw hS h1 h2 => lv_idiv hx hb hd hy (k H locs arr cells slots hl hw hS h1 h2)
theorem j_irem (hx : p.tables.exec = Jvm.exec) (hb : c.code = cc) {x y : Int32} (hd : decode cc pc = .ok (.irem, 1)) (hy : ¬ y = 0) (k : j_A p l e R s m args below meth c Q D tc A MC MS (pc + 1) ls (.int (x - x / y * y) :: st) w cb sb) : j_A p l e R s m args below meth c Q D tc A MC MS pc ls (.int y :: .int x :: st) w cb sb :=
  fun H locs arr cells slots hl hw hS h1 h2 => lv_irem hx hb hd hy (k H locs arr cells slots hl hw hS h1 h2)
end JA
