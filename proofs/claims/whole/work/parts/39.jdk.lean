/-! methods of classes for which the machine has entries of its own, but none for the method -/
set_option maxHeartbeats 4000000 in
theorem j_sem_ofF {M : jMi} {av : List Value} {w : jW} {mc ms : Nat} {post : Option Value → jW → Prop} (hpl : plainFor (m_y M) = true) (hlen : (j_sl av).length ≤ m_n M) (h : j_S M post 0 (j_in av (m_n M)) [] w mc ms) : j_sem M av w mc ms post := by
  intro l D tc sz
  refine va_MetF (cc := m_b M) (maxL := m_n M) (ret := m_r M) hpl rfl ?_
  intro p e s m args below meth c s₁ B hml hv
  obtain ⟨rfl, hsz, hW, hZ⟩ := hv
  subst hsz
  have hx := B.exec
  have hb := B.bytes
  have hr := B.returns
  have hts := atoms_spec (ws := m_ws M) B.pre
  have hown : s.vm.findClass (m_y M).cls = some m.cls := findClass_of_methodNamed B.named
  have hlocks := B.notSynchronized
  have hnm : meth.name = (m_y M).name := (name_of_methodNamed B.named B.method).1
  rw [lg_entry_eq]
  refine h (by simp only [j_in, List.length_append, List.length_replicate]; omega) p l e _ s m _ below meth c _ D tc (j_fr w s.heap.size) mc ms ⟨hx, hb, hml, hown, fun w hw => hts w (List.mem_cons_of_mem _ hw), hZ, fun q h => Or.inr h, fun h => hnm.trans h, Nat.le_refl _, Nat.le_refl _, Nat.le_refl _, Nat.le_refl _⟩ ?_ s.heap [] _ 0 0 (j_entry hlen) (hW.weaken (fun q hq _ => Or.inl hq)) va_S.rf (by omega) (by omega)
  intro v w' H locs cells slots pc arr st hp hrv hW' hS h1 h2
  refine W.widen h1 h2 ?_
  have hq : ∀ t : State, t.heap = H → s.WarmedH t.vm → j_Q D tc post (j_fr w s.heap.size) av.toArray s (.returned v) t := fun t ht _ => ⟨⟨v, w', rfl, hp, by rw [ht]; exact hW'⟩, hS.F ht⟩
  rcases hrv with ⟨rfl, rfl, h3, h4⟩ | ⟨a, ty, rfl, rfl, h3, h5, h4⟩ | ⟨a, rfl, rfl, h3, h4⟩ | ⟨u, t, h5, rfl, rfl, h3, h6, h4⟩
  · exact W.vret hx hb (hr.trans h3) hq hS.2.2 h4
  · exact W.zret hx hb (hr.trans h3) h5 hq hS.2.2 h4
  · exact W.lret hx hb (hr.trans h3) hq hS.2.2 h4
  · exact W.aret hx hb (hr.trans h3) h6 h5 hq hS.2.2 h4
