theorem j_Q_mono {D : va_G} {tc : Nat → ClassId} {post post' : Option Value → jW → Prop} {A : Nat → Prop} {a : Array Value} {st t : State} {oc : Outcome} (h : ∀ v w', post v w' → post' v w') (q : j_Q D tc post A a st oc t) : j_Q D tc post' A a st oc t := by
  obtain ⟨⟨v, w', h1, h2, h3⟩, h4⟩ := q
  exact ⟨⟨v, w', h1, h v w' h2, h3⟩, h4⟩
theorem j_sem_mono {M : jMi} {av : List Value} {w : jW} {mc ms : Nat} {post post' : Option Value → jW → Prop} (h : ∀ v w', post v w' → post' v w') (k : j_sem M av w mc ms post) : j_sem M av w mc ms post' := by
  intro l D tc sz p e h1 h2 h3 s m args below hf happ hP hK
  obtain ⟨n, o, g1, g2, g3, g4, L, g5, g6⟩ := k l D tc sz p e h1 h2 h3 s m args below hf happ hP hK
  exact ⟨n, o, g1, g2, g3, j_Q_mono h g4, L, g5, g6⟩
set_option maxHeartbeats 4000000 in
theorem j_sem_of {M : jMi} {av : List Value} {w : jW} {mc ms : Nat} {post : Option Value → jW → Prop} (hpl : plainName (m_y M).cls = true) (hlen : (j_sl av).length ≤ m_n M) (h : j_S M post 0 (j_in av (m_n M)) [] w mc ms) : j_sem M av w mc ms post := by
  intro l D tc sz
  refine Met.ofW (cc := m_b M) (maxL := m_n M) (ret := m_r M) hpl rfl ?_
  intro p e s m args below meth c s₁ B hml hv
  obtain ⟨rfl, hsz, hW, hZ⟩ := hv
  subst hsz
  have hx := B.exec
  have hb := B.bytes
  have hr := B.returns
  have hts := atoms_spec (ws := m_ws M) B.pre
  have hown : s.vm.findClass (m_y M).cls = some m.cls := findClass_of_methodNamed B.named
  have hlocks := B.notSynchronized
  have hnm : meth.name = (m_y M).name := (name_of_methodNamed B.named B.method).1
  rw [lg_entry_eq]
  refine h (by simp only [j_in, List.length_append, List.length_replicate]; omega) p l e _ s m _ below meth c _ D tc (j_fr w s.heap.size) mc ms ⟨hx, hb, hml, hown, fun w hw => hts w (List.mem_cons_of_mem _ hw), hZ, fun q h => Or.inr h, fun h => hnm.trans h, Nat.le_refl _, Nat.le_refl _, Nat.le_refl _, Nat.le_refl _⟩ ?_ s.heap [] _ 0 0 (j_entry hlen) (hW.weaken (fun q hq _ => Or.inl hq)) va_S.rf (by omega) (by omega)
  intro v w' H locs cells slots pc arr st hp hrv hW' hS h1 h2
  refine W.widen h1 h2 ?_
  have hq : ∀ t : State, t.heap = H → s.WarmedH t.vm → j_Q D tc post (j_fr w s.heap.size) av.toArray s (.returned v) t := fun t ht _ => ⟨⟨v, w', rfl, hp, by rw [ht]; exact hW'⟩, hS.F ht⟩
  rcases hrv with ⟨rfl, rfl, h3, h4⟩ | ⟨a, ty, rfl, rfl, h3, h5, h4⟩ | ⟨a, rfl, rfl, h3, h4⟩ | ⟨u, t, h5, rfl, rfl, h3, h6, h4⟩
  · exact W.vret hx hb (hr.trans h3) hq hS.2.2 h4
  · exact W.zret hx hb (hr.trans h3) h5 hq hS.2.2 h4
  · exact W.lret hx hb (hr.trans h3) hq hS.2.2 h4
  · exact W.aret hx hb (hr.trans h3) h6 h5 hq hS.2.2 h4
/-- a part w1 of a world w; the rest of w stays -/
def j_mix (w w1 w1' : jW) : jW := fun a => if w1 a = none ∧ w a ≠ none then w a else w1' a
theorem j_Wd.sub {D : va_G} {tc : Nat → ClassId} {A : Nat → Prop} {w w1 : jW} {H : Heap} (h : j_Wd D tc A w H) (hs : ∀ a, w1 a ≠ none → w1 a = w a) : j_Wd D tc A w1 H := by
  obtain ⟨L, hL, hP, hD⟩ := h
  have hk : ∀ (k : Nat) (q : Nat × va_E), (j_pl tc (L.filter (fun a => (w1 a).isSome)) w1)[k]? = some q → ∃ i : Nat, (j_pl tc L w)[i]? = some q := by
    intro k q hk
    obtain ⟨a, ha1, ha2⟩ := List.mem_map.mp (List.mem_of_getElem? hk)
    obtain ⟨hm, hs1⟩ := List.mem_filter.mp ha1
    have hn : w1 a ≠ none := by
      intro hn
      rw [hn] at hs1
      cases hs1
    have ha2 : (a, j_emb tc (w1 a)) = q := ha2
    rw [hs a hn] at ha2
    exact List.getElem?_of_mem (List.mem_map.mpr ⟨a, hm, ha2⟩)
  have hnd : L.Pairwise (· ≠ ·) := by
    rw [List.pairwise_iff_getElem]
    intro i j hi0 hj0 hij hee
    have hi : (j_pl tc L w)[i]? = some (L[i], j_emb tc (w L[i])) := by
      unfold j_pl va_pl
      rw [List.getElem?_map, List.getElem?_eq_getElem hi0]
      rfl
    have hj : (j_pl tc L w)[j]? = some (L[j], j_emb tc (w L[j])) := by
      unfold j_pl va_pl
      rw [List.getElem?_map, List.getElem?_eq_getElem hj0]
      rfl
    have := hD.1 i j _ _ hi hj hee
    omega
  have hnd' : (L.filter (fun a => (w1 a).isSome)).Pairwise (· ≠ ·) := hnd.filter _
  refine ⟨L.filter (fun a => (w1 a).isSome), fun a => ?_, fun k q hq => ?_, ⟨fun i j x y hx hy hxy => ?_, fun k q hq => ?_⟩⟩
  · rw [List.mem_filter]
    constructor
    · rintro ⟨-, h2⟩ hn
      rw [hn] at h2
      cases h2
    · intro hn
      refine ⟨(hL a).mpr (by rw [← hs a hn]; exact hn), ?_⟩
      exact Option.isSome_iff_ne_none.mpr hn
  · obtain ⟨i, hi⟩ := hk k q hq
    exact hP i q hi
  · have gx : (L.filter (fun a => (w1 a).isSome))[i]? = some x.1 := by
      unfold j_pl va_pl at hx
      rw [List.getElem?_map] at hx
      cases hz : (L.filter (fun a => (w1 a).isSome))[i]? with
      | none => rw [hz] at hx; cases hx
      | some b => rw [hz] at hx; cases hx; rfl
    have gy : (L.filter (fun a => (w1 a).isSome))[j]? = some y.1 := by
      unfold j_pl va_pl at hy
      rw [List.getElem?_map] at hy
      cases hz : (L.filter (fun a => (w1 a).isSome))[j]? with
      | none => rw [hz] at hy; cases hy
      | some b => rw [hz] at hy; cases hy; rfl
    rw [hxy] at gx
    obtain ⟨hi, ei⟩ := List.getElem?_eq_some_iff.mp gx
    obtain ⟨hj, ej⟩ := List.getElem?_eq_some_iff.mp gy
    rcases Nat.lt_trichotomy i j with h | h | h
    · exact absurd (ei.trans ej.symm) (List.pairwise_iff_getElem.mp hnd' i j hi hj h)
    · exact h
    · exact absurd (ej.trans ei.symm) (List.pairwise_iff_getElem.mp hnd' j i hj hi h)
  · obtain ⟨i, hi⟩ := hk k q hq
    exact hD.2 i q hi
theorem j_Wd.join {D : va_G} {tc : Nat → ClassId} {A B : Nat → Prop} {wa wb : jW} {H : Heap} (h1 : j_Wd D tc A wa H) (h2 : j_Wd D tc B wb H) (hd : ∀ a, wa a ≠ none → wb a = none) : j_Wd D tc (fun q => A q ∨ B q) (fun a => if wa a ≠ none then wa a else wb a) H := by
  obtain ⟨La, hLa, hPa, hDa⟩ := h1
  obtain ⟨Lb, hLb, hPb, hDb⟩ := h2
  have e : j_pl tc (La ++ Lb) (fun a => if wa a ≠ none then wa a else wb a) = j_pl tc La wa ++ j_pl tc Lb wb := by
    unfold j_pl va_pl
    rw [List.map_append]
    congr 1
    · apply List.map_congr_left
      intro a ha
      dsimp only
      rw [if_pos ((hLa a).mp ha)]
    · apply List.map_congr_left
      intro a ha
      dsimp only
      rw [if_neg]
      intro hn
      exact (hLb a).mp ha (hd a hn)
  refine ⟨La ++ Lb, fun a => ?_, ?_, ?_⟩
  · rw [List.mem_append, hLa a, hLb a]
    by_cases hn : wa a = none
    · simp [hn]
    · simp [hn]
  · rw [e]
    exact va_P.app hPa hPb
  · rw [e]
    refine va_D.app (hDa.weaken (fun _ _ _ h => Or.inl h)) (hDb.weaken (fun _ _ _ h => Or.inr h)) (fun i j x y hx hy hxy => ?_)
    obtain ⟨a, ha1, ha2⟩ := List.mem_map.mp (List.mem_of_getElem? hx)
    obtain ⟨b, hb1, hb2⟩ := List.mem_map.mp (List.mem_of_getElem? hy)
    have hab : a = b := by
      have e1 : x.1 = a := by rw [← ha2]
      have e2 : y.1 = b := by rw [← hb2]
      rw [← e1, ← e2]
      exact hxy
    subst hab
    exact (hLb a).mp hb1 (hd a ((hLa a).mp ha1))
theorem j_Wd.kept {D : va_G} {tc : Nat → ClassId} {A : Nat → Prop} {w : jW} {H H1 : Heap} (h : j_Wd D tc A w H) (hk : ∀ a, w a ≠ none → H1[a]? = H[a]?) : j_Wd D tc A w H1 := by
  obtain ⟨L, hL, hP, hD⟩ := h
  refine ⟨L, hL, hP.kept fun k q hq => ?_, hD⟩
  obtain ⟨a, ha1, ha2⟩ := List.mem_map.mp (List.mem_of_getElem? hq)
  rw [← ha2]
  exact hk a ((hL a).mp ha1)
theorem j_Wd.congr {D : va_G} {tc : Nat → ClassId} {A B : Nat → Prop} {w w' : jW} {H : Heap} (h : j_Wd D tc A w H) (hw : ∀ a, w a = w' a) (hA : ∀ q, A q → B q) : j_Wd D tc B w' H := by
  have : w = w' := funext hw
  subst this
  exact h.weaken (fun q _ => hA q)
/-- THE FRAME: a method that needs w1 alone runs in every larger world, and leaves the rest as it is -/
theorem j_frame {M : jMi} {av : List Value} {w w1 : jW} {mc ms : Nat} {post : Option Value → jW → Prop} (hs : ∀ a, w1 a ≠ none → w1 a = w a) (k : j_sem M av w1 mc ms post) :
    j_sem M av w mc ms (fun v w' => ∃ w1', post v w1' ∧ (∀ a, w1 a = none → w a ≠ none → w1' a = none) ∧ w' = j_mix w w1 w1') := by
  intro l D tc sz p e h1 h2 h3 s m args below hf happ hP hK
  obtain ⟨rfl, hsz, hW, hZ⟩ := hP
  obtain ⟨n, o, g1, g2, g3, ⟨⟨v, w1', rfl, hp, hW1⟩, hz, hk⟩, L, g5, g6⟩ := k l D tc sz p e h1 h2 h3 s m _ below hf happ ⟨rfl, hsz, hW.sub hs, hZ⟩ hK
  have hsub : ∀ q, j_fr w1 sz q → j_fr w sz q := fun q h => h.elim (fun h => Or.inl (by rw [← hs q h]; exact h)) Or.inr
  have hdis : ∀ a, w1 a = none → w a ≠ none → w1' a = none := by
    intro a h4 h5
    cases hc : w1' a with
    | none => rfl
    | some x =>
      have := hW1.in (q := a) (by rw [hc]; simp)
      rcases this with h6 | h6
      · exact absurd h4 h6
      · have := hW.lt h5
        omega
  refine ⟨n, .returned v, g1, g2, g3, ⟨⟨v, j_mix w w1 w1', rfl, ⟨w1', hp, hdis, rfl⟩, ?_⟩, hz, fun q q1 q2 => hk q q1 (fun h => q2 (hsub q h))⟩, L, g5, fun q hq => hsub _ (g6 q hq)⟩
  have hrest : j_Wd D tc (fun q => w q ≠ none) (fun a => if w1 a = none then w a else none) (stepsAlone p.tables e n s).heap := by
    have r0 : j_Wd D tc (fun _ => True) (fun a => if w1 a = none then w a else none) s.heap := hW.sub (fun a h => by
      show (if w1 a = none then w a else none) = w a
      by_cases hn : w1 a = none
      · rw [if_pos hn]
      · exfalso
        apply h
        show (if w1 a = none then w a else none) = none
        rw [if_neg hn])
    have r1 := r0.kept (H1 := (stepsAlone p.tables e n s).heap) (fun a h => by
      have h' : ¬ (if w1 a = none then w a else none) = none := h
      by_cases hn : w1 a = none
      · rw [if_pos hn] at h'
        refine hk a (hW.lt h') (fun q => ?_)
        rcases q with q | q
        · exact q hn
        · have := hW.lt h'
          omega
      · rw [if_neg hn] at h'
        exact absurd rfl h')
    refine r1.weaken (fun q h _ => ?_)
    have h' : ¬ (if w1 q = none then w q else none) = none := h
    by_cases hn : w1 q = none
    · rw [if_pos hn] at h'; exact h'
    · rw [if_neg hn] at h'; exact absurd rfl h'
  refine (hrest.join hW1 (fun a h => ?_)).congr (fun a => ?_) (fun q h => ?_)
  · have h' : ¬ (if w1 a = none then w a else none) = none := h
    by_cases hn : w1 a = none
    · rw [if_pos hn] at h'; exact hdis a hn h'
    · rw [if_neg hn] at h'; exact absurd rfl h'
  · show (if (if w1 a = none then w a else none) ≠ none then (if w1 a = none then w a else none) else w1' a) = j_mix w w1 w1' a
    unfold j_mix
    by_cases hn : w1 a = none
    · by_cases hm : w a = none
      · simp [hn, hm]
      · simp [hn, hm]
    · simp [hn]
  · rcases h with h | h
    · exact Or.inl h
    · exact hsub q h
