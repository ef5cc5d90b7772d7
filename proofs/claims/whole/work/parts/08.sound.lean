theorem j_pure_len {i : Instr} {ls ls' : jL} {st st' : List Value} {d : Nat} (h : j_pure i ls st = some (d, ls', st')) : ls'.length = ls.length := by
  unfold j_pure at h
  split at h <;> (try split at h) <;> (try split at h) <;> cases h <;> simp
theorem j_sw_at {K : Nat → Prop} {pc : Nat} {x : Int} : ∀ (offs : List Int) (lo : Int), j_sw K pc x lo offs → ∀ (n : Nat) (off : Int), offs[n]? = some off → x = lo + (n : Int) → K (j_tg pc off)
  | [], lo, h, n, off, hn, hx => by simp at hn
  | o :: r, lo, h, 0, off, hn, hx => by
    simp at hn
    subst hn
    exact h.1 (by omega)
  | o :: r, lo, h, n + 1, off, hn, hx => by
    rw [List.getElem?_cons_succ] at hn
    exact j_sw_at r (lo + 1) h.2 n off hn (by omega)
theorem j_fl_of {own : String} {idx : Nat} {q : String × String × String × Bool} {args : Array Value} {s : State} {D : va_G} {tc : Nat → ClassId} (hts : ∀ w ∈ jTS, w.before args s = true) (hZ : j_Z D tc s) (h : j_flT own idx q) : j_fl own idx q args s := by
  rcases h with h | ⟨host, h⟩
  · exact Or.inl (hts _ h)
  · exact Or.inr ⟨host, va_Nw.use rfl (hZ.2.1 _ h).2⟩
theorem j_ml_of {own : String} {idx : Nat} {y : MethodName} {args : Array Value} {s : State} {D : va_G} {tc : Nat → ClassId} (hts : ∀ w ∈ jTS, w.before args s = true) (hZ : j_Z D tc s) (h : j_mlT own idx y) : j_ml own idx y args s := by
  rcases h with h | ⟨host, h⟩
  · exact Or.inl (hts _ h)
  · exact Or.inr ⟨host, (hZ.2.1 _ h).2⟩
set_option maxHeartbeats 8000000 in
set_option maxRecDepth 100000 in
/-- ONE STEP -/
theorem j_step {M : jMi} {post : Option Value → jW → Prop} {pc : Nat} {ls : jL} {st : List Value} {w : jW} {cb sb : Nat} {i : Instr} {len : Nat} {x : Option (List Nat)} (hM : j_okT M) (hf : j_fetch (m_T M) pc = some (i, len, x)) (k : j_ex (m_r M) post (j_S M post) pc i len x ls st w cb sb) : j_S M post pc ls st w cb sb := by
  obtain ⟨hd, hlk⟩ := hM _ (j_fetch_mem hf)
  intro hn p l e R s m args below meth c Q D tc A MC MS C Rt
  obtain ⟨hx, hb, hml, hown, hts, hZ, hA, hin, hfr, hlo, hMC, hMS⟩ := id C
  have hml' : c.maxLocals = ls.length := hml.trans hn.symm
  have go : ∀ {pc' : Nat} {ls' : jL} {st' : List Value} {w' : jW} {cb' sb' : Nat}, ls'.length = ls.length → j_S M post pc' ls' st' w' cb' sb' → j_A p l e R s m args below meth c Q D tc A MC MS pc' ls' st' w' cb' sb' := fun hl h => h (hl.trans hn) p l e R s m args below meth c Q D tc A MC MS C Rt
  have ret : ∀ {v : Option Value} {st' : List Value}, post v w → j_rv (m_b M) (m_r M) pc st' v → j_A p l e R s m args below meth c Q D tc A MC MS pc ls st' w cb sb := fun hp hr H locs arr cells slots hl hW hS h1 h2 => Rt _ w H locs cells slots pc arr _ hp hr hW hS (by omega) (by omega)
  cases x with
  | none =>
    simp only [j_ex] at k
    split at k
    · rename_i d ls' st' hp
      obtain ⟨rfl, k⟩ := k
      exact j_pure_ok hx hb hd hp (go (j_pure_len hp) k)
    · exact k.elim
  | some x =>
    have hlk0 := hlk x rfl
    clear hlk
    obtain ⟨hln, hlk⟩ := hlk0
    cases i
    case goto off =>
      cases hln
      exact j_goto hx hb hd hlk (go rfl k)
    case ifCond cd off =>
      cases hln
      simp only [j_ex] at k
      split at k
      · exact j_if hx hb hd hlk (fun h => go rfl (k.1 h)) (fun h => go rfl (k.2 h))
      · exact k.elim
    case if_icmp cd off =>
      cases hln
      simp only [j_ex] at k
      split at k
      · exact j_icmp hx hb hd hlk (fun h => go rfl (k.1 h)) (fun h => go rfl (k.2 h))
      · exact k.elim
    case ifnull off =>
      cases hln
      simp only [j_ex] at k
      split at k
      · exact j_ifnullN hx hb hd hlk (go rfl k)
      · exact j_ifnull hx hb hd (go rfl k)
      · exact k.elim
    case ifnonnull off =>
      cases hln
      simp only [j_ex] at k
      split at k
      · exact j_ifnonnullN hx hb hd (go rfl k)
      · exact j_ifnonnull hx hb hd hlk (go rfl k)
      · exact k.elim
    case tableswitch d lo hi offs =>
      simp only [j_ex] at k
      split at k
      · rename_i a r
        obtain ⟨h1, h2, h3⟩ := hlk
        intro H locs arr cells slots hl hW hS q1 q2
        by_cases hc : a.toInt < lo ∨ hi < a.toInt
        · exact lv_tableOut hx hb hd hc (j_tg_eq h1) (go rfl (k.1 hc) H locs arr cells slots hl hW hS q1 q2)
        · have hc1 : ¬ a.toInt < lo := fun h => hc (Or.inl h)
          have hc2 : ¬ hi < a.toInt := fun h => hc (Or.inr h)
          have hlt : (a.toInt - lo).toNat < offs.toList.length := by omega
          have ho : offs.toList[(a.toInt - lo).toNat]? = some offs.toList[(a.toInt - lo).toNat] := List.getElem?_eq_getElem hlt
          have hfw : j_fwd pc offs.toList[(a.toInt - lo).toNat] = true := List.all_eq_true.mp h2 _ (List.getElem_mem hlt)
          exact lv_tableIn hx hb hd hc1 hc2 (by rw [← Array.getElem?_toList]; exact ho) (j_tg_eq hfw) (go rfl (j_sw_at offs.toList lo k.2 _ _ ho (by omega)) H locs arr cells slots hl hW hS q1 q2)
      · exact k.elim
    case idiv =>
      cases hln
      simp only [j_ex] at k
      split at k
      · exact j_idiv hx hb hd k.1 (go rfl k.2)
      · exact k.elim
    case irem =>
      cases hln
      simp only [j_ex] at k
      split at k
      · exact j_irem hx hb hd k.1 (go rfl k.2)
      · exact k.elim
    case ireturn =>
      cases hln
      simp only [j_ex] at k
      split at k
      · split at k
        · rename_i ty hr
          exact ret k.2 (Or.inr (Or.inl ⟨_, ty, rfl, rfl, hr, k.1, hd⟩))
        · exact k.elim
      · exact k.elim
    case lreturn =>
      cases hln
      simp only [j_ex] at k
      split at k
      · exact ret k (Or.inr (Or.inr (Or.inl ⟨_, rfl, rfl, hlk, hd⟩)))
      · exact k.elim
    case areturn =>
      cases hln
      obtain ⟨t, h1, h2⟩ := hlk
      simp only [j_ex] at k
      split at k
      · exact ret k (Or.inr (Or.inr (Or.inr ⟨_, t, Or.inr ⟨_, rfl⟩, rfl, rfl, h1, h2, hd⟩)))
      · exact ret k (Or.inr (Or.inr (Or.inr ⟨_, t, Or.inl rfl, rfl, rfl, h1, h2, hd⟩)))
      · exact k.elim
    case return_ =>
      cases hln
      simp only [j_ex] at k
      split at k
      · exact ret k (Or.inl ⟨rfl, rfl, hlk, hd⟩)
      · exact k.elim
    case getfield idx =>
      cases hln
      obtain ⟨q, ci, kf, rfl, h1, h2, h3, h4⟩ := hlk
      simp only [j_ex] at k
      split at k <;> try exact k.elim
      rename_i ci' k' a r hxx
      cases hxx
      split at k <;> try exact k.elim
      rename_i cj fs hw
      obtain ⟨rfl, k⟩ := k
      split at k <;> try exact k.elim
      rename_i v hv
      exact j_getf hx hb hts hown hZ h1 h2 h3 (j_fl_of hts hZ h4) hw hv hd (go rfl k)
    case putfield idx =>
      cases hln
      obtain ⟨q, ci, kf, t, rfl, h1, h2, h3, h4, h5, h6⟩ := hlk
      simp only [j_ex] at k
      split at k <;> try exact k.elim
      rename_i ci' k' t' v a r hxx
      cases hxx
      split at k <;> try exact k.elim
      rename_i cj fs hw
      obtain ⟨rfl, hk, hv, k⟩ := k
      obtain ⟨hv1, hv2⟩ := j_okv_fit hv h5
      refine j_putf hx hb hts hown hZ h1 h2 h3 (j_fl_of hts hZ h4) ?_ hv1 hv2 hw hk hd (go rfl k)
      rcases h6 with h6 | ⟨h6, h7, h8, h9⟩
      · exact Or.inl h6
      · exact Or.inr ⟨h6, hin h7, h8, hts _ h9⟩
    case new idx =>
      cases hln
      obtain ⟨q, ci, ts, rfl, h1, h2, h3, h4, h5, h6, h7⟩ := hlk
      simp only [j_ex] at k
      obtain ⟨k1, k2, k3⟩ := k
      rw [h3] at k2
      refine j_new hx hb hts hown hZ hA hMC hMS h1 h2 (hts _ h4) (hts _ h5) (hts _ h6) h7 hd k1 k2 (fun a ha => ?_)
      have := k3 a ha
      rw [h3] at this
      exact go rfl this
    case newarray at_ =>
      cases hln
      obtain ⟨tk, rfl, h1, h2, h3⟩ := hlk
      simp only [j_ex] at k
      split at k <;> try exact k.elim
      rename_i tk' n r hxx
      cases hxx
      obtain ⟨k1, k2, k3, k4, k5⟩ := k
      refine j_newa hx hb hZ hA hMC hMS (hts _ h2) h1 ?_ k1 rfl ?_ hd k2 k3 (fun a ha => go rfl (k5 a ha))
      · intro cA
        rcases h3 with rfl | rfl | rfl <;> rfl
      · rcases h3 with rfl | rfl | rfl <;> simp only [newarray.typeOf, componentBytes] <;> omega
    case anewarray idx =>
      cases hln
      obtain ⟨tk, C, rfl, h1, h2, h3⟩ := hlk
      simp only [j_ex] at k
      split at k <;> try exact k.elim
      rename_i tk' n r hxx
      cases hxx
      obtain ⟨k1, k2, k3, k4, k5⟩ := k
      exact j_newq hx hb hown hZ hA hMC hMS (hts _ h3) h2 h1 k1 rfl (by omega) hd k2 k3 (fun a ha => go rfl (k5 a ha))
    case iaload =>
      cases hln
      obtain ⟨tk, rfl, h1⟩ := hlk
      simp only [j_ex] at k
      split at k <;> try exact k.elim
      rename_i tk' j a r hxx
      cases hxx
      split at k <;> try exact k.elim
      rename_i t n f hw
      obtain ⟨rfl, k1, k2⟩ := k
      exact j_iald hx hb hZ h1 hw k1 hd (go rfl k2)
    case baload =>
      cases hln
      obtain ⟨tk, rfl, h1⟩ := hlk
      simp only [j_ex] at k
      split at k <;> try exact k.elim
      rename_i tk' j a r hxx
      cases hxx
      split at k <;> try exact k.elim
      rename_i t n f hw
      obtain ⟨rfl, k1, k2⟩ := k
      exact j_zald hx hb hZ h1 hw k1 hd (go rfl k2)
    case laload =>
      cases hln
      obtain ⟨tk, rfl, h1⟩ := hlk
      simp only [j_ex] at k
      split at k <;> try exact k.elim
      rename_i tk' j a r hxx
      cases hxx
      split at k <;> try exact k.elim
      rename_i t n f hw
      obtain ⟨rfl, k1, k2⟩ := k
      exact j_lald hx hb hZ h1 hw k1 hd (go rfl k2)
    case aaload =>
      cases hln
      obtain ⟨tk, C, rfl, h1⟩ := hlk
      simp only [j_ex] at k
      split at k <;> try exact k.elim
      rename_i tk' j a r hxx
      cases hxx
      split at k <;> try exact k.elim
      rename_i t n f hw
      obtain ⟨rfl, k1, k2⟩ := k
      exact j_aald hx hb hZ h1 hw k1 hd (go rfl k2)
    case iastore =>
      cases hln
      obtain ⟨tk, rfl, h1⟩ := hlk
      simp only [j_ex] at k
      split at k <;> try exact k.elim
      rename_i tk' v j a r hxx
      cases hxx
      split at k <;> try exact k.elim
      rename_i t n f hw
      obtain ⟨rfl, k1, k2⟩ := k
      exact j_iast hx hb hZ h1 hw k1 hd (go rfl k2)
    case bastore =>
      cases hln
      obtain ⟨tk, rfl, h1⟩ := hlk
      simp only [j_ex] at k
      split at k <;> try exact k.elim
      rename_i tk' v j a r hxx
      cases hxx
      split at k <;> try exact k.elim
      rename_i t n f hw
      obtain ⟨rfl, k1, k2⟩ := k
      exact j_zast hx hb hZ h1 hw k1 hd (go rfl k2)
    case lastore =>
      cases hln
      obtain ⟨tk, rfl, h1⟩ := hlk
      simp only [j_ex] at k
      split at k <;> try exact k.elim
      rename_i tk' v j a r hxx
      cases hxx
      split at k <;> try exact k.elim
      rename_i t n f hw
      obtain ⟨rfl, k1, k2⟩ := k
      exact j_last hx hb hZ h1 hw k1 hd (go rfl k2)
    case aastore =>
      cases hln
      obtain ⟨tk, ci, q, rfl, h1, h2⟩ := hlk
      simp only [j_ex] at k
      split at k <;> try exact k.elim
      · rename_i tk' ci' v j a r hxx
        cases hxx
        split at k <;> try exact k.elim
        rename_i t n f hw
        obtain ⟨rfl, k1, k2⟩ := k
        split at k2 <;> try exact k2.elim
        rename_i cj vs hv
        obtain ⟨rfl, k2⟩ := k2
        exact j_aast hx hb hZ h1 h2 hw hv k1 hd (go rfl k2)
      · rename_i tk' ci' j a r hxx
        cases hxx
        split at k <;> try exact k.elim
        rename_i t n f hw
        obtain ⟨rfl, k1, k2⟩ := k
        exact j_aastN hx hb hZ h2 hw k1 hd (go rfl k2)
    case arraylength =>
      cases hln
      obtain ⟨tk, ty, rfl, h1⟩ := hlk
      simp only [j_ex] at k
      split at k <;> try exact k.elim
      rename_i tk' a r hxx
      cases hxx
      split at k <;> try exact k.elim
      rename_i t y hw
      obtain ⟨rfl, k2⟩ := k
      exact j_alen hx hb hZ h1 hw hd (go rfl k2)
    case ldc idx =>
      cases hln
      obtain ⟨v, rfl, h1⟩ := hlk
      simp only [j_ex] at k
      intro H locs arr cells slots hl hW hS q1 q2
      exact lv_ldc hx hb hown (hts _ h1) hd (go rfl k H locs arr cells slots hl hW hS q1 q2)
    case ldc2_w idx =>
      cases hln
      obtain ⟨v, rfl, h1⟩ := hlk
      simp only [j_ex] at k
      intro H locs arr cells slots hl hW hS q1 q2
      exact lv_ldc2 hx hb hown (hts _ h1) hd (go rfl k H locs arr cells slots hl hW hS q1 q2)
    case checkcast idx =>
      cases hln
      obtain ⟨rfl, h1⟩ := hlk
      simp only [j_ex] at k
      split at k <;> try exact k.elim
      rename_i a r hxx
      split at k <;> try exact k.elim
      rename_i y hw
      exact j_castA hx hb hown hZ (hts _ h1) rfl hw hd (go rfl k)
    case invokestatic idx =>
      cases hln
      rcases hlk with ⟨rfl, h1, h2, h3, h4, h5, h6⟩ | ⟨j, n, rfl, h1, h2, h3, h4, h5⟩
      · simp only [j_ex] at k
        split at k <;> try exact k.elim
        rename_i n dp a sp a0 r
        split at k <;> try exact k.elim
        rename_i n0 f hw0
        split at k <;> try exact k.elim
        rename_i n1 g hw1
        obtain ⟨k0, k1, k2, k3, k4, k5, k6⟩ := k
        unfold j_w8 at k0
        exact j_copyi hx hb hml' hown hZ (hts _ h1) (hts _ h2) (hts _ h3) (hts _ h4) rfl hw0 hw1 k1 k2 k3 k4 k5 (by omega) (by omega) hd (go rfl k6)
      simp only [j_ex] at k
      split at k <;> try exact k.elim
      rename_i As r hs
      obtain ⟨k1, mc, ms, k2, k3, k4⟩ := k
      obtain ⟨e1, e2⟩ := j_spl_ok n [] st As r hs
      exact j_callS hx hb hml' hts j_TS_good hown hZ hA hMC hMS h1 h2 (j_ml_of hts hZ h3) ⟨by omega, by omega⟩ (by simpa using e2) k1 (by simpa using e1.symm) hd k4 k2 k3 (fun v w' h => go rfl h)
    case invokevirtual idx =>
      cases hln
      rcases hlk with ⟨rfl, h1, h2, h3, h4, h5, h6, h7, h8⟩ | ⟨j, n, ci, q, rfl, h0, h1, h2, h2', h3, h4, h5⟩
      · simp only [j_ex] at k
        split at k <;> try exact k.elim
        rename_i a r
        split at k <;> try exact k.elim
        rename_i n f hw
        obtain ⟨k0, k1, k2, k3⟩ := k
        unfold j_w8 at k0
        exact j_clone hx hb hml' hown hZ hA hMC hMS (hts _ h1) (hts _ h2) (hts _ h3) (hts _ h4) (hts _ h5) (hZ.2.1 _ h6).2 rfl hw (by omega) (by omega) hd k1 k2 (fun q hq => go rfl (k3 q hq))
      simp only [j_ex] at k
      split at k <;> try exact k.elim
      rename_i As b r hs
      obtain ⟨k0, k1, mc, ms, k2, k3, k4⟩ := k
      split at k0 <;> try exact k0.elim
      rename_i cj fs hw
      subst k0
      obtain ⟨e1, e2⟩ := j_spl_ok n [] st As _ hs
      exact j_callV hx hb hml' hts j_TS_good hown hZ hA hMC hMS h1 h2 h2' (j_ml_of hts hZ h3) ⟨by omega, by omega⟩ (by simpa using e2) k1 (by simpa using e1.symm) h0 hw hd k4 k2 k3 (fun v w' h => go rfl h)
    case invokespecial idx =>
      cases hln
      rcases hlk with ⟨rfl, h1, h2, h3, h4, h5⟩ | ⟨j, n, rfl, h1, h2, h2', h2'', h3, h4, h5⟩
      · simp only [j_ex] at k
        split at k <;> try exact k.elim
        rename_i a r
        obtain ⟨k1, k2⟩ := k
        unfold j_w8 at k1
        exact j_objInit hx hb hml' hown (hts _ h1) (hts _ h2) (hts _ h3) (by omega) (by omega) hd (go rfl k2)
      · simp only [j_ex] at k
        split at k <;> try exact k.elim
        rename_i As b r hs
        obtain ⟨k1, mc, ms, k2, k3, k4⟩ := k
        obtain ⟨e1, e2⟩ := j_spl_ok n [] st As _ hs
        exact j_callI hx hb hml' hts j_TS_good hown hZ hA hMC hMS h1 h2 h2' h2'' (j_ml_of hts hZ h3) ⟨by omega, by omega⟩ (by simpa using e2) k1 (by simpa using e1.symm) hd k4 k2 k3 (fun v w' h => go rfl h)
    all_goals (simp only [j_ex] at k)
