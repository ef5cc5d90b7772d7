/-! THE SCRIPT: an array of ints outside the world, which the law and cell read -/
set_option maxHeartbeats 8000000 in
set_option maxRecDepth 100000 in
theorem j_stepK {M : jMi} {post : Option Value → jW → Prop} {K : Nat → jL → List Value → jW → Nat → Nat → Prop} {pc : Nat} {ls : jL} {st : List Value} {w : jW} {cb sb : Nat} {i : Instr} {len : Nat} {x : Option (List Nat)} (hM : j_okT M) (hf : j_fetch (m_T M) pc = some (i, len, x)) (k : j_ex (m_r M) post K pc i len x ls st w cb sb) (hn : ls.length = m_n M) {p : Program} {l : Launch} {e : Env} {R : Room} {s : State} {m : MethodId} {args : Array Value} {below : List Frame} {meth : Method} {c : Code} {Q : State → Prop} {D : va_G} {tc : Nat → ClassId} {A : Nat → Prop} {MC MS : Nat} (C : j_cx M p R s m args meth c D tc A MC MS) (Rt : j_rt M post p l e R s m args below meth c Q D tc A MC MS) (go : ∀ {pc' : Nat} {ls' : jL} {st' : List Value} {w' : jW} {cb' sb' : Nat}, ls'.length = ls.length → K pc' ls' st' w' cb' sb' → j_A p l e R s m args below meth c Q D tc A MC MS pc' ls' st' w' cb' sb') : j_A p l e R s m args below meth c Q D tc A MC MS pc ls st w cb sb := by
  obtain ⟨hd, hlk⟩ := hM _ (j_fetch_mem hf)
  obtain ⟨hx, hb, hml, hown, hts, hZ, hA, hin, hfr, hlo, hMC, hMS⟩ := id C
  have hml' : c.maxLocals = ls.length := hml.trans hn.symm
  have ret : ∀ {v : Option Value} {st' : List Value}, post v w → j_rv (m_b M) (m_r M) pc st' v → j_A p l e R s m args below meth c Q D tc A MC MS pc ls st' w cb sb := fun hp hr H locs arr cells slots hl hW hS h1 h2 => Rt _ w H locs cells slots pc arr _ hp hr hW hS (by omega) (by omega)
  cases x with
  | none =>
    simp only [j_ex] at k
    split at k
    · rename_i d ls' st' hp
      obtain ⟨rfl, k⟩ := k
      exact j_pure_ok hx hb hd hp (go (j_pure_len hp) k)
    · exact k.elim
  | some x =>
    have hlk0 := hlk x rfl
    clear hlk
    obtain ⟨hln, hlk⟩ := hlk0
    cases i
    case goto off =>
      cases hln
      exact j_goto hx hb hd hlk (go rfl k)
    case ifCond cd off =>
      cases hln
      simp only [j_ex] at k
      split at k
      · exact j_if hx hb hd hlk (fun h => go rfl (k.1 h)) (fun h => go rfl (k.2 h))
      · exact k.elim
    case if_icmp cd off =>
      cases hln
      simp only [j_ex] at k
      split at k
      · exact j_icmp hx hb hd hlk (fun h => go rfl (k.1 h)) (fun h => go rfl (k.2 h))
      · exact k.elim
    case ifnull off =>
      cases hln
      simp only [j_ex] at k
      split at k
      · exact j_ifnullN hx hb hd hlk (go rfl k)
      · exact j_ifnull hx hb hd (go rfl k)
      · exact k.elim
    case ifnonnull off =>
      cases hln
      simp only [j_ex] at k
      split at k
      · exact j_ifnonnullN hx hb hd (go rfl k)
      · exact j_ifnonnull hx hb hd hlk (go rfl k)
      · exact k.elim
    case tableswitch d lo hi offs =>
      simp only [j_ex] at k
      split at k
      · rename_i a r
        obtain ⟨h1, h2, h3⟩ := hlk
        intro H locs arr cells slots hl hW hS q1 q2
        by_cases hc : a.toInt < lo ∨ hi < a.toInt
        · exact lv_tableOut hx hb hd hc (j_tg_eq h1) (go rfl (k.1 hc) H locs arr cells slots hl hW hS q1 q2)
        · have hc1 : ¬ a.toInt < lo := fun h => hc (Or.inl h)
          have hc2 : ¬ hi < a.toInt := fun h => hc (Or.inr h)
          have hlt : (a.toInt - lo).toNat < offs.toList.length := by omega
          have ho : offs.toList[(a.toInt - lo).toNat]? = some offs.toList[(a.toInt - lo).toNat] := List.getElem?_eq_getElem hlt
          have hfw : j_fwd pc offs.toList[(a.toInt - lo).toNat] = true := List.all_eq_true.mp h2 _ (List.getElem_mem hlt)
          exact lv_tableIn hx hb hd hc1 hc2 (by rw [← Array.getElem?_toList]; exact ho) (j_tg_eq hfw) (go rfl (j_sw_at offs.toList lo k.2 _ _ ho (by omega)) H locs arr cells slots hl hW hS q1 q2)
      · exact k.elim
    case idiv =>
      cases hln
      simp only [j_ex] at k
      split at k
      · exact j_idiv hx hb hd k.1 (go rfl k.2)
      · exact k.elim
    case irem =>
      cases hln
      simp only [j_ex] at k
      split at k
      · exact j_irem hx hb hd k.1 (go rfl k.2)
      · exact k.elim
    case ireturn =>
      cases hln
      simp only [j_ex] at k
      split at k
      · split at k
        · rename_i ty hr
          exact ret k.2 (Or.inr (Or.inl ⟨_, ty, rfl, rfl, hr, k.1, hd⟩))
        · exact k.elim
      · exact k.elim
    case lreturn =>
      cases hln
      simp only [j_ex] at k
      split at k
      · exact ret k (Or.inr (Or.inr (Or.inl ⟨_, rfl, rfl, hlk, hd⟩)))
      · exact k.elim
    case areturn =>
      cases hln
      obtain ⟨t, h1, h2⟩ := hlk
      simp only [j_ex] at k
      split at k
      · exact ret k (Or.inr (Or.inr (Or.inr ⟨_, t, Or.inr ⟨_, rfl⟩, rfl, rfl, h1, h2, hd⟩)))
      · exact ret k (Or.inr (Or.inr (Or.inr ⟨_, t, Or.inl rfl, rfl, rfl, h1, h2, hd⟩)))
      · exact k.elim
    case return_ =>
      cases hln
      simp only [j_ex] at k
      split at k
      · exact ret k (Or.inl ⟨rfl, rfl, hlk, hd⟩)
      · exact k.elim
    case getfield idx =>
      cases hln
      obtain ⟨q, ci, kf, rfl, h1, h2, h3, h4⟩ := hlk
      simp only [j_ex] at k
      split at k <;> try exact k.elim
      rename_i ci' k' a r hxx
      cases hxx
      split at k <;> try exact k.elim
      rename_i cj fs hw
      obtain ⟨rfl, k⟩ := k
      split at k <;> try exact k.elim
      rename_i v hv
      exact j_getf hx hb hts hown hZ h1 h2 h3 (j_fl_of hts hZ h4) hw hv hd (go rfl k)
    case putfield idx =>
      cases hln
      obtain ⟨q, ci, kf, t, rfl, h1, h2, h3, h4, h5, h6⟩ := hlk
      simp only [j_ex] at k
      split at k <;> try exact k.elim
      rename_i ci' k' t' v a r hxx
      cases hxx
      split at k <;> try exact k.elim
      rename_i cj fs hw
      obtain ⟨rfl, hk, hv, k⟩ := k
      obtain ⟨hv1, hv2⟩ := j_okv_fit hv h5
      refine j_putf hx hb hts hown hZ h1 h2 h3 (j_fl_of hts hZ h4) ?_ hv1 hv2 hw hk hd (go rfl k)
      rcases h6 with h6 | ⟨h6, h7, h8, h9⟩
      · exact Or.inl h6
      · exact Or.inr ⟨h6, hin h7, h8, hts _ h9⟩
    case new idx =>
      cases hln
      obtain ⟨q, ci, ts, rfl, h1, h2, h3, h4, h5, h6, h7⟩ := hlk
      simp only [j_ex] at k
      obtain ⟨k1, k2, k3⟩ := k
      rw [h3] at k2
      refine j_new hx hb hts hown hZ hA hMC hMS h1 h2 (hts _ h4) (hts _ h5) (hts _ h6) h7 hd k1 k2 (fun a ha => ?_)
      have := k3 a ha
      rw [h3] at this
      exact go rfl this
    case newarray at_ =>
      cases hln
      obtain ⟨tk, rfl, h1, h2, h3⟩ := hlk
      simp only [j_ex] at k
      split at k <;> try exact k.elim
      rename_i tk' n r hxx
      cases hxx
      obtain ⟨k1, k2, k3, k4, k5⟩ := k
      refine j_newa hx hb hZ hA hMC hMS (hts _ h2) h1 ?_ k1 rfl ?_ hd k2 k3 (fun a ha => go rfl (k5 a ha))
      · intro cA
        rcases h3 with rfl | rfl | rfl <;> rfl
      · rcases h3 with rfl | rfl | rfl <;> simp only [newarray.typeOf, componentBytes] <;> omega
    case anewarray idx =>
      cases hln
      obtain ⟨tk, C, rfl, h1, h2, h3⟩ := hlk
      simp only [j_ex] at k
      split at k <;> try exact k.elim
      rename_i tk' n r hxx
      cases hxx
      obtain ⟨k1, k2, k3, k4, k5⟩ := k
      exact j_newq hx hb hown hZ hA hMC hMS (hts _ h3) h2 h1 k1 rfl (by omega) hd k2 k3 (fun a ha => go rfl (k5 a ha))
    case iaload =>
      cases hln
      obtain ⟨tk, rfl, h1⟩ := hlk
      simp only [j_ex] at k
      split at k <;> try exact k.elim
      rename_i tk' j a r hxx
      cases hxx
      split at k <;> try exact k.elim
      rename_i t n f hw
      obtain ⟨rfl, k1, k2⟩ := k
      exact j_iald hx hb hZ h1 hw k1 hd (go rfl k2)
    case baload =>
      cases hln
      obtain ⟨tk, rfl, h1⟩ := hlk
      simp only [j_ex] at k
      split at k <;> try exact k.elim
      rename_i tk' j a r hxx
      cases hxx
      split at k <;> try exact k.elim
      rename_i t n f hw
      obtain ⟨rfl, k1, k2⟩ := k
      exact j_zald hx hb hZ h1 hw k1 hd (go rfl k2)
    case laload =>
      cases hln
      obtain ⟨tk, rfl, h1⟩ := hlk
      simp only [j_ex] at k
      split at k <;> try exact k.elim
      rename_i tk' j a r hxx
      cases hxx
      split at k <;> try exact k.elim
      rename_i t n f hw
      obtain ⟨rfl, k1, k2⟩ := k
      exact j_lald hx hb hZ h1 hw k1 hd (go rfl k2)
    case aaload =>
      cases hln
      obtain ⟨tk, C, rfl, h1⟩ := hlk
      simp only [j_ex] at k
      split at k <;> try exact k.elim
      rename_i tk' j a r hxx
      cases hxx
      split at k <;> try exact k.elim
      rename_i t n f hw
      obtain ⟨rfl, k1, k2⟩ := k
      exact j_aald hx hb hZ h1 hw k1 hd (go rfl k2)
    case iastore =>
      cases hln
      obtain ⟨tk, rfl, h1⟩ := hlk
      simp only [j_ex] at k
      split at k <;> try exact k.elim
      rename_i tk' v j a r hxx
      cases hxx
      split at k <;> try exact k.elim
      rename_i t n f hw
      obtain ⟨rfl, k1, k2⟩ := k
      exact j_iast hx hb hZ h1 hw k1 hd (go rfl k2)
    case bastore =>
      cases hln
      obtain ⟨tk, rfl, h1⟩ := hlk
      simp only [j_ex] at k
      split at k <;> try exact k.elim
      rename_i tk' v j a r hxx
      cases hxx
      split at k <;> try exact k.elim
      rename_i t n f hw
      obtain ⟨rfl, k1, k2⟩ := k
      exact j_zast hx hb hZ h1 hw k1 hd (go rfl k2)
    case lastore =>
      cases hln
      obtain ⟨tk, rfl, h1⟩ := hlk
      simp only [j_ex] at k
      split at k <;> try exact k.elim
      rename_i tk' v j a r hxx
      cases hxx
      split at k <;> try exact k.elim
      rename_i t n f hw
      obtain ⟨rfl, k1, k2⟩ := k
      exact j_last hx hb hZ h1 hw k1 hd (go rfl k2)
    case aastore =>
      cases hln
      obtain ⟨tk, ci, q, rfl, h1, h2⟩ := hlk
      simp only [j_ex] at k
      split at k <;> try exact k.elim
      · rename_i tk' ci' v j a r hxx
        cases hxx
        split at k <;> try exact k.elim
        rename_i t n f hw
        obtain ⟨rfl, k1, k2⟩ := k
        split at k2 <;> try exact k2.elim
        rename_i cj vs hv
        obtain ⟨rfl, k2⟩ := k2
        exact j_aast hx hb hZ h1 h2 hw hv k1 hd (go rfl k2)
      · rename_i tk' ci' j a r hxx
        cases hxx
        split at k <;> try exact k.elim
        rename_i t n f hw
        obtain ⟨rfl, k1, k2⟩ := k
        exact j_aastN hx hb hZ h2 hw k1 hd (go rfl k2)
    case arraylength =>
      cases hln
      obtain ⟨tk, ty, rfl, h1⟩ := hlk
      simp only [j_ex] at k
      split at k <;> try exact k.elim
      rename_i tk' a r hxx
      cases hxx
      split at k <;> try exact k.elim
      rename_i t y hw
      obtain ⟨rfl, k2⟩ := k
      exact j_alen hx hb hZ h1 hw hd (go rfl k2)
    case ldc idx =>
      cases hln
      obtain ⟨v, rfl, h1⟩ := hlk
      simp only [j_ex] at k
      intro H locs arr cells slots hl hW hS q1 q2
      exact lv_ldc hx hb hown (hts _ h1) hd (go rfl k H locs arr cells slots hl hW hS q1 q2)
    case ldc2_w idx =>
      cases hln
      obtain ⟨v, rfl, h1⟩ := hlk
      simp only [j_ex] at k
      intro H locs arr cells slots hl hW hS q1 q2
      exact lv_ldc2 hx hb hown (hts _ h1) hd (go rfl k H locs arr cells slots hl hW hS q1 q2)
    case checkcast idx =>
      cases hln
      obtain ⟨rfl, h1⟩ := hlk
      simp only [j_ex] at k
      split at k <;> try exact k.elim
      rename_i a r hxx
      split at k <;> try exact k.elim
      rename_i y hw
      exact j_castA hx hb hown hZ (hts _ h1) rfl hw hd (go rfl k)
    case invokestatic idx =>
      cases hln
      rcases hlk with ⟨rfl, h1, h2, h3, h4, h5, h6⟩ | ⟨j, n, rfl, h1, h2, h3, h4, h5⟩
      · simp only [j_ex] at k
        split at k <;> try exact k.elim
        rename_i n dp a sp a0 r
        split at k <;> try exact k.elim
        rename_i n0 f hw0
        split at k <;> try exact k.elim
        rename_i n1 g hw1
        obtain ⟨k0, k1, k2, k3, k4, k5, k6⟩ := k
        unfold j_w8 at k0
        exact j_copyi hx hb hml' hown hZ (hts _ h1) (hts _ h2) (hts _ h3) (hts _ h4) rfl hw0 hw1 k1 k2 k3 k4 k5 (by omega) (by omega) hd (go rfl k6)
      simp only [j_ex] at k
      split at k <;> try exact k.elim
      rename_i As r hs
      obtain ⟨k1, mc, ms, k2, k3, k4⟩ := k
      obtain ⟨e1, e2⟩ := j_spl_ok n [] st As r hs
      exact j_callS hx hb hml' hts j_TS_good hown hZ hA hMC hMS h1 h2 (j_ml_of hts hZ h3) ⟨by omega, by omega⟩ (by simpa using e2) k1 (by simpa using e1.symm) hd k4 k2 k3 (fun v w' h => go rfl h)
    case invokevirtual idx =>
      cases hln
      rcases hlk with ⟨rfl, h1, h2, h3, h4, h5, h6, h7, h8⟩ | ⟨j, n, ci, q, rfl, h0, h1, h2, h2', h3, h4, h5⟩
      · simp only [j_ex] at k
        split at k <;> try exact k.elim
        rename_i a r
        split at k <;> try exact k.elim
        rename_i n f hw
        obtain ⟨k0, k1, k2, k3⟩ := k
        unfold j_w8 at k0
        exact j_clone hx hb hml' hown hZ hA hMC hMS (hts _ h1) (hts _ h2) (hts _ h3) (hts _ h4) (hts _ h5) (hZ.2.1 _ h6).2 rfl hw (by omega) (by omega) hd k1 k2 (fun q hq => go rfl (k3 q hq))
      simp only [j_ex] at k
      split at k <;> try exact k.elim
      rename_i As b r hs
      obtain ⟨k0, k1, mc, ms, k2, k3, k4⟩ := k
      split at k0 <;> try exact k0.elim
      rename_i cj fs hw
      subst k0
      obtain ⟨e1, e2⟩ := j_spl_ok n [] st As _ hs
      exact j_callV hx hb hml' hts j_TS_good hown hZ hA hMC hMS h1 h2 h2' (j_ml_of hts hZ h3) ⟨by omega, by omega⟩ (by simpa using e2) k1 (by simpa using e1.symm) h0 hw hd k4 k2 k3 (fun v w' h => go rfl h)
    case invokespecial idx =>
      cases hln
      rcases hlk with ⟨rfl, h1, h2, h3, h4, h5⟩ | ⟨j, n, rfl, h1, h2, h2', h2'', h3, h4, h5⟩
      · simp only [j_ex] at k
        split at k <;> try exact k.elim
        rename_i a r
        obtain ⟨k1, k2⟩ := k
        unfold j_w8 at k1
        exact j_objInit hx hb hml' hown (hts _ h1) (hts _ h2) (hts _ h3) (by omega) (by omega) hd (go rfl k2)
      · simp only [j_ex] at k
        split at k <;> try exact k.elim
        rename_i As b r hs
        obtain ⟨k1, mc, ms, k2, k3, k4⟩ := k
        obtain ⟨e1, e2⟩ := j_spl_ok n [] st As _ hs
        exact j_callI hx hb hml' hts j_TS_good hown hZ hA hMC hMS h1 h2 h2' h2'' (j_ml_of hts hZ h3) ⟨by omega, by omega⟩ (by simpa using e2) k1 (by simpa using e1.symm) hd k4 k2 k3 (fun v w' h => go rfl h)
    all_goals (simp only [j_ex] at k)
def j_SX (b L : Nat) (xs : Nat → Int32) (M : jMi) (post : Option Value → jW → Prop) (pc : Nat) (ls : jL) (st : List Value) (w : jW) (cb sb : Nat) : Prop :=
  ls.length = m_n M → ∀ (p : Program) (l : Launch) (e : Env) (R : Room) (s : State) (m : MethodId) (args : Array Value) (below : List Frame) (meth : Method) (c : Code) (Q : State → Prop) (D : va_G) (tc : Nat → ClassId) (A : Nat → Prop) (MC MS : Nat), va_X b L xs s s.heap → b < s.heap.size → ¬ A b → j_cx M p R s m args meth c D tc A MC MS → j_rt M post p l e R s m args below meth c Q D tc A MC MS → j_A p l e R s m args below meth c Q D tc A MC MS pc ls st w cb sb
section JX
variable {b L : Nat} {xs : Nat → Int32} {M : jMi} {post : Option Value → jW → Prop} {pc : Nat} {ls : jL} {st : List Value} {w : jW} {cb sb : Nat} {i : Instr} {len : Nat} {x : Option (List Nat)}
theorem jx_step (hM : j_okT M) (hf : j_fetch (m_T M) pc = some (i, len, x)) (k : j_ex (m_r M) post (j_SX b L xs M post) pc i len x ls st w cb sb) : j_SX b L xs M post pc ls st w cb sb := by
  intro hn p l e R s m args below meth c Q D tc A MC MS hX hb hA C Rt
  exact j_stepK hM hf k hn C Rt (fun hl h => h (hl.trans hn) p l e R s m args below meth c Q D tc A MC MS hX hb hA C Rt)
theorem jx_ld (hM : j_okT M) {len : Nat} (hf : j_fetch (m_T M) pc = some (.iaload, 1, x)) {j : Int32} (hin : vp_in j L) (k : j_SX b L xs M post (pc + 1) ls (.int (xs j.toNatClampNeg) :: st) w cb sb) : j_SX b L xs M post pc ls (.int j :: .ref b :: st) w cb sb := by
  intro hn p l e R s m args below meth c Q D tc A MC MS hX hb hA C Rt
  intro H locs arr cells slots hl hW hS h1 h2
  have hd := (hM _ (j_fetch_mem hf)).1
  exact va_sld C.1 C.2.1 hX hb hA hS hin hd (k hn p l e R s m args below meth c Q D tc A MC MS hX hb hA C Rt H locs arr cells slots hl hW hS h1 h2)
theorem jx_len (hM : j_okT M) (hf : j_fetch (m_T M) pc = some (.arraylength, 1, x)) (k : j_SX b L xs M post (pc + 1) ls (.int (Int32.ofNat L) :: st) w cb sb) : j_SX b L xs M post pc ls (.ref b :: st) w cb sb := by
  intro hn p l e R s m args below meth c Q D tc A MC MS hX hb hA C Rt
  intro H locs arr cells slots hl hW hS h1 h2
  have hd := (hM _ (j_fetch_mem hf)).1
  exact va_slen C.1 C.2.1 hX hb hA hS hd (k hn p l e R s m args below meth c Q D tc A MC MS hX hb hA C Rt H locs arr cells slots hl hW hS h1 h2)
end JX
def j_scr : Instr → Bool
  | .iaload => true
  | .arraylength => true
  | _ => false
/-- one instruction where the only arrays are the script -/
def j_exX (b L : Nat) (xs : Nat → Int32) (rt : Option FieldType) (post : Option Value → jW → Prop) (K : Nat → jL → List Value → jW → Nat → Nat → Prop) (pc : Nat) (i : Instr) (len : Nat) (x0 : Option (List Nat)) (ls : jL) (st : List Value) (w : jW) (cb sb : Nat) : Prop := match i with
  | .iaload => (match st with
    | .int j :: .ref a :: r => a = b ∧ len = 1 ∧ vp_in j L ∧ K (pc + 1) ls (.int (xs j.toNatClampNeg) :: r) w cb sb
    | _ => False)
  | .arraylength => (match st with
    | .ref a :: r => a = b ∧ len = 1 ∧ K (pc + 1) ls (.int (Int32.ofNat L) :: r) w cb sb
    | _ => False)
  | i => j_ex rt post K pc i len x0 ls st w cb sb
theorem j_exX_no {b L : Nat} {xs : Nat → Int32} {rt : Option FieldType} {post : Option Value → jW → Prop} {K : Nat → jL → List Value → jW → Nat → Nat → Prop} {pc : Nat} {i : Instr} {len : Nat} {x0 : Option (List Nat)} {ls : jL} {st : List Value} {w : jW} {cb sb : Nat} (h : j_scr i = false) : j_exX b L xs rt post K pc i len x0 ls st w cb sb ↔ j_ex rt post K pc i len x0 ls st w cb sb := by
  cases i <;> first | exact Iff.rfl | cases h
theorem jx_stepX {b L : Nat} {xs : Nat → Int32} {M : jMi} {post : Option Value → jW → Prop} {pc : Nat} {ls : jL} {st : List Value} {w : jW} {cb sb : Nat} {i : Instr} {len : Nat} {x : Option (List Nat)} (hM : j_okT M) (hf : j_fetch (m_T M) pc = some (i, len, x)) (k : j_exX b L xs (m_r M) post (j_SX b L xs M post) pc i len x ls st w cb sb) : j_SX b L xs M post pc ls st w cb sb := by
  by_cases h : j_scr i = false
  · exact jx_step hM hf ((j_exX_no h).mp k)
  · cases i <;> first | exact absurd rfl h | skip
    case iaload =>
      simp only [j_exX] at k
      split at k <;> try exact k.elim
      obtain ⟨rfl, rfl, k1, k2⟩ := k
      exact jx_ld (len := 1) hM hf k1 k2
    case arraylength =>
      simp only [j_exX] at k
      split at k <;> try exact k.elim
      obtain ⟨rfl, rfl, k2⟩ := k
      exact jx_len hM hf k2
theorem j_exX_mono {b L : Nat} {xs : Nat → Int32} {rt : Option FieldType} {post : Option Value → jW → Prop} {K K' : Nat → jL → List Value → jW → Nat → Nat → Prop} (h : ∀ pc ls st w cb sb, K pc ls st w cb sb → K' pc ls st w cb sb) {pc : Nat} {i : Instr} {len : Nat} {x0 : Option (List Nat)} {ls : jL} {st : List Value} {w : jW} {cb sb : Nat} (k : j_exX b L xs rt post K pc i len x0 ls st w cb sb) : j_exX b L xs rt post K' pc i len x0 ls st w cb sb := by
  by_cases hs : j_scr i = false
  · exact (j_exX_no hs).mpr (j_ex_mono h ((j_exX_no hs).mp k))
  · cases i <;> first | exact absurd rfl hs | skip
    case iaload =>
      simp only [j_exX] at k ⊢
      split at k <;> try exact k.elim
      exact ⟨k.1, k.2.1, k.2.2.1, h _ _ _ _ _ _ k.2.2.2⟩
    case arraylength =>
      simp only [j_exX] at k ⊢
      split at k <;> try exact k.elim
      exact ⟨k.1, k.2.1, h _ _ _ _ _ _ k.2.2⟩
def j_goX (b L : Nat) (xs : Nat → Int32) (M : jMi) (post : Option Value → jW → Prop) (cut : List Nat) : Nat → Nat → jL → List Value → jW → Nat → Nat → Prop
  | 0, pc, ls, st, w, cb, sb => j_SX b L xs M post pc ls st w cb sb
  | n + 1, pc, ls, st, w, cb, sb => match j_ft M pc with
    | some (i, len, x) => j_exX b L xs (m_r M) post (fun pc' ls' st' w' cb' sb' => if pc' ∈ cut then j_SX b L xs M post pc' ls' st' w' cb' sb' else j_goX b L xs M post cut n pc' ls' st' w' cb' sb') pc i len x ls st w cb sb
    | none => False
def j_kX (b L : Nat) (xs : Nat → Int32) (M : jMi) (post : Option Value → jW → Prop) (cut : List Nat) (n pc : Nat) (ls : jL) (st : List Value) (w : jW) (cb sb : Nat) : Prop := if pc ∈ cut then j_SX b L xs M post pc ls st w cb sb else j_goX b L xs M post cut n pc ls st w cb sb
theorem j_runsX {b L : Nat} {xs : Nat → Int32} {M : jMi} {post : Option Value → jW → Prop} (cut : List Nat) (hM : j_okT M) : ∀ (n : Nat) {pc : Nat} {ls : jL} {st : List Value} {w : jW} {cb sb : Nat}, j_goX b L xs M post cut n pc ls st w cb sb → j_SX b L xs M post pc ls st w cb sb
  | 0, _, _, _, _, _, _, k => k
  | n + 1, pc, ls, st, w, cb, sb, k => by
    unfold j_goX at k
    split at k
    · rename_i i len x hf
      refine jx_stepX hM hf (j_exX_mono (fun pc' ls' st' w' cb' sb' q => ?_) k)
      split at q
      · exact q
      · exact j_runsX cut hM n q
    · exact k.elim
theorem j_goX_s {b L : Nat} {xs : Nat → Int32} {M : jMi} {post : Option Value → jW → Prop} {cut : List Nat} {n pc : Nat} {ls : jL} {st : List Value} {w : jW} {cb sb : Nat} {i : Instr} {len : Nat} {x : Option (List Nat)} (h : j_ft M pc = some (i, len, x)) (hs : j_scr i = false) : j_goX b L xs M post cut (n + 1) pc ls st w cb sb ↔ j_ex (m_r M) post (j_kX b L xs M post cut n) pc i len x ls st w cb sb := by
  conv => lhs; unfold j_goX
  rw [h]
  exact j_exX_no hs
theorem j_goX_ld {b L : Nat} {xs : Nat → Int32} {M : jMi} {post : Option Value → jW → Prop} {cut : List Nat} {n pc : Nat} {ls : jL} {r : List Value} {a : Nat} {j : Int32} {w : jW} {cb sb : Nat} {x : Option (List Nat)} (h : j_ft M pc = some (.iaload, 1, x)) : j_goX b L xs M post cut (n + 1) pc ls (.int j :: .ref a :: r) w cb sb ↔ a = b ∧ vp_in j L ∧ j_kX b L xs M post cut n (pc + 1) ls (.int (xs j.toNatClampNeg) :: r) w cb sb := by
  conv => lhs; unfold j_goX
  rw [h]
  exact ⟨fun q => ⟨q.1, q.2.2.1, q.2.2.2⟩, fun q => ⟨q.1, rfl, q.2.1, q.2.2⟩⟩
theorem j_goX_len {b L : Nat} {xs : Nat → Int32} {M : jMi} {post : Option Value → jW → Prop} {cut : List Nat} {n pc : Nat} {ls : jL} {r : List Value} {a : Nat} {w : jW} {cb sb : Nat} {x : Option (List Nat)} (h : j_ft M pc = some (.arraylength, 1, x)) : j_goX b L xs M post cut (n + 1) pc ls (.ref a :: r) w cb sb ↔ a = b ∧ j_kX b L xs M post cut n (pc + 1) ls (.int (Int32.ofNat L) :: r) w cb sb := by
  conv => lhs; unfold j_goX
  rw [h]
  exact ⟨fun q => ⟨q.1, q.2.2⟩, fun q => ⟨q.1, rfl, q.2⟩⟩
/-- what a method that reads the script does -/
def j_BX (b L : Nat) (xs : Nat → Int32) (D : va_G) (tc : Nat → ClassId) (w : jW) (sz : Nat) (U : State) : Prop := j_B D tc w sz U ∧ va_X b L xs U U.heap ∧ b < sz
def j_semX (b L : Nat) (xs : Nat → Int32) (M : jMi) (av : List Value) (w : jW) (post : Option Value → jW → Prop) : Prop :=
  ∀ (l : Launch) (D : va_G) (tc : Nat → ClassId) (sz : Nat), Met l (m_y M) (m_ws M) (m_rm M 0 0) (va_Pc av (j_BX b L xs D tc w sz)) (j_Q D tc post (j_fr w sz)) 0 0 (j_fr w sz)
theorem j_blindX {b L : Nat} {xs : Nat → Int32} {D : va_G} {tc : Nat → ClassId} {w : jW} {sz : Nat} {av : List Value} : FrameBlind (va_Pc av (j_BX b L xs D tc w sz)) := fun a U g mk q => ⟨q.1, ⟨q.2.1.1, q.2.1.2.1, q.2.1.2.2.calling⟩, va_X.moved (u := U) (U := U.calling g mk a) (Vm.Alike.refl U.vm) q.2.2.1, q.2.2.2⟩
set_option maxHeartbeats 4000000 in
theorem j_semX_of {b L : Nat} {xs : Nat → Int32} {M : jMi} {av : List Value} {w : jW} {post : Option Value → jW → Prop} (hpl : plainName (m_y M).cls = true) (hlen : (j_sl av).length ≤ m_n M) (hwb : w b = none) (h : j_SX b L xs M post 0 (j_in av (m_n M)) [] w 0 0) : j_semX b L xs M av w post := by
  intro l D tc sz
  refine Met.ofW (cc := m_b M) (maxL := m_n M) (ret := m_r M) hpl rfl ?_
  intro p e s m args below meth c s₁ B hml hv
  obtain ⟨rfl, ⟨hsz, hW, hZ⟩, hXX, hbs⟩ := hv
  subst hsz
  have hx := B.exec
  have hb := B.bytes
  have hr := B.returns
  have hts := atoms_spec (ws := m_ws M) B.pre
  have hown : s.vm.findClass (m_y M).cls = some m.cls := findClass_of_methodNamed B.named
  have hlocks := B.notSynchronized
  have hnm : meth.name = (m_y M).name := (name_of_methodNamed B.named B.method).1
  rw [lg_entry_eq]
  refine h (by simp only [j_in, List.length_append, List.length_replicate]; omega) p l e _ s m _ below meth c _ D tc (j_fr w s.heap.size) 0 0 hXX hbs (by rintro (q | q); exact q hwb; omega) ⟨hx, hb, hml, hown, fun w hw => hts w (List.mem_cons_of_mem _ hw), hZ, fun q h => Or.inr h, fun h => hnm.trans h, Nat.le_refl _, Nat.le_refl _, Nat.le_refl _, Nat.le_refl _⟩ ?_ s.heap [] _ 0 0 (j_entry hlen) (hW.weaken (fun q hq _ => Or.inl hq)) va_S.rf (by omega) (by omega)
  intro v w' H locs cells slots pc arr st hp hrv hW' hS h1 h2
  refine W.widen h1 h2 ?_
  have hq : ∀ t : State, t.heap = H → s.WarmedH t.vm → j_Q D tc post (j_fr w s.heap.size) av.toArray s (.returned v) t := fun t ht _ => ⟨⟨v, w', rfl, hp, by rw [ht]; exact hW'⟩, hS.F ht⟩
  rcases hrv with ⟨rfl, rfl, h3, h4⟩ | ⟨a, ty, rfl, rfl, h3, h5, h4⟩ | ⟨a, rfl, rfl, h3, h4⟩ | ⟨u, t, h5, rfl, rfl, h3, h6, h4⟩
  · exact W.vret hx hb (hr.trans h3) hq hS.2.2 h4
  · exact W.zret hx hb (hr.trans h3) h5 hq hS.2.2 h4
  · exact W.lret hx hb (hr.trans h3) hq hS.2.2 h4
  · exact W.aret hx hb (hr.trans h3) h6 h5 hq hS.2.2 h4
set_option maxHeartbeats 4000000 in
/-- a call of a method that reads the script -/
theorem jx_call {b L : Nat} {xs : Nat → Int32} {M : jMi} {post : Option Value → jW → Prop} {pc : Nat} {ls : jL} {st : List Value} {w : jW} {cb sb idx j n : Nat} {As r : List Value} {post' : Option Value → jW → Prop} (hM : j_okT M) (hf : j_fetch (m_T M) pc = some (.invokestatic idx, 3, some [j, n])) (hs : j_spl n [] st = some (As, r)) (h8 : j_w8 r) (hsem : w b = none → j_semX b L xs (jmt j) As w post') (kk : ∀ v w', post' v w' → j_SX b L xs M post (pc + 3) ls (v.toList ++ r) w' cb sb) : j_SX b L xs M post pc ls st w cb sb := by
  intro hn p l e R s m args below meth c Q D tc A MC MS hX hb hA C Rt
  obtain ⟨hx, hbb, hml, hown, hts, hZ, hAA, hin, hfr, hlo, hMC, hMS⟩ := id C
  have hml' : c.maxLocals = ls.length := hml.trans hn.symm
  obtain ⟨hd, hlk⟩ := hM _ (j_fetch_mem hf)
  obtain ⟨hln, hlk⟩ := hlk _ rfl
  rcases hlk with ⟨hq, -⟩ | ⟨j', n', hq, h1, h2, h3, h4, h5⟩
  · cases hq
  cases hq
  intro H locs arr cells slots hl hW hS q1 q2
  have hwb : w b = none := by
    cases hc : w b with
    | none => rfl
    | some z => exact absurd (hW.in (q := b) (by rw [hc]; simp)) hA
  obtain ⟨e1, e2⟩ := j_spl_ok n [] st As r hs
  have hXH : va_X b L xs s H := hX.kept (hS.2.1 b hb hA)
  have hf : cells + 0 ≤ R.cells ∧ slots + 0 ≤ R.slots := ⟨by omega, by omega⟩
  have hp : PreS s H (va_Pc As (j_BX b L xs D tc w H.size)) As := ⟨j_blindX, fun U hU hw => ⟨rfl, (j_pre (av := As) hW hZ hU hw).2, by rw [hU]; exact hXH.moved hw.alike, Nat.lt_of_lt_of_le hb hS.1⟩⟩
  have hG := j_good h1.1 j_TS_good
  unfold j_w8 at h8
  have hlen : As.length = n := by simpa using e2
  have hR : m_f (jmt j) + 1 ≤ R.frames ∧ 8 + (m_n (jmt j) + 11) + m_l (jmt j) ≤ R.locals := ⟨by omega, by omega⟩
  have hst : st = As.reverse ++ r := by simpa using e1.symm
  have kk' : ∀ v w', post' v w' → j_A p l e R s m args below meth c Q D tc A MC MS (pc + 3) ls (v.toList ++ r) w' (cb - 0) (sb - 0) := fun v w' q => kk v w' q hn p l e R s m args below meth c Q D tc A MC MS hX hb hA C Rt
  rcases j_ml_of hts hZ h3 with h | ⟨host, h⟩
  · exact j_back (a := As.toArray) (post := post') (va_runS ⟨hx, hbb, hml', hown, hts⟩ (hsem hwb l D tc H.size) ⟨callB_of n hts hG rfl rfl rfl (hts _ h1.2.1) h h1.2.2 hR, hts _ h2⟩ hp rfl hlen hl.1 hst (lv_room h8) hd hf) hl hW hS hAA q1 q2 (Nat.zero_le _) (Nat.zero_le _) kk'
  · exact j_back (a := As.toArray) (post := post') (va_runSN ⟨hx, hbb, hml', hown, hts⟩ (hsem hwb l D tc H.size) ⟨va_cnB n hts hG rfl rfl rfl h (hts _ h1.2.1) h1.2.2 hR, hts _ h2, trivial⟩ hp rfl hlen hl.1 hst (lv_room h8) hd hf) hl hW hS hAA q1 q2 (Nat.zero_le _) (Nat.zero_le _) kk'
