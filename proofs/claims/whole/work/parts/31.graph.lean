/-! LEAST SUMS: ways over edges E u v c between eight nodes; trying all edges in at least seven rounds finds the least sums -/
def gW (E : Nat → Nat → Nat → Prop) (s : Nat) : Nat → Nat → Nat → Prop
  | 0, v, a => v = s ∧ a = 0
  | n + 1, v, a => ∃ u b c, gW E s n u b ∧ E u v c ∧ a = b + c
def gR (E : Nat → Nat → Nat → Prop) (s v a : Nat) : Prop := ∃ n, gW E s n v a
theorem gR_0 {E : Nat → Nat → Nat → Prop} {s : Nat} : gR E s s 0 := ⟨0, rfl, rfl⟩
theorem gR_s {E : Nat → Nat → Nat → Prop} {s u v b c : Nat} (h : gR E s u b) (he : E u v c) : gR E s v (b + c) := by
  obtain ⟨n, h⟩ := h
  exact ⟨n + 1, u, b, c, h, he, rfl⟩
theorem gR_cases {E : Nat → Nat → Nat → Prop} {s v a : Nat} (h : gR E s v a) : (v = s ∧ a = 0) ∨ ∃ u b c, gR E s u b ∧ E u v c ∧ a = b + c := by
  obtain ⟨n, h⟩ := h
  cases n with
  | zero => exact Or.inl h
  | succ n =>
    obtain ⟨u, b, c, h1, h2, h3⟩ := h
    exact Or.inr ⟨u, b, c, ⟨n, h1⟩, h2, h3⟩
/-- edges: between nodes below 8, costs 1 .. 50, both ways -/
def gE (E : Nat → Nat → Nat → Prop) : Prop := ∀ u v c, E u v c → u < 8 ∧ v < 8 ∧ 1 ≤ c ∧ c ≤ 50 ∧ E v u c
def gOK (E : Nat → Nat → Nat → Prop) (s : Nat) (G : Nat → Option Nat) : Prop := ∀ v a, G v = some a → gR E s v a
/-- G tells the least sums from s -/
def gD (E : Nat → Nat → Nat → Prop) (s : Nat) (G : Nat → Option Nat) : Prop := gOK E s G ∧ ∀ v a, gR E s v a → ∃ b, G v = some b ∧ b ≤ a
theorem gD_unique {E : Nat → Nat → Nat → Prop} {s : Nat} {G G' : Nat → Option Nat} (h : gD E s G) (h' : gD E s G') (v : Nat) : G v = G' v := by
  cases e : G v with
  | none =>
    cases e' : G' v with
    | none => rfl
    | some b =>
      obtain ⟨a, ha, -⟩ := h.2 v b (h'.1 v b e')
      rw [e] at ha
      cases ha
  | some a =>
    obtain ⟨b, hb, h1⟩ := h'.2 v a (h.1 v a e)
    obtain ⟨a', ha', h2⟩ := h.2 v b (h'.1 v b hb)
    rw [e] at ha'
    cases ha'
    rw [hb]
    congr 1
    omega
/-- how many nodes have a way shorter than a -/
noncomputable def gC (E : Nat → Nat → Nat → Prop) (s a : Nat) : Nat := (List.range 8).countP (fun u => @decide (∃ b, b < a ∧ gR E s u b) (Classical.propDecidable _))
theorem g_countP_lt {p q : Nat → Bool} {l : List Nat} {x : Nat} (hpq : ∀ y, p y = true → q y = true) (hx : x ∈ l) (h1 : p x = false) (h2 : q x = true) : l.countP p < l.countP q := by
  induction l with
  | nil => cases hx
  | cons y l ih =>
    rw [List.countP_cons, List.countP_cons]
    have hm : l.countP p ≤ l.countP q := List.countP_mono_left (fun z _ hz => hpq z hz)
    rcases List.mem_cons.mp hx with e | e
    · subst e
      rw [h1, h2]
      simp
      omega
    · have := ih e
      by_cases hp : p y = true
      · rw [hp, hpq y hp]
        simp
        omega
      · have hp' : p y = false := by simpa using hp
        rw [hp']
        by_cases hq : q y = true
        · rw [hq]; simp; omega
        · have hq' : q y = false := by simpa using hq
          rw [hq']; simp; omega
theorem gC_lt {E : Nat → Nat → Nat → Prop} {s u a b : Nat} (hu : u < 8) (hb : gR E s u b) (hm : ∀ b', gR E s u b' → b ≤ b') (hab : b < a) : gC E s b < gC E s a := by
  refine g_countP_lt (x := u) (fun y hy => ?_) (List.mem_range.mpr hu) ?_ ?_
  · have := @of_decide_eq_true _ (Classical.propDecidable _) hy
    obtain ⟨z, h1, h2⟩ := this
    exact @decide_eq_true _ (Classical.propDecidable _) ⟨z, by omega, h2⟩
  · refine @decide_eq_false _ (Classical.propDecidable _) ?_
    rintro ⟨z, h1, h2⟩
    have := hm z h2
    omega
  · exact @decide_eq_true _ (Classical.propDecidable _) ⟨b, hab, hb⟩
theorem gC_le7 {E : Nat → Nat → Nat → Prop} {s v a : Nat} (hv : v < 8) (hm : ∀ b', gR E s v b' → a ≤ b') : gC E s a ≤ 7 := by
  have h : (List.range 8).countP (fun u => @decide (∃ b, b < a ∧ gR E s u b) (Classical.propDecidable _)) < (List.range 8).countP (fun _ => true) := by
    refine g_countP_lt (x := v) (fun y _ => rfl) (List.mem_range.mpr hv) ?_ rfl
    refine @decide_eq_false _ (Classical.propDecidable _) ?_
    rintro ⟨z, h1, h2⟩
    have := hm z h2
    omega
  have h8 : (List.range 8).countP (fun _ => true) = 8 := by decide
  unfold gC
  omega
/-- a try leaves less or the same -/
theorem rx_mono {G : Nat → Option Nat} {x y c v a : Nat} (h : G v = some a) : ∃ a', rx G x y c v = some a' ∧ a' ≤ a := by
  rcases rx_cases G x y c with e | ⟨b, hb, e, hl⟩
  · rw [e]; exact ⟨a, h, Nat.le_refl _⟩
  · rw [e]
    by_cases hv : v = y
    · subst hv
      exact ⟨b + c, va_up_self _ _ _, Nat.le_of_lt (hl a h)⟩
    · rw [va_up_ne _ _ hv]
      exact ⟨a, h, Nat.le_refl _⟩
theorem rx_reach {G : Nat → Option Nat} {x y c a : Nat} (h : G x = some a) : ∃ a', rx G x y c y = some a' ∧ a' ≤ a + c := by
  rcases hy : G y with _ | b
  · rw [rx_new h hy]; exact ⟨a + c, va_up_self _ _ _, Nat.le_refl _⟩
  · by_cases hl : a + c < b
    · rw [rx_low h hy hl]; exact ⟨a + c, va_up_self _ _ _, Nat.le_refl _⟩
    · rw [rx_high h hy hl]; exact ⟨b, hy, by omega⟩
theorem rx_ok {E : Nat → Nat → Nat → Prop} {s : Nat} {G : Nat → Option Nat} {x y c : Nat} (h : gOK E s G) (he : E x y c) : gOK E s (rx G x y c) := by
  intro v a hv
  rcases rx_cases G x y c with e | ⟨b, hb, e, -⟩
  · rw [e] at hv; exact h v a hv
  · rw [e] at hv
    by_cases hy : v = y
    · subst hy
      rw [va_up_self] at hv
      cases hv
      exact gR_s (h x b hb) he
    · rw [va_up_ne _ _ hy] at hv
      exact h v a hv
/-- a row of tries -/
def rxs (G : Nat → Option Nat) : List (Nat × Nat × Nat) → Nat → Option Nat
  | [] => G
  | e :: r => rxs (rx G e.1 e.2.1 e.2.2) r
theorem rxs_app (G : Nat → Option Nat) (a b : List (Nat × Nat × Nat)) : rxs G (a ++ b) = rxs (rxs G a) b := by
  induction a generalizing G with
  | nil => rfl
  | cons e r ih => exact ih _
theorem rxs_mono {l : List (Nat × Nat × Nat)} : ∀ {G : Nat → Option Nat} {v a : Nat}, G v = some a → ∃ a', rxs G l v = some a' ∧ a' ≤ a := by
  induction l with
  | nil => intro G v a h; exact ⟨a, h, Nat.le_refl _⟩
  | cons e r ih =>
    intro G v a h
    obtain ⟨a1, h1, h2⟩ := rx_mono (x := e.1) (y := e.2.1) (c := e.2.2) h
    obtain ⟨a2, h3, h4⟩ := ih h1
    exact ⟨a2, h3, by omega⟩
theorem rxs_ok {E : Nat → Nat → Nat → Prop} {s : Nat} {l : List (Nat × Nat × Nat)} (hl : ∀ e ∈ l, E e.1 e.2.1 e.2.2) : ∀ {G : Nat → Option Nat}, gOK E s G → gOK E s (rxs G l) := by
  induction l with
  | nil => intro G h; exact h
  | cons e r ih =>
    intro G h
    exact ih (fun x hx => hl x (List.mem_cons_of_mem _ hx)) (rx_ok h (hl e List.mem_cons_self))
theorem rxs_reach {l : List (Nat × Nat × Nat)} {x y c : Nat} (hl : (x, y, c) ∈ l) : ∀ {G : Nat → Option Nat} {a : Nat}, G x = some a → ∃ a', rxs G l y = some a' ∧ a' ≤ a + c := by
  induction l with
  | nil => cases hl
  | cons e r ih =>
    intro G a h
    rcases List.mem_cons.mp hl with q | q
    · subst q
      obtain ⟨a1, h1, h2⟩ := rx_reach (y := y) (c := c) h
      obtain ⟨a2, h3, h4⟩ := rxs_mono (l := r) h1
      exact ⟨a2, h3, by omega⟩
    · obtain ⟨a1, h1, h2⟩ := rx_mono (x := e.1) (y := e.2.1) (c := e.2.2) h
      obtain ⟨a2, h3, h4⟩ := ih q h1
      exact ⟨a2, h3, by omega⟩
/-- all nodes of rank at most t are right -/
def gP (E : Nat → Nat → Nat → Prop) (s : Nat) (G : Nat → Option Nat) (t : Nat) : Prop := ∀ v a, v < 8 → gR E s v a → (∀ a', gR E s v a' → a ≤ a') → gC E s a ≤ t → ∃ b, G v = some b ∧ b ≤ a
theorem gP_0 {E : Nat → Nat → Nat → Prop} {s : Nat} {G : Nat → Option Nat} (hE : gE E) (hs : s < 8) (h : G s = some 0) : gP E s G 0 := by
  intro v a hv ha hm hc
  by_cases h0 : a = 0
  · subst h0
    rcases gR_cases ha with ⟨rfl, -⟩ | ⟨u, b, c, -, h2, h3⟩
    · exact ⟨0, h, Nat.le_refl _⟩
    · have := (hE u v c h2).2.2.1
      omega
  · have := gC_lt (E := E) (s := s) (u := s) (a := a) (b := 0) hs gR_0 (fun _ _ => Nat.zero_le _) (by omega)
    omega
theorem gP_s {E : Nat → Nat → Nat → Prop} {s t : Nat} {G : Nat → Option Nat} {l : List (Nat × Nat × Nat)} (hE : gE E) (hG : gOK E s G) (hl : ∀ u v c, E u v c → (u, v, c) ∈ l) (h : gP E s G t) : gP E s (rxs G l) (t + 1) := by
  intro v a hv ha hm hc
  by_cases h0 : gC E s a ≤ t
  · obtain ⟨b, h1, h2⟩ := h v a hv ha hm h0
    obtain ⟨b', h3, h4⟩ := rxs_mono (l := l) h1
    exact ⟨b', h3, by omega⟩
  · rcases gR_cases ha with ⟨rfl, rfl⟩ | ⟨u, b, c, h1, h2, rfl⟩
    · exfalso
      apply h0
      have : gC E v 0 = 0 := by
        unfold gC
        rw [List.countP_eq_zero]
        intro u _
        simp
      omega
    · obtain ⟨hu, -, hc1, -, -⟩ := hE u v c h2
      have hmb : ∀ b', gR E s u b' → b ≤ b' := fun b' hb' => by
        have := hm _ (gR_s hb' h2)
        omega
      have hlt := gC_lt (a := b + c) hu h1 hmb (by omega)
      obtain ⟨b', h3, h4⟩ := h u b hu h1 hmb (by omega)
      obtain ⟨a', h5, h6⟩ := rxs_reach (hl u v c h2) h3
      exact ⟨a', h5, by omega⟩
theorem g_min {E : Nat → Nat → Nat → Prop} {s v a : Nat} (h : gR E s v a) : ∃ m, m ≤ a ∧ gR E s v m ∧ ∀ a', gR E s v a' → m ≤ a' := by
  obtain ⟨m, h1, h2⟩ := pk_least (fun k => gR E s v k) ⟨a, h⟩
  refine ⟨m, ?_, h1, fun a' h' => ?_⟩
  · rcases Nat.lt_or_ge a m with q | q
    · exact absurd h (h2 a q)
    · exact q
  · rcases Nat.lt_or_ge a' m with q | q
    · exact absurd h' (h2 a' q)
    · exact q
theorem gR_lt {E : Nat → Nat → Nat → Prop} {s v a : Nat} (hE : gE E) (hs : s < 8) (h : gR E s v a) : v < 8 := by
  rcases gR_cases h with ⟨rfl, -⟩ | ⟨u, b, c, -, h2, -⟩
  · exact hs
  · exact (hE u v c h2).2.1
theorem gD_of {E : Nat → Nat → Nat → Prop} {s : Nat} {G : Nat → Option Nat} (hE : gE E) (hs : s < 8) (hG : gOK E s G) (h : gP E s G 7) : gD E s G := by
  refine ⟨hG, fun v a ha => ?_⟩
  have hv := gR_lt hE hs ha
  obtain ⟨m, h1, h2, h3⟩ := g_min ha
  obtain ⟨b, h4, h5⟩ := h v m hv h2 h3 (gC_le7 hv h3)
  exact ⟨b, h4, by omega⟩
/-- n whole rounds, each with its own order -/
def gRn (G : Nat → Option Nat) (l : List (Nat × Nat × Nat)) : Nat → Nat → Option Nat
  | 0 => G
  | n + 1 => rxs (gRn G l n) l
theorem gRn_ok {E : Nat → Nat → Nat → Prop} {s : Nat} {G : Nat → Option Nat} {l : List (Nat × Nat × Nat)} (hl : ∀ e ∈ l, E e.1 e.2.1 e.2.2) (h : gOK E s G) : ∀ n, gOK E s (gRn G l n)
  | 0 => h
  | n + 1 => rxs_ok hl (gRn_ok hl h n)
theorem gRn_P {E : Nat → Nat → Nat → Prop} {s : Nat} {G : Nat → Option Nat} {l : List (Nat × Nat × Nat)} (hE : gE E) (hl : ∀ e ∈ l, E e.1 e.2.1 e.2.2) (hl' : ∀ u v c, E u v c → (u, v, c) ∈ l) (h : gOK E s G) (h0 : gP E s G 0) : ∀ n, gP E s (gRn G l n) n
  | 0 => h0
  | n + 1 => gP_s hE (gRn_ok hl h n) hl' (gRn_P hE hl hl' h h0 n)
theorem gP_le {E : Nat → Nat → Nat → Prop} {s n m : Nat} {G : Nat → Option Nat} (h : gP E s G n) (hm : m ≤ n) : gP E s G m := fun v a hv ha hmi hc => h v a hv ha hmi (by omega)
def g0 (s : Nat) : Nat → Option Nat := fun d => if d = s then some 0 else none
theorem g0_ok {E : Nat → Nat → Nat → Prop} {s : Nat} : gOK E s (g0 s) := by
  intro v a h
  unfold g0 at h
  split at h
  · rename_i e
    cases h
    subst e
    exact gR_0
  · cases h
/-- SEVEN ROUNDS OR MORE: the least sums -/
theorem gD_rounds {E : Nat → Nat → Nat → Prop} {s n : Nat} {l : List (Nat × Nat × Nat)} (hE : gE E) (hs : s < 8) (hl : ∀ e ∈ l, E e.1 e.2.1 e.2.2) (hl' : ∀ u v c, E u v c → (u, v, c) ∈ l) (hn : 7 ≤ n) : gD E s (gRn (g0 s) l n) :=
  gD_of hE hs (gRn_ok hl g0_ok n) (gP_le (gRn_P hE hl hl' g0_ok (gP_0 hE hs (by simp [g0])) n) hn)
/-- the least sums are at most 400 -/
theorem gD_le {E : Nat → Nat → Nat → Prop} {s : Nat} {G : Nat → Option Nat} (hE : gE E) (hs : s < 8) (h : gD E s G) {v a : Nat} (hv : G v = some a) : a ≤ 400 := by
  have key : ∀ n a v, a ≤ n → gR E s v a → (∀ a', gR E s v a' → a ≤ a') → a ≤ 50 * gC E s a := by
    intro n
    induction n with
    | zero => intro a v h0 _ _; omega
    | succ n ih =>
      intro a v h0 ha hm
      rcases gR_cases ha with ⟨-, rfl⟩ | ⟨u, b, c, h1, h2, rfl⟩
      · omega
      · obtain ⟨hu, -, hc1, hc2, -⟩ := hE u v c h2
        have hmb : ∀ b', gR E s u b' → b ≤ b' := fun b' hb' => by
          have := hm _ (gR_s hb' h2)
          omega
        have h5 := ih b u (by omega) h1 hmb
        have h6 := gC_lt (a := b + c) hu h1 hmb (by omega)
        omega
  have hm : ∀ a', gR E s v a' → a ≤ a' := fun a' h' => by
    obtain ⟨b, h1, h2⟩ := h.2 v a' h'
    rw [hv] at h1
    cases h1
    exact h2
  have h1 := key a a v (Nat.le_refl _) (h.1 v a hv) hm
  have h2 := gC_le7 (gR_lt hE hs (h.1 v a hv)) hm
  omega
/-- ways back -/
theorem gR_front {E : Nat → Nat → Nat → Prop} {s u c : Nat} (he : E u s c) : ∀ n v a, gW E s n v a → gR E u v (a + c)
  | 0, v, a, h => by
    obtain ⟨rfl, rfl⟩ := h
    have := gR_s (gR_0 (E := E) (s := u)) he
    exact this
  | n + 1, v, a, h => by
    obtain ⟨z, b, d, h1, h2, rfl⟩ := h
    have := gR_s (gR_front he n z b h1) h2
    rw [show b + d + c = b + c + d by omega]
    exact this
theorem gR_back {E : Nat → Nat → Nat → Prop} (hE : gE E) {s : Nat} : ∀ n v a, gW E s n v a → gR E v s a
  | 0, v, a, h => by
    obtain ⟨rfl, rfl⟩ := h
    exact gR_0
  | n + 1, v, a, h => by
    obtain ⟨z, b, d, h1, h2, rfl⟩ := h
    obtain ⟨m, h3⟩ := gR_back hE n z b h1
    exact gR_front (hE z v d h2).2.2.2.2 m s b h3
theorem gD_sym {E : Nat → Nat → Nat → Prop} (hE : gE E) {s v : Nat} {G G' : Nat → Option Nat} (h : gD E s G) (h' : gD E v G') : G v = G' s := by
  cases e : G v with
  | none =>
    cases e' : G' s with
    | none => rfl
    | some b =>
      obtain ⟨n, hn⟩ := h'.1 s b e'
      obtain ⟨a, ha, -⟩ := h.2 v b (gR_back hE n s b hn)
      rw [e] at ha
      cases ha
  | some a =>
    obtain ⟨n, hn⟩ := h.1 v a e
    obtain ⟨b, hb, h1⟩ := h'.2 s a (gR_back hE n v a hn)
    obtain ⟨m, hm⟩ := h'.1 s b hb
    obtain ⟨a', ha', h2⟩ := h.2 v b (gR_back hE m s b hm)
    rw [e] at ha'
    cases ha'
    rw [hb]
    congr 1
    omega
