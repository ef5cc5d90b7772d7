/-! THE CLASS'S WORLD over the reference's numbers S, the rings X, the bits B, the chart's rows A -/
def cAl (S : Nat → Nat → Nat) (k i : Nat) : Prop := match k with
  | 0 => i = 0
  | 1 => i = 0
  | 2 => i < 8
  | 3 => i < 8
  | 4 => i < 8
  | 5 => i = 0
  | 6 => i < S 1 0
  | 7 => i < 2 * S 1 0
  | 8 => i < 2 * S 1 0
  | 9 => i = 0
  | 10 => i < S 18 0
  | 11 => i < S 18 0
  | 12 => i = 0
  | 13 => i < S 22 0
  | 14 => i = 0
  | 15 => i = 0
  | 16 => i = 0
  | 17 => i = 0
  | 18 => 1 ≤ i ∧ i ≤ S 8 0
  | 19 => 1 ≤ i ∧ i ≤ S 8 0
  | _ => False
def cRow (n : Nat) (g : Nat → Nat) : Nat → Option Nat := fun j => if j < n then some (g j) else none
def cAds (n : Nat) (f : Nat → Nat) (ad : Nat → Nat) : Nat → Option Nat := fun j => if j < n ∧ ¬ f j = 0 then some (ad (f j)) else none
def cPre (n : Nat) (f : Nat → Nat) : Nat → Int32 := fun j => if j < n then nI (enc (f j)) else 0
def cCt (S X : Nat → Nat → Nat) (B : Nat → Nat → Int64) (A : Nat → Nat → Int32) (ad : Nat → Nat → Nat) (k i : Nat) : jE := match k with
  | 0 => .inr (0, [.int (nI (S 0 0)), .ref (ad 1 0), .ref (ad 5 0), .ref (ad 9 0), .ref (ad 12 0), .ref (ad 14 0), .int (nI (S 1 0)), .int (nI (S 18 0)), .int (nI (S 22 0))])
  | 1 => .inl (3, 8, qA (cRow 8 (ad 2)))
  | 2 => .inr (1, [.ref (ad 3 i), .ref (ad 4 i), .int (nI (S 6 i)), .int (nI (S 14 i))])
  | 3 => .inl (0, 3, .inl (cPre 3 (fun j => S 7 (3 * i + j))))
  | 4 => .inl (7, 8, qA (cAds 8 (fun j => S 15 (8 * i + j)) (ad 18)))
  | 5 => .inl (4, 12, qA (cRow (S 1 0) (ad 6)))
  | 6 => .inr (2, [.int (nI (S 2 (2 * i))), .int (nI (S 2 (2 * i + 1))), .int (nI (S 3 i)), .int (nI (S 4 i)), .ref (ad 7 (2 * i)), .ref (ad 7 (2 * i + 1)), .int (nI (S 5 i))])
  | 7 => .inr (3, [.ref (ad 8 i), .int (nI (X 0 i)), .int (nI (S 16 i))])
  | 8 => .inl (7, 20, qA (cAds 20 (fun j => X 1 (20 * i + j)) (ad 18)))
  | 9 => .inl (5, 12, qA (cRow (S 18 0) (ad 10)))
  | 10 => .inr (6, [.int (nI (S 20 (i + 1))), .int (nI (S 21 (i + 1))), .ref (ad 11 i)])
  | 11 => .inl (2, 64, .inr (.inl (B i)))
  | 12 => .inl (6, 80, qA (cRow (S 22 0) (ad 13)))
  | 13 => .inr (7, [.int (nI (S 23 (6 * (i + 1)))), .int (nI (S 23 (6 * (i + 1) + 1))), .int (nI (S 23 (6 * (i + 1) + 2))), .int (nI (S 23 (6 * (i + 1) + 3))), .int (nI (S 23 (6 * (i + 1) + 4))), .int (nI (S 23 (6 * (i + 1) + 5)))])
  | 14 => .inr (5, [.ref (ad 15 0), .ref (ad 16 0), .ref (ad 17 0)])
  | 15 => .inl (0, 8, .inl (A 15))
  | 16 => .inl (0, 8, .inl (A 16))
  | 17 => .inl (1, 12, .inl (A 17))
  | 18 => .inr (4, [.int (nI (S 9 i)), .int (nI (S 10 i)), .int (nI (S 11 i)), .ref (ad 19 i)])
  | _ => .inl (0, S 12 i, .inl (cPre (S 12 i) (fun j => S 13 (3 * i + j))))
noncomputable def cW (S X : Nat → Nat → Nat) (B : Nat → Nat → Int64) (A : Nat → Nat → Int32) (ad : Nat → Nat → Nat) : jW := nW (cAl S) ad (cCt S X B A ad)
theorem cg0 {S X : Nat → Nat → Nat} {B : Nat → Nat → Int64} {A : Nat → Nat → Int32} {ad : Nat → Nat → Nat} (hI : n_inj (cAl S) ad) : cW S X B A ad (ad 0 0) = some (.inr (0, [.int (nI (S 0 0)), .ref (ad 1 0), .ref (ad 5 0), .ref (ad 9 0), .ref (ad 12 0), .ref (ad 14 0), .int (nI (S 1 0)), .int (nI (S 18 0)), .int (nI (S 22 0))])) := nW_get _ hI (show cAl S 0 0 from rfl)
theorem cg1 {S X : Nat → Nat → Nat} {B : Nat → Nat → Int64} {A : Nat → Nat → Int32} {ad : Nat → Nat → Nat} (hI : n_inj (cAl S) ad) : cW S X B A ad (ad 1 0) = some (.inl (3, 8, qA (cRow 8 (ad 2)))) := nW_get _ hI (show cAl S 1 0 from rfl)
theorem cg2 {S X : Nat → Nat → Nat} {B : Nat → Nat → Int64} {A : Nat → Nat → Int32} {ad : Nat → Nat → Nat} {i : Nat} (hI : n_inj (cAl S) ad) (h : i < 8) : cW S X B A ad (ad 2 i) = some (.inr (1, [.ref (ad 3 i), .ref (ad 4 i), .int (nI (S 6 i)), .int (nI (S 14 i))])) := nW_get _ hI (show cAl S 2 i from h)
theorem cg3 {S X : Nat → Nat → Nat} {B : Nat → Nat → Int64} {A : Nat → Nat → Int32} {ad : Nat → Nat → Nat} {i : Nat} (hI : n_inj (cAl S) ad) (h : i < 8) : cW S X B A ad (ad 3 i) = some (.inl (0, 3, .inl (cPre 3 (fun j => S 7 (3 * i + j))))) := nW_get _ hI (show cAl S 3 i from h)
theorem cg4 {S X : Nat → Nat → Nat} {B : Nat → Nat → Int64} {A : Nat → Nat → Int32} {ad : Nat → Nat → Nat} {i : Nat} (hI : n_inj (cAl S) ad) (h : i < 8) : cW S X B A ad (ad 4 i) = some (.inl (7, 8, qA (cAds 8 (fun j => S 15 (8 * i + j)) (ad 18)))) := nW_get _ hI (show cAl S 4 i from h)
theorem cg5 {S X : Nat → Nat → Nat} {B : Nat → Nat → Int64} {A : Nat → Nat → Int32} {ad : Nat → Nat → Nat} (hI : n_inj (cAl S) ad) : cW S X B A ad (ad 5 0) = some (.inl (4, 12, qA (cRow (S 1 0) (ad 6)))) := nW_get _ hI (show cAl S 5 0 from rfl)
theorem cg6 {S X : Nat → Nat → Nat} {B : Nat → Nat → Int64} {A : Nat → Nat → Int32} {ad : Nat → Nat → Nat} {i : Nat} (hI : n_inj (cAl S) ad) (h : i < S 1 0) : cW S X B A ad (ad 6 i) = some (.inr (2, [.int (nI (S 2 (2 * i))), .int (nI (S 2 (2 * i + 1))), .int (nI (S 3 i)), .int (nI (S 4 i)), .ref (ad 7 (2 * i)), .ref (ad 7 (2 * i + 1)), .int (nI (S 5 i))])) := nW_get _ hI (show cAl S 6 i from h)
theorem cg7 {S X : Nat → Nat → Nat} {B : Nat → Nat → Int64} {A : Nat → Nat → Int32} {ad : Nat → Nat → Nat} {i : Nat} (hI : n_inj (cAl S) ad) (h : i < 2 * S 1 0) : cW S X B A ad (ad 7 i) = some (.inr (3, [.ref (ad 8 i), .int (nI (X 0 i)), .int (nI (S 16 i))])) := nW_get _ hI (show cAl S 7 i from h)
theorem cg8 {S X : Nat → Nat → Nat} {B : Nat → Nat → Int64} {A : Nat → Nat → Int32} {ad : Nat → Nat → Nat} {i : Nat} (hI : n_inj (cAl S) ad) (h : i < 2 * S 1 0) : cW S X B A ad (ad 8 i) = some (.inl (7, 20, qA (cAds 20 (fun j => X 1 (20 * i + j)) (ad 18)))) := nW_get _ hI (show cAl S 8 i from h)
theorem cg9 {S X : Nat → Nat → Nat} {B : Nat → Nat → Int64} {A : Nat → Nat → Int32} {ad : Nat → Nat → Nat} (hI : n_inj (cAl S) ad) : cW S X B A ad (ad 9 0) = some (.inl (5, 12, qA (cRow (S 18 0) (ad 10)))) := nW_get _ hI (show cAl S 9 0 from rfl)
theorem cg10 {S X : Nat → Nat → Nat} {B : Nat → Nat → Int64} {A : Nat → Nat → Int32} {ad : Nat → Nat → Nat} {i : Nat} (hI : n_inj (cAl S) ad) (h : i < S 18 0) : cW S X B A ad (ad 10 i) = some (.inr (6, [.int (nI (S 20 (i + 1))), .int (nI (S 21 (i + 1))), .ref (ad 11 i)])) := nW_get _ hI (show cAl S 10 i from h)
theorem cg11 {S X : Nat → Nat → Nat} {B : Nat → Nat → Int64} {A : Nat → Nat → Int32} {ad : Nat → Nat → Nat} {i : Nat} (hI : n_inj (cAl S) ad) (h : i < S 18 0) : cW S X B A ad (ad 11 i) = some (.inl (2, 64, .inr (.inl (B i)))) := nW_get _ hI (show cAl S 11 i from h)
theorem cg12 {S X : Nat → Nat → Nat} {B : Nat → Nat → Int64} {A : Nat → Nat → Int32} {ad : Nat → Nat → Nat} (hI : n_inj (cAl S) ad) : cW S X B A ad (ad 12 0) = some (.inl (6, 80, qA (cRow (S 22 0) (ad 13)))) := nW_get _ hI (show cAl S 12 0 from rfl)
theorem cg13 {S X : Nat → Nat → Nat} {B : Nat → Nat → Int64} {A : Nat → Nat → Int32} {ad : Nat → Nat → Nat} {i : Nat} (hI : n_inj (cAl S) ad) (h : i < S 22 0) : cW S X B A ad (ad 13 i) = some (.inr (7, [.int (nI (S 23 (6 * (i + 1)))), .int (nI (S 23 (6 * (i + 1) + 1))), .int (nI (S 23 (6 * (i + 1) + 2))), .int (nI (S 23 (6 * (i + 1) + 3))), .int (nI (S 23 (6 * (i + 1) + 4))), .int (nI (S 23 (6 * (i + 1) + 5)))])) := nW_get _ hI (show cAl S 13 i from h)
theorem cg14 {S X : Nat → Nat → Nat} {B : Nat → Nat → Int64} {A : Nat → Nat → Int32} {ad : Nat → Nat → Nat} (hI : n_inj (cAl S) ad) : cW S X B A ad (ad 14 0) = some (.inr (5, [.ref (ad 15 0), .ref (ad 16 0), .ref (ad 17 0)])) := nW_get _ hI (show cAl S 14 0 from rfl)
theorem cg15 {S X : Nat → Nat → Nat} {B : Nat → Nat → Int64} {A : Nat → Nat → Int32} {ad : Nat → Nat → Nat} (hI : n_inj (cAl S) ad) : cW S X B A ad (ad 15 0) = some (.inl (0, 8, .inl (A 15))) := nW_get _ hI (show cAl S 15 0 from rfl)
theorem cg16 {S X : Nat → Nat → Nat} {B : Nat → Nat → Int64} {A : Nat → Nat → Int32} {ad : Nat → Nat → Nat} (hI : n_inj (cAl S) ad) : cW S X B A ad (ad 16 0) = some (.inl (0, 8, .inl (A 16))) := nW_get _ hI (show cAl S 16 0 from rfl)
theorem cg17 {S X : Nat → Nat → Nat} {B : Nat → Nat → Int64} {A : Nat → Nat → Int32} {ad : Nat → Nat → Nat} (hI : n_inj (cAl S) ad) : cW S X B A ad (ad 17 0) = some (.inl (1, 12, .inl (A 17))) := nW_get _ hI (show cAl S 17 0 from rfl)
theorem cg18 {S X : Nat → Nat → Nat} {B : Nat → Nat → Int64} {A : Nat → Nat → Int32} {ad : Nat → Nat → Nat} {i : Nat} (hI : n_inj (cAl S) ad) (h1 : 1 ≤ i) (h2 : i ≤ S 8 0) : cW S X B A ad (ad 18 i) = some (.inr (4, [.int (nI (S 9 i)), .int (nI (S 10 i)), .int (nI (S 11 i)), .ref (ad 19 i)])) := nW_get _ hI (show cAl S 18 i from ⟨h1, h2⟩)
theorem cg19 {S X : Nat → Nat → Nat} {B : Nat → Nat → Int64} {A : Nat → Nat → Int32} {ad : Nat → Nat → Nat} {i : Nat} (hI : n_inj (cAl S) ad) (h1 : 1 ≤ i) (h2 : i ≤ S 8 0) : cW S X B A ad (ad 19 i) = some (.inl (0, S 12 i, .inl (cPre (S 12 i) (fun j => S 13 (3 * i + j))))) := nW_get _ hI (show cAl S 19 i from ⟨h1, h2⟩)
/-- what cW looks at -/
theorem cCt_congr {S S' X X' : Nat → Nat → Nat} {B B' : Nat → Nat → Int64} {A A' : Nat → Nat → Int32} {ad : Nat → Nat → Nat} {k i : Nat} (h : ∀ z, z ≠ 8 → z ≠ 17 → z ≠ 19 → S' z = S z) (hX : k = 7 ∨ k = 8 → X' = X) (hB : k = 11 → B' = B) (hA : k = 15 ∨ k = 16 ∨ k = 17 → A' k = A k) : cCt S' X' B' A' ad k i = cCt S X B A ad k i := by
  have e0 := h 0 (by decide) (by decide) (by decide)
  have e1 := h 1 (by decide) (by decide) (by decide)
  have e2 := h 2 (by decide) (by decide) (by decide)
  have e3 := h 3 (by decide) (by decide) (by decide)
  have e4 := h 4 (by decide) (by decide) (by decide)
  have e5 := h 5 (by decide) (by decide) (by decide)
  have e6 := h 6 (by decide) (by decide) (by decide)
  have e7 := h 7 (by decide) (by decide) (by decide)
  have e9 := h 9 (by decide) (by decide) (by decide)
  have e10 := h 10 (by decide) (by decide) (by decide)
  have e11 := h 11 (by decide) (by decide) (by decide)
  have e12 := h 12 (by decide) (by decide) (by decide)
  have e13 := h 13 (by decide) (by decide) (by decide)
  have e14 := h 14 (by decide) (by decide) (by decide)
  have e15 := h 15 (by decide) (by decide) (by decide)
  have e16 := h 16 (by decide) (by decide) (by decide)
  have e18 := h 18 (by decide) (by decide) (by decide)
  have e20 := h 20 (by decide) (by decide) (by decide)
  have e21 := h 21 (by decide) (by decide) (by decide)
  have e22 := h 22 (by decide) (by decide) (by decide)
  have e23 := h 23 (by decide) (by decide) (by decide)
  unfold cCt
  split <;> (try simp only [e0, e1, e2, e3, e4, e5, e6, e7, e9, e10, e11, e12, e13, e14, e15, e16, e18, e20, e21, e22, e23])
  · rw [hX (Or.inl rfl)]
  · rw [hX (Or.inr rfl)]
  · rw [hB rfl]
  · rw [hA (Or.inl rfl)]
  · rw [hA (Or.inr (Or.inl rfl))]
  · rw [hA (Or.inr (Or.inr rfl))]
theorem cAl_congr {S S' : Nat → Nat → Nat} (h1 : S' 1 0 = S 1 0) (h8 : S' 8 0 = S 8 0) (h18 : S' 18 0 = S 18 0) (h22 : S' 22 0 = S 22 0) (k i : Nat) : cAl S' k i ↔ cAl S k i := by
  unfold cAl
  split <;> first | exact Iff.rfl | rw [h1] | rw [h8] | rw [h18] | rw [h22]
theorem n_inj_congr {al al' : Nat → Nat → Prop} {ad : Nat → Nat → Nat} (h : ∀ k i, al' k i → al k i) (hI : n_inj al ad) : n_inj al' ad := fun k i k' i' h1 h2 e => hI k i k' i' (h k i h1) (h k' i' h2) e
/-- numbers that the class does not hold may differ -/
theorem cW_congr {S S' X : Nat → Nat → Nat} {B : Nat → Nat → Int64} {A : Nat → Nat → Int32} {ad : Nat → Nat → Nat} (hI : n_inj (cAl S) ad) (h : ∀ z, z ≠ 17 → z ≠ 19 → S' z = S z) : cW S X B A ad = cW S' X B A ad := by
  have al := cAl_congr (S := S) (S' := S') (by rw [h 1 (by decide) (by decide)]) (by rw [h 8 (by decide) (by decide)]) (by rw [h 18 (by decide) (by decide)]) (by rw [h 22 (by decide) (by decide)])
  exact nW_congr hI (fun k i => (al k i).symm) (fun _ _ _ => rfl) (fun k i _ => (cCt_congr (fun z _ h2 h3 => h z h2 h3) (fun _ => rfl) (fun _ => rfl) (fun _ => rfl)).symm)
