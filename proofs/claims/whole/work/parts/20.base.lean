theorem k_nari (x : Int32) : (narrow .int (.int x) = .int x) ↔ True := ⟨fun _ => trivial, fun _ => rfl⟩
theorem k_narz0 : (narrow .boolean (.int (nI 0)) = .int (nI 0)) ↔ True := ⟨fun _ => trivial, fun _ => rfl⟩
theorem k_narz1 : (narrow .boolean (.int (nI 1)) = .int (nI 1)) ↔ True := ⟨fun _ => trivial, fun _ => rfl⟩
theorem k_w8_0 : j_w8 [] ↔ True := ⟨fun _ => trivial, fun _ => by unfold j_w8; decide⟩
theorem k_w8_i (x : Int32) (r : List Value) : j_w8 (.int x :: r) ↔ (r.map fun v => v.category).sum ≤ 7 := by
  unfold j_w8
  rw [List.map_cons, List.sum_cons, j_cat_i]
  omega
theorem k_w8_r (x : Nat) (r : List Value) : j_w8 (.ref x :: r) ↔ (r.map fun v => v.category).sum ≤ 7 := by
  unfold j_w8
  rw [List.map_cons, List.sum_cons, j_cat_r]
  omega
theorem k_w8_l (x : Int64) (r : List Value) : j_w8 (.long x :: r) ↔ (r.map fun v => v.category).sum ≤ 6 := by
  unfold j_w8
  rw [List.map_cons, List.sum_cons, j_cat_l]
  omega
theorem k_sum0 : (([] : List Value).map fun v => v.category).sum = 0 := rfl
theorem k_okv0 (x : Int32) : j_okv 0 (.int x) ↔ True := Iff.rfl
theorem k_okv1 (x : Int32) : j_okv 1 (.int x) ↔ (x = 0 ∨ x = 1) := Iff.rfl
theorem k_okv2 (x : Nat) : j_okv 2 (.ref x) ↔ True := Iff.rfl
theorem k_okv2n : j_okv 2 .null ↔ True := Iff.rfl
theorem k_okv3 (x : Int64) : j_okv 3 (.long x) ↔ True := Iff.rfl
theorem k_mod (a d : Nat) : a - a / d * d = a % d := by
  rw [Nat.mod_eq_sub_div_mul]
theorem k_nb {b : Nat} (h : b ≤ 1) : vp_nar .boolean (nI b) = nI b := by
  have : b = 0 ∨ b = 1 := by omega
  rcases this with rfl | rfl <;> rfl
theorem j_up_up (w : jW) (a : Nat) (e e' : jE) : j_up (j_up w a e) a e' = j_up w a e' := bx_uu _ _ _ _
