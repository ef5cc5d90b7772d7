set_option maxRecDepth 100000 in
set_option maxHeartbeats 8000000 in
theorem st_cell {b L : Nat} {xs : Nat → Int32} {post : Option Value → jW → Prop} {cut : List Nat} {n : Nat} {ls : jL} {w : jW} {cb sb : Nat} : (∀ (r : List Value), j_goX b L xs m_Law_cell post cut (n + 1) 0 ls r w cb sb ↔ g_ld ls[1]? (fun v => t_i v ∧ j_kX b L xs m_Law_cell post cut n 1 ls (v :: r) w cb sb)) ∧
  (∀ (r : List Value), j_goX b L xs m_Law_cell post cut (n + 1) 1 ls r w cb sb ↔ g_ld ls[0]? (fun v => t_a v ∧ j_kX b L xs m_Law_cell post cut n 2 ls (v :: r) w cb sb)) ∧
  (∀ (r : List Value) (a : Nat), j_goX b L xs m_Law_cell post cut (n + 1) 2 ls (.ref a :: r) w cb sb ↔ a = b ∧ j_kX b L xs m_Law_cell post cut n 3 ls (.int (Int32.ofNat L) :: r) w cb sb) ∧
  (∀ (r : List Value) (a z : Int32), j_goX b L xs m_Law_cell post cut (n + 1) 3 ls (.int z :: .int a :: r) w cb sb ↔ (z ≤ a → j_kX b L xs m_Law_cell post cut n 12 ls r w cb sb) ∧ (¬ (z ≤ a) → j_kX b L xs m_Law_cell post cut n 6 ls r w cb sb)) ∧
  (∀ (r : List Value), j_goX b L xs m_Law_cell post cut (n + 1) 6 ls r w cb sb ↔ g_ld ls[0]? (fun v => t_a v ∧ j_kX b L xs m_Law_cell post cut n 7 ls (v :: r) w cb sb)) ∧
  (∀ (r : List Value), j_goX b L xs m_Law_cell post cut (n + 1) 7 ls r w cb sb ↔ g_ld ls[1]? (fun v => t_i v ∧ j_kX b L xs m_Law_cell post cut n 8 ls (v :: r) w cb sb)) ∧
  (∀ (r : List Value) (a : Nat) (j : Int32), j_goX b L xs m_Law_cell post cut (n + 1) 8 ls (.int j :: .ref a :: r) w cb sb ↔ a = b ∧ vp_in j L ∧ j_kX b L xs m_Law_cell post cut n 9 ls (.int (xs j.toNatClampNeg) :: r) w cb sb) ∧
  (∀ (r : List Value), j_goX b L xs m_Law_cell post cut (n + 1) 9 ls r w cb sb ↔ j_kX b L xs m_Law_cell post cut n 13 ls r w cb sb) ∧
  (∀ (r : List Value), j_goX b L xs m_Law_cell post cut (n + 1) 12 ls r w cb sb ↔ j_kX b L xs m_Law_cell post cut n 13 ls (.int (Int32.ofInt 0) :: r) w cb sb) ∧
  (∀ (a : Int32), j_goX b L xs m_Law_cell post cut (n + 1) 13 ls [.int a] w cb sb ↔ narrow .int (.int a) = .int a ∧ post (some (.int a)) w) := ⟨fun _ => (j_goX_s rfl rfl).trans e_iload_n,
  fun _ => (j_goX_s rfl rfl).trans e_aload_n,
  fun _ _ => j_goX_len rfl,
  fun _ _ _ => (j_goX_s rfl rfl).trans e_icmp,
  fun _ => (j_goX_s rfl rfl).trans e_aload_n,
  fun _ => (j_goX_s rfl rfl).trans e_iload_n,
  fun _ _ _ => j_goX_ld rfl,
  fun _ => (j_goX_s rfl rfl).trans e_goto,
  fun _ => (j_goX_s rfl rfl).trans e_iconst,
  fun _ => (j_goX_s rfl rfl).trans e_iret⟩
set_option maxRecDepth 100000 in
set_option maxHeartbeats 8000000 in
theorem st_law_h {b L : Nat} {xs : Nat → Int32} {post : Option Value → jW → Prop} {cut : List Nat} {n : Nat} {ls : jL} {w : jW} {cb sb : Nat} : (∀ (r : List Value), j_goX b L xs M_law post cut (n + 1) 0 ls r w cb sb ↔ 1 ≤ cb ∧ 9 ≤ sb ∧ ∀ a, w a = none → j_kX b L xs M_law post cut n 3 ls (.ref a :: r) ((j_up w a (.inr (0, [.int 0, .null, .null, .null, .null, .null, .int 0, .int 0, .int 0])))) ((cb - 1)) ((sb - 9))) ∧
  (∀ (r : List Value) (v : Value), j_goX b L xs M_law post cut (n + 1) 3 ls (v :: r) w cb sb ↔ v.category = 1 ∧ j_kX b L xs M_law post cut n 4 ls (v :: v :: r) w cb sb) ∧
  (∀ (r : List Value), j_goX b L xs M_law post cut (n + 1) 4 ls r w cb sb ↔ g_ld ls[0]? (fun v => t_a v ∧ j_kX b L xs M_law post cut n 5 ls (v :: r) w cb sb)) ∧
  (∀ (r : List Value), j_goX b L xs M_law post cut (n + 1) 5 ls r w cb sb ↔ j_kX b L xs M_law post cut n 6 ls (.int (Int32.ofInt 0) :: r) w cb sb) ∧
  (∀ (r : List Value) (a0 : Value) (z : Nat), j_goX b L xs M_law post cut (n + 1) 9 ls (a0 :: .ref z :: r) w cb sb ↔ j_w8 r ∧ g_call (jmt 0) [.ref z, a0] w cb sb (fun v w' c s => j_kX b L xs M_law post cut n 12 ls (v.toList ++ r) w' c s)) ∧
  (∀ (r : List Value) (v : Value), j_goX b L xs M_law post cut (n + 1) 12 ls (v :: r) w cb sb ↔ (t_a v ∧ j_ok1 ls 1 = true) ∧ j_kX b L xs M_law post cut n 13 (ls.set 1 (some v)) r w cb sb) ∧
  (∀ (r : List Value), j_goX b L xs M_law post cut (n + 1) 13 ls r w cb sb ↔ 1 ≤ cb ∧ 25 ≤ sb ∧ ∀ a, w a = none → j_kX b L xs M_law post cut n 16 ls (.ref a :: r) ((j_up w a (.inr (8, [.int 0, .int 0, .null, .null, .null, .null, .null, .null, .int 0, .null, .null, .null, .null, .null, .null, .null, .null, .null, .int 0, .null, .null, .null, .int 0, .null, .null])))) ((cb - 1)) ((sb - 25))) ∧
  (∀ (r : List Value) (v : Value), j_goX b L xs M_law post cut (n + 1) 16 ls (v :: r) w cb sb ↔ v.category = 1 ∧ j_kX b L xs M_law post cut n 17 ls (v :: v :: r) w cb sb) ∧
  (∀ (r : List Value), j_goX b L xs M_law post cut (n + 1) 17 ls r w cb sb ↔ g_ld ls[0]? (fun v => t_a v ∧ j_kX b L xs M_law post cut n 18 ls (v :: r) w cb sb)) ∧
  (∀ (r : List Value), j_goX b L xs M_law post cut (n + 1) 18 ls r w cb sb ↔ j_kX b L xs M_law post cut n 19 ls (.int (Int32.ofInt 0) :: r) w cb sb) ∧
  (∀ (r : List Value) (a0 : Value) (z : Nat), j_goX b L xs M_law post cut (n + 1) 22 ls (a0 :: .ref z :: r) w cb sb ↔ j_w8 r ∧ g_call (jmt 80) [.ref z, a0] w cb sb (fun v w' c s => j_kX b L xs M_law post cut n 25 ls (v.toList ++ r) w' c s)) ∧
  (∀ (r : List Value) (v : Value), j_goX b L xs M_law post cut (n + 1) 25 ls (v :: r) w cb sb ↔ (t_a v ∧ j_ok1 ls 2 = true) ∧ j_kX b L xs M_law post cut n 26 (ls.set 2 (some v)) r w cb sb) ∧
  (∀ (r : List Value), j_goX b L xs M_law post cut (n + 1) 26 ls r w cb sb ↔ j_kX b L xs M_law post cut n 27 ls (.int (Int32.ofInt 1) :: r) w cb sb) ∧
  (∀ (r : List Value) (x : Int32), j_goX b L xs M_law post cut (n + 1) 27 ls (.int x :: r) w cb sb ↔ j_ok1 ls 3 = true ∧ j_kX b L xs M_law post cut n 28 (ls.set 3 (some (.int x))) r w cb sb) ∧
  (∀ (r : List Value), j_goX b L xs M_law post cut (n + 1) 28 ls r w cb sb ↔ g_ld ls[3]? (fun v => t_i v ∧ j_kX b L xs M_law post cut n 29 ls (v :: r) w cb sb)) ∧
  (∀ (r : List Value), j_goX b L xs M_law post cut (n + 1) 29 ls r w cb sb ↔ g_ld ls[0]? (fun v => t_a v ∧ j_kX b L xs M_law post cut n 30 ls (v :: r) w cb sb)) ∧
  (∀ (r : List Value) (a : Nat), j_goX b L xs M_law post cut (n + 1) 30 ls (.ref a :: r) w cb sb ↔ a = b ∧ j_kX b L xs M_law post cut n 31 ls (.int (Int32.ofNat L) :: r) w cb sb) ∧
  (∀ (r : List Value), j_goX b L xs M_law post cut (n + 1) 31 ls r w cb sb ↔ j_kX b L xs M_law post cut n 32 ls (.int (Int32.ofInt 5) :: r) w cb sb) ∧
  (∀ (r : List Value) (x y : Int32), j_goX b L xs M_law post cut (n + 1) 32 ls (.int y :: .int x :: r) w cb sb ↔ j_kX b L xs M_law post cut n 33 ls (.int (x - y) :: r) w cb sb) ∧
  (∀ (r : List Value) (a z : Int32), j_goX b L xs M_law post cut (n + 1) 33 ls (.int z :: .int a :: r) w cb sb ↔ (z < a → j_kX b L xs M_law post cut n 781 ls r w cb sb) ∧ (¬ (z < a) → j_kX b L xs M_law post cut n 36 ls r w cb sb)) ∧
  (∀ (r : List Value), j_goX b L xs M_law post cut (n + 1) 36 ls r w cb sb ↔ g_ld ls[0]? (fun v => t_a v ∧ j_kX b L xs M_law post cut n 37 ls (v :: r) w cb sb)) ∧
  (∀ (r : List Value), j_goX b L xs M_law post cut (n + 1) 37 ls r w cb sb ↔ g_ld ls[3]? (fun v => t_i v ∧ j_kX b L xs M_law post cut n 38 ls (v :: r) w cb sb)) ∧
  (∀ (r : List Value) (a : Nat) (j : Int32), j_goX b L xs M_law post cut (n + 1) 38 ls (.int j :: .ref a :: r) w cb sb ↔ a = b ∧ vp_in j L ∧ j_kX b L xs M_law post cut n 39 ls (.int (xs j.toNatClampNeg) :: r) w cb sb) ∧
  (∀ (r : List Value), j_goX b L xs M_law post cut (n + 1) 39 ls r w cb sb ↔ j_kX b L xs M_law post cut n 41 ls (.int (Int8.ofInt 31).toInt32 :: r) w cb sb) ∧
  (∀ (r : List Value) (x y : Int32), j_goX b L xs M_law post cut (n + 1) 41 ls (.int y :: .int x :: r) w cb sb ↔ j_kX b L xs M_law post cut n 42 ls (.int (x &&& y) :: r) w cb sb) ∧
  (∀ (r : List Value) (a : Int32), j_goX b L xs M_law post cut (n + 1) 42 ls (.int a :: r) w cb sb ↔ (a.toInt < 0 ∨ 18 < a.toInt → j_kX b L xs M_law post cut n 775 ls r w cb sb) ∧ j_sw (fun t => j_kX b L xs M_law post cut n t ls r w cb sb) 42 a.toInt 0 [90, 143, 166, 189, 212, 255, 288, 321, 354, 423, 446, 469, 492, 525, 558, 591, 624, 657, 690]) ∧
  (∀ (r : List Value), j_goX b L xs M_law post cut (n + 1) 775 ls r w cb sb ↔ g_ld ls[3]? (fun v => (match v with
      | .int x => j_ok1 ls 3 = true ∧ j_kX b L xs M_law post cut n 778 (ls.set 3 (some (.int (x + Int32.ofInt 5)))) r w cb sb
      | _ => False))) ∧
  (∀ (r : List Value), j_goX b L xs M_law post cut (n + 1) 778 ls r w cb sb ↔ j_kX b L xs M_law post cut n 28 ls r w cb sb) ∧
  (∀ (r : List Value), j_goX b L xs M_law post cut (n + 1) 781 ls r w cb sb ↔ j_kX b L xs M_law post cut n 782 ls (.int (Int32.ofInt 1) :: r) w cb sb) ∧
  (∀ (a : Int32), j_goX b L xs M_law post cut (n + 1) 782 ls [.int a] w cb sb ↔ narrow .boolean (.int a) = .int a ∧ post (some (.int a)) w) := ⟨fun _ => (j_goX_s rfl rfl).trans e_new,
  fun _ _ => (j_goX_s rfl rfl).trans e_dup,
  fun _ => (j_goX_s rfl rfl).trans e_aload_n,
  fun _ => (j_goX_s rfl rfl).trans e_iconst,
  fun _ _ _ => (j_goX_s rfl rfl).trans e_calli,
  fun _ _ => (j_goX_s rfl rfl).trans e_astore_n,
  fun _ => (j_goX_s rfl rfl).trans e_new,
  fun _ _ => (j_goX_s rfl rfl).trans e_dup,
  fun _ => (j_goX_s rfl rfl).trans e_aload_n,
  fun _ => (j_goX_s rfl rfl).trans e_iconst,
  fun _ _ _ => (j_goX_s rfl rfl).trans e_calli,
  fun _ _ => (j_goX_s rfl rfl).trans e_astore_n,
  fun _ => (j_goX_s rfl rfl).trans e_iconst,
  fun _ _ => (j_goX_s rfl rfl).trans e_istore_n,
  fun _ => (j_goX_s rfl rfl).trans e_iload_n,
  fun _ => (j_goX_s rfl rfl).trans e_aload_n,
  fun _ _ => j_goX_len rfl,
  fun _ => (j_goX_s rfl rfl).trans e_iconst,
  fun _ _ _ => (j_goX_s rfl rfl).trans e_isub,
  fun _ _ _ => (j_goX_s rfl rfl).trans e_icmp,
  fun _ => (j_goX_s rfl rfl).trans e_aload_n,
  fun _ => (j_goX_s rfl rfl).trans e_iload_n,
  fun _ _ _ => j_goX_ld rfl,
  fun _ => (j_goX_s rfl rfl).trans e_bipush,
  fun _ _ _ => (j_goX_s rfl rfl).trans e_iand,
  fun _ _ => (j_goX_s rfl rfl).trans e_tsw,
  fun _ => (j_goX_s rfl rfl).trans e_iinc,
  fun _ => (j_goX_s rfl rfl).trans e_goto,
  fun _ => (j_goX_s rfl rfl).trans e_iconst,
  fun _ => (j_goX_s rfl rfl).trans e_iret⟩
set_option maxRecDepth 100000 in
set_option maxHeartbeats 8000000 in
theorem st_law_0 {b L : Nat} {xs : Nat → Int32} {post : Option Value → jW → Prop} {cut : List Nat} {n : Nat} {ls : jL} {w : jW} {cb sb : Nat} : (∀ (r : List Value), j_goX b L xs M_law post cut (n + 1) 132 ls r w cb sb ↔ g_ld ls[1]? (fun v => t_a v ∧ j_kX b L xs M_law post cut n 133 ls (v :: r) w cb sb)) ∧
  (∀ (r : List Value), j_goX b L xs M_law post cut (n + 1) 133 ls r w cb sb ↔ g_ld ls[0]? (fun v => t_a v ∧ j_kX b L xs M_law post cut n 134 ls (v :: r) w cb sb)) ∧
  (∀ (r : List Value), j_goX b L xs M_law post cut (n + 1) 134 ls r w cb sb ↔ g_ld ls[3]? (fun v => t_i v ∧ j_kX b L xs M_law post cut n 135 ls (v :: r) w cb sb)) ∧
  (∀ (r : List Value), j_goX b L xs M_law post cut (n + 1) 135 ls r w cb sb ↔ j_kX b L xs M_law post cut n 136 ls (.int (Int32.ofInt 1) :: r) w cb sb) ∧
  (∀ (r : List Value) (x y : Int32), j_goX b L xs M_law post cut (n + 1) 136 ls (.int y :: .int x :: r) w cb sb ↔ j_kX b L xs M_law post cut n 137 ls (.int (x + y) :: r) w cb sb) ∧
  (∀ (r : List Value) (a : Nat) (j : Int32), j_goX b L xs M_law post cut (n + 1) 137 ls (.int j :: .ref a :: r) w cb sb ↔ a = b ∧ vp_in j L ∧ j_kX b L xs M_law post cut n 138 ls (.int (xs j.toNatClampNeg) :: r) w cb sb) ∧
  (∀ (r : List Value), j_goX b L xs M_law post cut (n + 1) 138 ls r w cb sb ↔ g_ld ls[0]? (fun v => t_a v ∧ j_kX b L xs M_law post cut n 139 ls (v :: r) w cb sb)) ∧
  (∀ (r : List Value), j_goX b L xs M_law post cut (n + 1) 139 ls r w cb sb ↔ g_ld ls[3]? (fun v => t_i v ∧ j_kX b L xs M_law post cut n 140 ls (v :: r) w cb sb)) ∧
  (∀ (r : List Value), j_goX b L xs M_law post cut (n + 1) 140 ls r w cb sb ↔ j_kX b L xs M_law post cut n 141 ls (.int (Int32.ofInt 2) :: r) w cb sb) ∧
  (∀ (r : List Value) (x y : Int32), j_goX b L xs M_law post cut (n + 1) 141 ls (.int y :: .int x :: r) w cb sb ↔ j_kX b L xs M_law post cut n 142 ls (.int (x + y) :: r) w cb sb) ∧
  (∀ (r : List Value) (a : Nat) (j : Int32), j_goX b L xs M_law post cut (n + 1) 142 ls (.int j :: .ref a :: r) w cb sb ↔ a = b ∧ vp_in j L ∧ j_kX b L xs M_law post cut n 143 ls (.int (xs j.toNatClampNeg) :: r) w cb sb) ∧
  (∀ (r : List Value), j_goX b L xs M_law post cut (n + 1) 143 ls r w cb sb ↔ g_ld ls[0]? (fun v => t_a v ∧ j_kX b L xs M_law post cut n 144 ls (v :: r) w cb sb)) ∧
  (∀ (r : List Value), j_goX b L xs M_law post cut (n + 1) 144 ls r w cb sb ↔ g_ld ls[3]? (fun v => t_i v ∧ j_kX b L xs M_law post cut n 145 ls (v :: r) w cb sb)) ∧
  (∀ (r : List Value), j_goX b L xs M_law post cut (n + 1) 145 ls r w cb sb ↔ j_kX b L xs M_law post cut n 146 ls (.int (Int32.ofInt 3) :: r) w cb sb) ∧
  (∀ (r : List Value) (x y : Int32), j_goX b L xs M_law post cut (n + 1) 146 ls (.int y :: .int x :: r) w cb sb ↔ j_kX b L xs M_law post cut n 147 ls (.int (x + y) :: r) w cb sb) ∧
  (∀ (r : List Value) (a : Nat) (j : Int32), j_goX b L xs M_law post cut (n + 1) 147 ls (.int j :: .ref a :: r) w cb sb ↔ a = b ∧ vp_in j L ∧ j_kX b L xs M_law post cut n 148 ls (.int (xs j.toNatClampNeg) :: r) w cb sb) ∧
  (∀ (r : List Value), j_goX b L xs M_law post cut (n + 1) 148 ls r w cb sb ↔ g_ld ls[0]? (fun v => t_a v ∧ j_kX b L xs M_law post cut n 149 ls (v :: r) w cb sb)) ∧
  (∀ (r : List Value), j_goX b L xs M_law post cut (n + 1) 149 ls r w cb sb ↔ g_ld ls[3]? (fun v => t_i v ∧ j_kX b L xs M_law post cut n 150 ls (v :: r) w cb sb)) ∧
  (∀ (r : List Value), j_goX b L xs M_law post cut (n + 1) 150 ls r w cb sb ↔ j_kX b L xs M_law post cut n 151 ls (.int (Int32.ofInt 4) :: r) w cb sb) ∧
  (∀ (r : List Value) (x y : Int32), j_goX b L xs M_law post cut (n + 1) 151 ls (.int y :: .int x :: r) w cb sb ↔ j_kX b L xs M_law post cut n 152 ls (.int (x + y) :: r) w cb sb) ∧
  (∀ (r : List Value) (a : Nat) (j : Int32), j_goX b L xs M_law post cut (n + 1) 152 ls (.int j :: .ref a :: r) w cb sb ↔ a = b ∧ vp_in j L ∧ j_kX b L xs M_law post cut n 153 ls (.int (xs j.toNatClampNeg) :: r) w cb sb) ∧
  (∀ (r : List Value) (a0 a1 a2 a3 : Value) (z : Nat), j_goX b L xs M_law post cut (n + 1) 153 ls (a3 :: a2 :: a1 :: a0 :: .ref z :: r) w cb sb ↔ g_ob 0 (w z) (fun _ => True) ∧ j_w8 r ∧ g_call (jmt 5) [.ref z, a0, a1, a2, a3] w cb sb (fun v w' c s => j_kX b L xs M_law post cut n 156 ls (v.toList ++ r) w' c s)) ∧
  (∀ (r : List Value), j_goX b L xs M_law post cut (n + 1) 156 ls r w cb sb ↔ g_ld ls[2]? (fun v => t_a v ∧ j_kX b L xs M_law post cut n 157 ls (v :: r) w cb sb)) ∧
  (∀ (r : List Value), j_goX b L xs M_law post cut (n + 1) 157 ls r w cb sb ↔ g_ld ls[0]? (fun v => t_a v ∧ j_kX b L xs M_law post cut n 158 ls (v :: r) w cb sb)) ∧
  (∀ (r : List Value), j_goX b L xs M_law post cut (n + 1) 158 ls r w cb sb ↔ g_ld ls[3]? (fun v => t_i v ∧ j_kX b L xs M_law post cut n 159 ls (v :: r) w cb sb)) ∧
  (∀ (r : List Value), j_goX b L xs M_law post cut (n + 1) 159 ls r w cb sb ↔ j_kX b L xs M_law post cut n 160 ls (.int (Int32.ofInt 1) :: r) w cb sb) ∧
  (∀ (r : List Value) (x y : Int32), j_goX b L xs M_law post cut (n + 1) 160 ls (.int y :: .int x :: r) w cb sb ↔ j_kX b L xs M_law post cut n 161 ls (.int (x + y) :: r) w cb sb) ∧
  (∀ (r : List Value) (a : Nat) (j : Int32), j_goX b L xs M_law post cut (n + 1) 161 ls (.int j :: .ref a :: r) w cb sb ↔ a = b ∧ vp_in j L ∧ j_kX b L xs M_law post cut n 162 ls (.int (xs j.toNatClampNeg) :: r) w cb sb) ∧
  (∀ (r : List Value), j_goX b L xs M_law post cut (n + 1) 162 ls r w cb sb ↔ g_ld ls[0]? (fun v => t_a v ∧ j_kX b L xs M_law post cut n 163 ls (v :: r) w cb sb)) ∧
  (∀ (r : List Value), j_goX b L xs M_law post cut (n + 1) 163 ls r w cb sb ↔ g_ld ls[3]? (fun v => t_i v ∧ j_kX b L xs M_law post cut n 164 ls (v :: r) w cb sb)) ∧
  (∀ (r : List Value), j_goX b L xs M_law post cut (n + 1) 164 ls r w cb sb ↔ j_kX b L xs M_law post cut n 165 ls (.int (Int32.ofInt 2) :: r) w cb sb) ∧
  (∀ (r : List Value) (x y : Int32), j_goX b L xs M_law post cut (n + 1) 165 ls (.int y :: .int x :: r) w cb sb ↔ j_kX b L xs M_law post cut n 166 ls (.int (x + y) :: r) w cb sb) ∧
  (∀ (r : List Value) (a : Nat) (j : Int32), j_goX b L xs M_law post cut (n + 1) 166 ls (.int j :: .ref a :: r) w cb sb ↔ a = b ∧ vp_in j L ∧ j_kX b L xs M_law post cut n 167 ls (.int (xs j.toNatClampNeg) :: r) w cb sb) ∧
  (∀ (r : List Value), j_goX b L xs M_law post cut (n + 1) 167 ls r w cb sb ↔ g_ld ls[0]? (fun v => t_a v ∧ j_kX b L xs M_law post cut n 168 ls (v :: r) w cb sb)) ∧
  (∀ (r : List Value), j_goX b L xs M_law post cut (n + 1) 168 ls r w cb sb ↔ g_ld ls[3]? (fun v => t_i v ∧ j_kX b L xs M_law post cut n 169 ls (v :: r) w cb sb)) ∧
  (∀ (r : List Value), j_goX b L xs M_law post cut (n + 1) 169 ls r w cb sb ↔ j_kX b L xs M_law post cut n 170 ls (.int (Int32.ofInt 3) :: r) w cb sb) ∧
  (∀ (r : List Value) (x y : Int32), j_goX b L xs M_law post cut (n + 1) 170 ls (.int y :: .int x :: r) w cb sb ↔ j_kX b L xs M_law post cut n 171 ls (.int (x + y) :: r) w cb sb) ∧
  (∀ (r : List Value) (a : Nat) (j : Int32), j_goX b L xs M_law post cut (n + 1) 171 ls (.int j :: .ref a :: r) w cb sb ↔ a = b ∧ vp_in j L ∧ j_kX b L xs M_law post cut n 172 ls (.int (xs j.toNatClampNeg) :: r) w cb sb) ∧
  (∀ (r : List Value), j_goX b L xs M_law post cut (n + 1) 172 ls r w cb sb ↔ g_ld ls[0]? (fun v => t_a v ∧ j_kX b L xs M_law post cut n 173 ls (v :: r) w cb sb)) ∧
  (∀ (r : List Value), j_goX b L xs M_law post cut (n + 1) 173 ls r w cb sb ↔ g_ld ls[3]? (fun v => t_i v ∧ j_kX b L xs M_law post cut n 174 ls (v :: r) w cb sb)) ∧
  (∀ (r : List Value), j_goX b L xs M_law post cut (n + 1) 174 ls r w cb sb ↔ j_kX b L xs M_law post cut n 175 ls (.int (Int32.ofInt 4) :: r) w cb sb) ∧
  (∀ (r : List Value) (x y : Int32), j_goX b L xs M_law post cut (n + 1) 175 ls (.int y :: .int x :: r) w cb sb ↔ j_kX b L xs M_law post cut n 176 ls (.int (x + y) :: r) w cb sb) ∧
  (∀ (r : List Value) (a : Nat) (j : Int32), j_goX b L xs M_law post cut (n + 1) 176 ls (.int j :: .ref a :: r) w cb sb ↔ a = b ∧ vp_in j L ∧ j_kX b L xs M_law post cut n 177 ls (.int (xs j.toNatClampNeg) :: r) w cb sb) ∧
  (∀ (r : List Value) (a0 a1 a2 a3 : Value) (z : Nat), j_goX b L xs M_law post cut (n + 1) 177 ls (a3 :: a2 :: a1 :: a0 :: .ref z :: r) w cb sb ↔ g_ob 8 (w z) (fun _ => True) ∧ j_w8 r ∧ g_call (jmt 81) [.ref z, a0, a1, a2, a3] w cb sb (fun v w' c s => j_kX b L xs M_law post cut n 180 ls (v.toList ++ r) w' c s)) ∧
  (∀ (r : List Value) (a z : Int32), j_goX b L xs M_law post cut (n + 1) 180 ls (.int z :: .int a :: r) w cb sb ↔ (a = z → j_kX b L xs M_law post cut n 775 ls r w cb sb) ∧ (¬ (a = z) → j_kX b L xs M_law post cut n 183 ls r w cb sb)) ∧
  (∀ (r : List Value), j_goX b L xs M_law post cut (n + 1) 183 ls r w cb sb ↔ j_kX b L xs M_law post cut n 184 ls (.int (Int32.ofInt 0) :: r) w cb sb) ∧
  (∀ (a : Int32), j_goX b L xs M_law post cut (n + 1) 184 ls [.int a] w cb sb ↔ narrow .boolean (.int a) = .int a ∧ post (some (.int a)) w) := ⟨fun _ => (j_goX_s rfl rfl).trans e_aload_n,
  fun _ => (j_goX_s rfl rfl).trans e_aload_n,
  fun _ => (j_goX_s rfl rfl).trans e_iload_n,
  fun _ => (j_goX_s rfl rfl).trans e_iconst,
  fun _ _ _ => (j_goX_s rfl rfl).trans e_iadd,
  fun _ _ _ => j_goX_ld rfl,
  fun _ => (j_goX_s rfl rfl).trans e_aload_n,
  fun _ => (j_goX_s rfl rfl).trans e_iload_n,
  fun _ => (j_goX_s rfl rfl).trans e_iconst,
  fun _ _ _ => (j_goX_s rfl rfl).trans e_iadd,
  fun _ _ _ => j_goX_ld rfl,
  fun _ => (j_goX_s rfl rfl).trans e_aload_n,
  fun _ => (j_goX_s rfl rfl).trans e_iload_n,
  fun _ => (j_goX_s rfl rfl).trans e_iconst,
  fun _ _ _ => (j_goX_s rfl rfl).trans e_iadd,
  fun _ _ _ => j_goX_ld rfl,
  fun _ => (j_goX_s rfl rfl).trans e_aload_n,
  fun _ => (j_goX_s rfl rfl).trans e_iload_n,
  fun _ => (j_goX_s rfl rfl).trans e_iconst,
  fun _ _ _ => (j_goX_s rfl rfl).trans e_iadd,
  fun _ _ _ => j_goX_ld rfl,
  fun _ _ _ _ _ _ => (j_goX_s rfl rfl).trans e_callv,
  fun _ => (j_goX_s rfl rfl).trans e_aload_n,
  fun _ => (j_goX_s rfl rfl).trans e_aload_n,
  fun _ => (j_goX_s rfl rfl).trans e_iload_n,
  fun _ => (j_goX_s rfl rfl).trans e_iconst,
  fun _ _ _ => (j_goX_s rfl rfl).trans e_iadd,
  fun _ _ _ => j_goX_ld rfl,
  fun _ => (j_goX_s rfl rfl).trans e_aload_n,
  fun _ => (j_goX_s rfl rfl).trans e_iload_n,
  fun _ => (j_goX_s rfl rfl).trans e_iconst,
  fun _ _ _ => (j_goX_s rfl rfl).trans e_iadd,
  fun _ _ _ => j_goX_ld rfl,
  fun _ => (j_goX_s rfl rfl).trans e_aload_n,
  fun _ => (j_goX_s rfl rfl).trans e_iload_n,
  fun _ => (j_goX_s rfl rfl).trans e_iconst,
  fun _ _ _ => (j_goX_s rfl rfl).trans e_iadd,
  fun _ _ _ => j_goX_ld rfl,
  fun _ => (j_goX_s rfl rfl).trans e_aload_n,
  fun _ => (j_goX_s rfl rfl).trans e_iload_n,
  fun _ => (j_goX_s rfl rfl).trans e_iconst,
  fun _ _ _ => (j_goX_s rfl rfl).trans e_iadd,
  fun _ _ _ => j_goX_ld rfl,
  fun _ _ _ _ _ _ => (j_goX_s rfl rfl).trans e_callv,
  fun _ _ _ => (j_goX_s rfl rfl).trans e_icmp,
  fun _ => (j_goX_s rfl rfl).trans e_iconst,
  fun _ => (j_goX_s rfl rfl).trans e_iret⟩
set_option maxRecDepth 100000 in
set_option maxHeartbeats 8000000 in
theorem st_law_1 {b L : Nat} {xs : Nat → Int32} {post : Option Value → jW → Prop} {cut : List Nat} {n : Nat} {ls : jL} {w : jW} {cb sb : Nat} : (∀ (r : List Value), j_goX b L xs M_law post cut (n + 1) 185 ls r w cb sb ↔ g_ld ls[1]? (fun v => t_a v ∧ j_kX b L xs M_law post cut n 186 ls (v :: r) w cb sb)) ∧
  (∀ (r : List Value), j_goX b L xs M_law post cut (n + 1) 186 ls r w cb sb ↔ g_ld ls[0]? (fun v => t_a v ∧ j_kX b L xs M_law post cut n 187 ls (v :: r) w cb sb)) ∧
  (∀ (r : List Value), j_goX b L xs M_law post cut (n + 1) 187 ls r w cb sb ↔ g_ld ls[3]? (fun v => t_i v ∧ j_kX b L xs M_law post cut n 188 ls (v :: r) w cb sb)) ∧
  (∀ (r : List Value), j_goX b L xs M_law post cut (n + 1) 188 ls r w cb sb ↔ j_kX b L xs M_law post cut n 189 ls (.int (Int32.ofInt 1) :: r) w cb sb) ∧
  (∀ (r : List Value) (x y : Int32), j_goX b L xs M_law post cut (n + 1) 189 ls (.int y :: .int x :: r) w cb sb ↔ j_kX b L xs M_law post cut n 190 ls (.int (x + y) :: r) w cb sb) ∧
  (∀ (r : List Value) (a : Nat) (j : Int32), j_goX b L xs M_law post cut (n + 1) 190 ls (.int j :: .ref a :: r) w cb sb ↔ a = b ∧ vp_in j L ∧ j_kX b L xs M_law post cut n 191 ls (.int (xs j.toNatClampNeg) :: r) w cb sb) ∧
  (∀ (r : List Value) (a0 : Value) (z : Nat), j_goX b L xs M_law post cut (n + 1) 191 ls (a0 :: .ref z :: r) w cb sb ↔ g_ob 0 (w z) (fun _ => True) ∧ j_w8 r ∧ g_call (jmt 22) [.ref z, a0] w cb sb (fun v w' c s => j_kX b L xs M_law post cut n 194 ls (v.toList ++ r) w' c s)) ∧
  (∀ (r : List Value), j_goX b L xs M_law post cut (n + 1) 194 ls r w cb sb ↔ g_ld ls[2]? (fun v => t_a v ∧ j_kX b L xs M_law post cut n 195 ls (v :: r) w cb sb)) ∧
  (∀ (r : List Value), j_goX b L xs M_law post cut (n + 1) 195 ls r w cb sb ↔ g_ld ls[0]? (fun v => t_a v ∧ j_kX b L xs M_law post cut n 196 ls (v :: r) w cb sb)) ∧
  (∀ (r : List Value), j_goX b L xs M_law post cut (n + 1) 196 ls r w cb sb ↔ g_ld ls[3]? (fun v => t_i v ∧ j_kX b L xs M_law post cut n 197 ls (v :: r) w cb sb)) ∧
  (∀ (r : List Value), j_goX b L xs M_law post cut (n + 1) 197 ls r w cb sb ↔ j_kX b L xs M_law post cut n 198 ls (.int (Int32.ofInt 1) :: r) w cb sb) ∧
  (∀ (r : List Value) (x y : Int32), j_goX b L xs M_law post cut (n + 1) 198 ls (.int y :: .int x :: r) w cb sb ↔ j_kX b L xs M_law post cut n 199 ls (.int (x + y) :: r) w cb sb) ∧
  (∀ (r : List Value) (a : Nat) (j : Int32), j_goX b L xs M_law post cut (n + 1) 199 ls (.int j :: .ref a :: r) w cb sb ↔ a = b ∧ vp_in j L ∧ j_kX b L xs M_law post cut n 200 ls (.int (xs j.toNatClampNeg) :: r) w cb sb) ∧
  (∀ (r : List Value) (a0 : Value) (z : Nat), j_goX b L xs M_law post cut (n + 1) 200 ls (a0 :: .ref z :: r) w cb sb ↔ g_ob 8 (w z) (fun _ => True) ∧ j_w8 r ∧ g_call (jmt 88) [.ref z, a0] w cb sb (fun v w' c s => j_kX b L xs M_law post cut n 203 ls (v.toList ++ r) w' c s)) ∧
  (∀ (r : List Value) (a z : Int32), j_goX b L xs M_law post cut (n + 1) 203 ls (.int z :: .int a :: r) w cb sb ↔ (a = z → j_kX b L xs M_law post cut n 775 ls r w cb sb) ∧ (¬ (a = z) → j_kX b L xs M_law post cut n 206 ls r w cb sb)) ∧
  (∀ (r : List Value), j_goX b L xs M_law post cut (n + 1) 206 ls r w cb sb ↔ j_kX b L xs M_law post cut n 207 ls (.int (Int32.ofInt 0) :: r) w cb sb) ∧
  (∀ (a : Int32), j_goX b L xs M_law post cut (n + 1) 207 ls [.int a] w cb sb ↔ narrow .boolean (.int a) = .int a ∧ post (some (.int a)) w) := ⟨fun _ => (j_goX_s rfl rfl).trans e_aload_n,
  fun _ => (j_goX_s rfl rfl).trans e_aload_n,
  fun _ => (j_goX_s rfl rfl).trans e_iload_n,
  fun _ => (j_goX_s rfl rfl).trans e_iconst,
  fun _ _ _ => (j_goX_s rfl rfl).trans e_iadd,
  fun _ _ _ => j_goX_ld rfl,
  fun _ _ _ => (j_goX_s rfl rfl).trans e_callv,
  fun _ => (j_goX_s rfl rfl).trans e_aload_n,
  fun _ => (j_goX_s rfl rfl).trans e_aload_n,
  fun _ => (j_goX_s rfl rfl).trans e_iload_n,
  fun _ => (j_goX_s rfl rfl).trans e_iconst,
  fun _ _ _ => (j_goX_s rfl rfl).trans e_iadd,
  fun _ _ _ => j_goX_ld rfl,
  fun _ _ _ => (j_goX_s rfl rfl).trans e_callv,
  fun _ _ _ => (j_goX_s rfl rfl).trans e_icmp,
  fun _ => (j_goX_s rfl rfl).trans e_iconst,
  fun _ => (j_goX_s rfl rfl).trans e_iret⟩
set_option maxRecDepth 100000 in
set_option maxHeartbeats 8000000 in
theorem st_law_2 {b L : Nat} {xs : Nat → Int32} {post : Option Value → jW → Prop} {cut : List Nat} {n : Nat} {ls : jL} {w : jW} {cb sb : Nat} : (∀ (r : List Value), j_goX b L xs M_law post cut (n + 1) 208 ls r w cb sb ↔ g_ld ls[1]? (fun v => t_a v ∧ j_kX b L xs M_law post cut n 209 ls (v :: r) w cb sb)) ∧
  (∀ (r : List Value), j_goX b L xs M_law post cut (n + 1) 209 ls r w cb sb ↔ g_ld ls[0]? (fun v => t_a v ∧ j_kX b L xs M_law post cut n 210 ls (v :: r) w cb sb)) ∧
  (∀ (r : List Value), j_goX b L xs M_law post cut (n + 1) 210 ls r w cb sb ↔ g_ld ls[3]? (fun v => t_i v ∧ j_kX b L xs M_law post cut n 211 ls (v :: r) w cb sb)) ∧
  (∀ (r : List Value), j_goX b L xs M_law post cut (n + 1) 211 ls r w cb sb ↔ j_kX b L xs M_law post cut n 212 ls (.int (Int32.ofInt 1) :: r) w cb sb) ∧
  (∀ (r : List Value) (x y : Int32), j_goX b L xs M_law post cut (n + 1) 212 ls (.int y :: .int x :: r) w cb sb ↔ j_kX b L xs M_law post cut n 213 ls (.int (x + y) :: r) w cb sb) ∧
  (∀ (r : List Value) (a : Nat) (j : Int32), j_goX b L xs M_law post cut (n + 1) 213 ls (.int j :: .ref a :: r) w cb sb ↔ a = b ∧ vp_in j L ∧ j_kX b L xs M_law post cut n 214 ls (.int (xs j.toNatClampNeg) :: r) w cb sb) ∧
  (∀ (r : List Value) (a0 : Value) (z : Nat), j_goX b L xs M_law post cut (n + 1) 214 ls (a0 :: .ref z :: r) w cb sb ↔ g_ob 0 (w z) (fun _ => True) ∧ j_w8 r ∧ g_call (jmt 25) [.ref z, a0] w cb sb (fun v w' c s => j_kX b L xs M_law post cut n 217 ls (v.toList ++ r) w' c s)) ∧
  (∀ (r : List Value), j_goX b L xs M_law post cut (n + 1) 217 ls r w cb sb ↔ g_ld ls[2]? (fun v => t_a v ∧ j_kX b L xs M_law post cut n 218 ls (v :: r) w cb sb)) ∧
  (∀ (r : List Value), j_goX b L xs M_law post cut (n + 1) 218 ls r w cb sb ↔ g_ld ls[0]? (fun v => t_a v ∧ j_kX b L xs M_law post cut n 219 ls (v :: r) w cb sb)) ∧
  (∀ (r : List Value), j_goX b L xs M_law post cut (n + 1) 219 ls r w cb sb ↔ g_ld ls[3]? (fun v => t_i v ∧ j_kX b L xs M_law post cut n 220 ls (v :: r) w cb sb)) ∧
  (∀ (r : List Value), j_goX b L xs M_law post cut (n + 1) 220 ls r w cb sb ↔ j_kX b L xs M_law post cut n 221 ls (.int (Int32.ofInt 1) :: r) w cb sb) ∧
  (∀ (r : List Value) (x y : Int32), j_goX b L xs M_law post cut (n + 1) 221 ls (.int y :: .int x :: r) w cb sb ↔ j_kX b L xs M_law post cut n 222 ls (.int (x + y) :: r) w cb sb) ∧
  (∀ (r : List Value) (a : Nat) (j : Int32), j_goX b L xs M_law post cut (n + 1) 222 ls (.int j :: .ref a :: r) w cb sb ↔ a = b ∧ vp_in j L ∧ j_kX b L xs M_law post cut n 223 ls (.int (xs j.toNatClampNeg) :: r) w cb sb) ∧
  (∀ (r : List Value) (a0 : Value) (z : Nat), j_goX b L xs M_law post cut (n + 1) 223 ls (a0 :: .ref z :: r) w cb sb ↔ g_ob 8 (w z) (fun _ => True) ∧ j_w8 r ∧ g_call (jmt 90) [.ref z, a0] w cb sb (fun v w' c s => j_kX b L xs M_law post cut n 226 ls (v.toList ++ r) w' c s)) ∧
  (∀ (r : List Value) (a z : Int32), j_goX b L xs M_law post cut (n + 1) 226 ls (.int z :: .int a :: r) w cb sb ↔ (a = z → j_kX b L xs M_law post cut n 775 ls r w cb sb) ∧ (¬ (a = z) → j_kX b L xs M_law post cut n 229 ls r w cb sb)) ∧
  (∀ (r : List Value), j_goX b L xs M_law post cut (n + 1) 229 ls r w cb sb ↔ j_kX b L xs M_law post cut n 230 ls (.int (Int32.ofInt 0) :: r) w cb sb) ∧
  (∀ (a : Int32), j_goX b L xs M_law post cut (n + 1) 230 ls [.int a] w cb sb ↔ narrow .boolean (.int a) = .int a ∧ post (some (.int a)) w) := ⟨fun _ => (j_goX_s rfl rfl).trans e_aload_n,
  fun _ => (j_goX_s rfl rfl).trans e_aload_n,
  fun _ => (j_goX_s rfl rfl).trans e_iload_n,
  fun _ => (j_goX_s rfl rfl).trans e_iconst,
  fun _ _ _ => (j_goX_s rfl rfl).trans e_iadd,
  fun _ _ _ => j_goX_ld rfl,
  fun _ _ _ => (j_goX_s rfl rfl).trans e_callv,
  fun _ => (j_goX_s rfl rfl).trans e_aload_n,
  fun _ => (j_goX_s rfl rfl).trans e_aload_n,
  fun _ => (j_goX_s rfl rfl).trans e_iload_n,
  fun _ => (j_goX_s rfl rfl).trans e_iconst,
  fun _ _ _ => (j_goX_s rfl rfl).trans e_iadd,
  fun _ _ _ => j_goX_ld rfl,
  fun _ _ _ => (j_goX_s rfl rfl).trans e_callv,
  fun _ _ _ => (j_goX_s rfl rfl).trans e_icmp,
  fun _ => (j_goX_s rfl rfl).trans e_iconst,
  fun _ => (j_goX_s rfl rfl).trans e_iret⟩
set_option maxRecDepth 100000 in
set_option maxHeartbeats 8000000 in
theorem st_law_3 {b L : Nat} {xs : Nat → Int32} {post : Option Value → jW → Prop} {cut : List Nat} {n : Nat} {ls : jL} {w : jW} {cb sb : Nat} : (∀ (r : List Value), j_goX b L xs M_law post cut (n + 1) 231 ls r w cb sb ↔ g_ld ls[1]? (fun v => t_a v ∧ j_kX b L xs M_law post cut n 232 ls (v :: r) w cb sb)) ∧
  (∀ (r : List Value), j_goX b L xs M_law post cut (n + 1) 232 ls r w cb sb ↔ g_ld ls[0]? (fun v => t_a v ∧ j_kX b L xs M_law post cut n 233 ls (v :: r) w cb sb)) ∧
  (∀ (r : List Value), j_goX b L xs M_law post cut (n + 1) 233 ls r w cb sb ↔ g_ld ls[3]? (fun v => t_i v ∧ j_kX b L xs M_law post cut n 234 ls (v :: r) w cb sb)) ∧
  (∀ (r : List Value), j_goX b L xs M_law post cut (n + 1) 234 ls r w cb sb ↔ j_kX b L xs M_law post cut n 235 ls (.int (Int32.ofInt 1) :: r) w cb sb) ∧
  (∀ (r : List Value) (x y : Int32), j_goX b L xs M_law post cut (n + 1) 235 ls (.int y :: .int x :: r) w cb sb ↔ j_kX b L xs M_law post cut n 236 ls (.int (x + y) :: r) w cb sb) ∧
  (∀ (r : List Value) (a : Nat) (j : Int32), j_goX b L xs M_law post cut (n + 1) 236 ls (.int j :: .ref a :: r) w cb sb ↔ a = b ∧ vp_in j L ∧ j_kX b L xs M_law post cut n 237 ls (.int (xs j.toNatClampNeg) :: r) w cb sb) ∧
  (∀ (r : List Value) (a0 : Value) (z : Nat), j_goX b L xs M_law post cut (n + 1) 237 ls (a0 :: .ref z :: r) w cb sb ↔ g_ob 0 (w z) (fun _ => True) ∧ j_w8 r ∧ g_call (jmt 26) [.ref z, a0] w cb sb (fun v w' c s => j_kX b L xs M_law post cut n 240 ls (v.toList ++ r) w' c s)) ∧
  (∀ (r : List Value), j_goX b L xs M_law post cut (n + 1) 240 ls r w cb sb ↔ g_ld ls[2]? (fun v => t_a v ∧ j_kX b L xs M_law post cut n 241 ls (v :: r) w cb sb)) ∧
  (∀ (r : List Value), j_goX b L xs M_law post cut (n + 1) 241 ls r w cb sb ↔ g_ld ls[0]? (fun v => t_a v ∧ j_kX b L xs M_law post cut n 242 ls (v :: r) w cb sb)) ∧
  (∀ (r : List Value), j_goX b L xs M_law post cut (n + 1) 242 ls r w cb sb ↔ g_ld ls[3]? (fun v => t_i v ∧ j_kX b L xs M_law post cut n 243 ls (v :: r) w cb sb)) ∧
  (∀ (r : List Value), j_goX b L xs M_law post cut (n + 1) 243 ls r w cb sb ↔ j_kX b L xs M_law post cut n 244 ls (.int (Int32.ofInt 1) :: r) w cb sb) ∧
  (∀ (r : List Value) (x y : Int32), j_goX b L xs M_law post cut (n + 1) 244 ls (.int y :: .int x :: r) w cb sb ↔ j_kX b L xs M_law post cut n 245 ls (.int (x + y) :: r) w cb sb) ∧
  (∀ (r : List Value) (a : Nat) (j : Int32), j_goX b L xs M_law post cut (n + 1) 245 ls (.int j :: .ref a :: r) w cb sb ↔ a = b ∧ vp_in j L ∧ j_kX b L xs M_law post cut n 246 ls (.int (xs j.toNatClampNeg) :: r) w cb sb) ∧
  (∀ (r : List Value) (a0 : Value) (z : Nat), j_goX b L xs M_law post cut (n + 1) 246 ls (a0 :: .ref z :: r) w cb sb ↔ g_ob 8 (w z) (fun _ => True) ∧ j_w8 r ∧ g_call (jmt 91) [.ref z, a0] w cb sb (fun v w' c s => j_kX b L xs M_law post cut n 249 ls (v.toList ++ r) w' c s)) ∧
  (∀ (r : List Value) (a z : Int32), j_goX b L xs M_law post cut (n + 1) 249 ls (.int z :: .int a :: r) w cb sb ↔ (a = z → j_kX b L xs M_law post cut n 775 ls r w cb sb) ∧ (¬ (a = z) → j_kX b L xs M_law post cut n 252 ls r w cb sb)) ∧
  (∀ (r : List Value), j_goX b L xs M_law post cut (n + 1) 252 ls r w cb sb ↔ j_kX b L xs M_law post cut n 253 ls (.int (Int32.ofInt 0) :: r) w cb sb) ∧
  (∀ (a : Int32), j_goX b L xs M_law post cut (n + 1) 253 ls [.int a] w cb sb ↔ narrow .boolean (.int a) = .int a ∧ post (some (.int a)) w) := ⟨fun _ => (j_goX_s rfl rfl).trans e_aload_n,
  fun _ => (j_goX_s rfl rfl).trans e_aload_n,
  fun _ => (j_goX_s rfl rfl).trans e_iload_n,
  fun _ => (j_goX_s rfl rfl).trans e_iconst,
  fun _ _ _ => (j_goX_s rfl rfl).trans e_iadd,
  fun _ _ _ => j_goX_ld rfl,
  fun _ _ _ => (j_goX_s rfl rfl).trans e_callv,
  fun _ => (j_goX_s rfl rfl).trans e_aload_n,
  fun _ => (j_goX_s rfl rfl).trans e_aload_n,
  fun _ => (j_goX_s rfl rfl).trans e_iload_n,
  fun _ => (j_goX_s rfl rfl).trans e_iconst,
  fun _ _ _ => (j_goX_s rfl rfl).trans e_iadd,
  fun _ _ _ => j_goX_ld rfl,
  fun _ _ _ => (j_goX_s rfl rfl).trans e_callv,
  fun _ _ _ => (j_goX_s rfl rfl).trans e_icmp,
  fun _ => (j_goX_s rfl rfl).trans e_iconst,
  fun _ => (j_goX_s rfl rfl).trans e_iret⟩
set_option maxRecDepth 100000 in
set_option maxHeartbeats 8000000 in
theorem st_law_4 {b L : Nat} {xs : Nat → Int32} {post : Option Value → jW → Prop} {cut : List Nat} {n : Nat} {ls : jL} {w : jW} {cb sb : Nat} : (∀ (r : List Value), j_goX b L xs M_law post cut (n + 1) 254 ls r w cb sb ↔ g_ld ls[1]? (fun v => t_a v ∧ j_kX b L xs M_law post cut n 255 ls (v :: r) w cb sb)) ∧
  (∀ (r : List Value), j_goX b L xs M_law post cut (n + 1) 255 ls r w cb sb ↔ g_ld ls[0]? (fun v => t_a v ∧ j_kX b L xs M_law post cut n 256 ls (v :: r) w cb sb)) ∧
  (∀ (r : List Value), j_goX b L xs M_law post cut (n + 1) 256 ls r w cb sb ↔ g_ld ls[3]? (fun v => t_i v ∧ j_kX b L xs M_law post cut n 257 ls (v :: r) w cb sb)) ∧
  (∀ (r : List Value), j_goX b L xs M_law post cut (n + 1) 257 ls r w cb sb ↔ j_kX b L xs M_law post cut n 258 ls (.int (Int32.ofInt 1) :: r) w cb sb) ∧
  (∀ (r : List Value) (x y : Int32), j_goX b L xs M_law post cut (n + 1) 258 ls (.int y :: .int x :: r) w cb sb ↔ j_kX b L xs M_law post cut n 259 ls (.int (x + y) :: r) w cb sb) ∧
  (∀ (r : List Value) (a : Nat) (j : Int32), j_goX b L xs M_law post cut (n + 1) 259 ls (.int j :: .ref a :: r) w cb sb ↔ a = b ∧ vp_in j L ∧ j_kX b L xs M_law post cut n 260 ls (.int (xs j.toNatClampNeg) :: r) w cb sb) ∧
  (∀ (r : List Value), j_goX b L xs M_law post cut (n + 1) 260 ls r w cb sb ↔ g_ld ls[0]? (fun v => t_a v ∧ j_kX b L xs M_law post cut n 261 ls (v :: r) w cb sb)) ∧
  (∀ (r : List Value), j_goX b L xs M_law post cut (n + 1) 261 ls r w cb sb ↔ g_ld ls[3]? (fun v => t_i v ∧ j_kX b L xs M_law post cut n 262 ls (v :: r) w cb sb)) ∧
  (∀ (r : List Value), j_goX b L xs M_law post cut (n + 1) 262 ls r w cb sb ↔ j_kX b L xs M_law post cut n 263 ls (.int (Int32.ofInt 2) :: r) w cb sb) ∧
  (∀ (r : List Value) (x y : Int32), j_goX b L xs M_law post cut (n + 1) 263 ls (.int y :: .int x :: r) w cb sb ↔ j_kX b L xs M_law post cut n 264 ls (.int (x + y) :: r) w cb sb) ∧
  (∀ (r : List Value) (a : Nat) (j : Int32), j_goX b L xs M_law post cut (n + 1) 264 ls (.int j :: .ref a :: r) w cb sb ↔ a = b ∧ vp_in j L ∧ j_kX b L xs M_law post cut n 265 ls (.int (xs j.toNatClampNeg) :: r) w cb sb) ∧
  (∀ (r : List Value), j_goX b L xs M_law post cut (n + 1) 265 ls r w cb sb ↔ g_ld ls[0]? (fun v => t_a v ∧ j_kX b L xs M_law post cut n 266 ls (v :: r) w cb sb)) ∧
  (∀ (r : List Value), j_goX b L xs M_law post cut (n + 1) 266 ls r w cb sb ↔ g_ld ls[3]? (fun v => t_i v ∧ j_kX b L xs M_law post cut n 267 ls (v :: r) w cb sb)) ∧
  (∀ (r : List Value), j_goX b L xs M_law post cut (n + 1) 267 ls r w cb sb ↔ j_kX b L xs M_law post cut n 268 ls (.int (Int32.ofInt 3) :: r) w cb sb) ∧
  (∀ (r : List Value) (x y : Int32), j_goX b L xs M_law post cut (n + 1) 268 ls (.int y :: .int x :: r) w cb sb ↔ j_kX b L xs M_law post cut n 269 ls (.int (x + y) :: r) w cb sb) ∧
  (∀ (r : List Value) (a : Nat) (j : Int32), j_goX b L xs M_law post cut (n + 1) 269 ls (.int j :: .ref a :: r) w cb sb ↔ a = b ∧ vp_in j L ∧ j_kX b L xs M_law post cut n 270 ls (.int (xs j.toNatClampNeg) :: r) w cb sb) ∧
  (∀ (r : List Value) (a0 a1 a2 : Value) (z : Nat), j_goX b L xs M_law post cut (n + 1) 270 ls (a2 :: a1 :: a0 :: .ref z :: r) w cb sb ↔ g_ob 0 (w z) (fun _ => True) ∧ j_w8 r ∧ g_call (jmt 27) [.ref z, a0, a1, a2] w cb sb (fun v w' c s => j_kX b L xs M_law post cut n 273 ls (v.toList ++ r) w' c s)) ∧
  (∀ (r : List Value), j_goX b L xs M_law post cut (n + 1) 273 ls r w cb sb ↔ g_ld ls[2]? (fun v => t_a v ∧ j_kX b L xs M_law post cut n 274 ls (v :: r) w cb sb)) ∧
  (∀ (r : List Value), j_goX b L xs M_law post cut (n + 1) 274 ls r w cb sb ↔ g_ld ls[0]? (fun v => t_a v ∧ j_kX b L xs M_law post cut n 275 ls (v :: r) w cb sb)) ∧
  (∀ (r : List Value), j_goX b L xs M_law post cut (n + 1) 275 ls r w cb sb ↔ g_ld ls[3]? (fun v => t_i v ∧ j_kX b L xs M_law post cut n 276 ls (v :: r) w cb sb)) ∧
  (∀ (r : List Value), j_goX b L xs M_law post cut (n + 1) 276 ls r w cb sb ↔ j_kX b L xs M_law post cut n 277 ls (.int (Int32.ofInt 1) :: r) w cb sb) ∧
  (∀ (r : List Value) (x y : Int32), j_goX b L xs M_law post cut (n + 1) 277 ls (.int y :: .int x :: r) w cb sb ↔ j_kX b L xs M_law post cut n 278 ls (.int (x + y) :: r) w cb sb) ∧
  (∀ (r : List Value) (a : Nat) (j : Int32), j_goX b L xs M_law post cut (n + 1) 278 ls (.int j :: .ref a :: r) w cb sb ↔ a = b ∧ vp_in j L ∧ j_kX b L xs M_law post cut n 279 ls (.int (xs j.toNatClampNeg) :: r) w cb sb) ∧
  (∀ (r : List Value), j_goX b L xs M_law post cut (n + 1) 279 ls r w cb sb ↔ g_ld ls[0]? (fun v => t_a v ∧ j_kX b L xs M_law post cut n 280 ls (v :: r) w cb sb)) ∧
  (∀ (r : List Value), j_goX b L xs M_law post cut (n + 1) 280 ls r w cb sb ↔ g_ld ls[3]? (fun v => t_i v ∧ j_kX b L xs M_law post cut n 281 ls (v :: r) w cb sb)) ∧
  (∀ (r : List Value), j_goX b L xs M_law post cut (n + 1) 281 ls r w cb sb ↔ j_kX b L xs M_law post cut n 282 ls (.int (Int32.ofInt 2) :: r) w cb sb) ∧
  (∀ (r : List Value) (x y : Int32), j_goX b L xs M_law post cut (n + 1) 282 ls (.int y :: .int x :: r) w cb sb ↔ j_kX b L xs M_law post cut n 283 ls (.int (x + y) :: r) w cb sb) ∧
  (∀ (r : List Value) (a : Nat) (j : Int32), j_goX b L xs M_law post cut (n + 1) 283 ls (.int j :: .ref a :: r) w cb sb ↔ a = b ∧ vp_in j L ∧ j_kX b L xs M_law post cut n 284 ls (.int (xs j.toNatClampNeg) :: r) w cb sb) ∧
  (∀ (r : List Value), j_goX b L xs M_law post cut (n + 1) 284 ls r w cb sb ↔ g_ld ls[0]? (fun v => t_a v ∧ j_kX b L xs M_law post cut n 285 ls (v :: r) w cb sb)) ∧
  (∀ (r : List Value), j_goX b L xs M_law post cut (n + 1) 285 ls r w cb sb ↔ g_ld ls[3]? (fun v => t_i v ∧ j_kX b L xs M_law post cut n 286 ls (v :: r) w cb sb)) ∧
  (∀ (r : List Value), j_goX b L xs M_law post cut (n + 1) 286 ls r w cb sb ↔ j_kX b L xs M_law post cut n 287 ls (.int (Int32.ofInt 3) :: r) w cb sb) ∧
  (∀ (r : List Value) (x y : Int32), j_goX b L xs M_law post cut (n + 1) 287 ls (.int y :: .int x :: r) w cb sb ↔ j_kX b L xs M_law post cut n 288 ls (.int (x + y) :: r) w cb sb) ∧
  (∀ (r : List Value) (a : Nat) (j : Int32), j_goX b L xs M_law post cut (n + 1) 288 ls (.int j :: .ref a :: r) w cb sb ↔ a = b ∧ vp_in j L ∧ j_kX b L xs M_law post cut n 289 ls (.int (xs j.toNatClampNeg) :: r) w cb sb) ∧
  (∀ (r : List Value) (a0 a1 a2 : Value) (z : Nat), j_goX b L xs M_law post cut (n + 1) 289 ls (a2 :: a1 :: a0 :: .ref z :: r) w cb sb ↔ g_ob 8 (w z) (fun _ => True) ∧ j_w8 r ∧ g_call (jmt 92) [.ref z, a0, a1, a2] w cb sb (fun v w' c s => j_kX b L xs M_law post cut n 292 ls (v.toList ++ r) w' c s)) ∧
  (∀ (r : List Value) (a z : Int32), j_goX b L xs M_law post cut (n + 1) 292 ls (.int z :: .int a :: r) w cb sb ↔ (a = z → j_kX b L xs M_law post cut n 775 ls r w cb sb) ∧ (¬ (a = z) → j_kX b L xs M_law post cut n 295 ls r w cb sb)) ∧
  (∀ (r : List Value), j_goX b L xs M_law post cut (n + 1) 295 ls r w cb sb ↔ j_kX b L xs M_law post cut n 296 ls (.int (Int32.ofInt 0) :: r) w cb sb) ∧
  (∀ (a : Int32), j_goX b L xs M_law post cut (n + 1) 296 ls [.int a] w cb sb ↔ narrow .boolean (.int a) = .int a ∧ post (some (.int a)) w) := ⟨fun _ => (j_goX_s rfl rfl).trans e_aload_n,
  fun _ => (j_goX_s rfl rfl).trans e_aload_n,
  fun _ => (j_goX_s rfl rfl).trans e_iload_n,
  fun _ => (j_goX_s rfl rfl).trans e_iconst,
  fun _ _ _ => (j_goX_s rfl rfl).trans e_iadd,
  fun _ _ _ => j_goX_ld rfl,
  fun _ => (j_goX_s rfl rfl).trans e_aload_n,
  fun _ => (j_goX_s rfl rfl).trans e_iload_n,
  fun _ => (j_goX_s rfl rfl).trans e_iconst,
  fun _ _ _ => (j_goX_s rfl rfl).trans e_iadd,
  fun _ _ _ => j_goX_ld rfl,
  fun _ => (j_goX_s rfl rfl).trans e_aload_n,
  fun _ => (j_goX_s rfl rfl).trans e_iload_n,
  fun _ => (j_goX_s rfl rfl).trans e_iconst,
  fun _ _ _ => (j_goX_s rfl rfl).trans e_iadd,
  fun _ _ _ => j_goX_ld rfl,
  fun _ _ _ _ _ => (j_goX_s rfl rfl).trans e_callv,
  fun _ => (j_goX_s rfl rfl).trans e_aload_n,
  fun _ => (j_goX_s rfl rfl).trans e_aload_n,
  fun _ => (j_goX_s rfl rfl).trans e_iload_n,
  fun _ => (j_goX_s rfl rfl).trans e_iconst,
  fun _ _ _ => (j_goX_s rfl rfl).trans e_iadd,
  fun _ _ _ => j_goX_ld rfl,
  fun _ => (j_goX_s rfl rfl).trans e_aload_n,
  fun _ => (j_goX_s rfl rfl).trans e_iload_n,
  fun _ => (j_goX_s rfl rfl).trans e_iconst,
  fun _ _ _ => (j_goX_s rfl rfl).trans e_iadd,
  fun _ _ _ => j_goX_ld rfl,
  fun _ => (j_goX_s rfl rfl).trans e_aload_n,
  fun _ => (j_goX_s rfl rfl).trans e_iload_n,
  fun _ => (j_goX_s rfl rfl).trans e_iconst,
  fun _ _ _ => (j_goX_s rfl rfl).trans e_iadd,
  fun _ _ _ => j_goX_ld rfl,
  fun _ _ _ _ _ => (j_goX_s rfl rfl).trans e_callv,
  fun _ _ _ => (j_goX_s rfl rfl).trans e_icmp,
  fun _ => (j_goX_s rfl rfl).trans e_iconst,
  fun _ => (j_goX_s rfl rfl).trans e_iret⟩
set_option maxRecDepth 100000 in
set_option maxHeartbeats 8000000 in
theorem st_law_5 {b L : Nat} {xs : Nat → Int32} {post : Option Value → jW → Prop} {cut : List Nat} {n : Nat} {ls : jL} {w : jW} {cb sb : Nat} : (∀ (r : List Value), j_goX b L xs M_law post cut (n + 1) 297 ls r w cb sb ↔ g_ld ls[1]? (fun v => t_a v ∧ j_kX b L xs M_law post cut n 298 ls (v :: r) w cb sb)) ∧
  (∀ (r : List Value), j_goX b L xs M_law post cut (n + 1) 298 ls r w cb sb ↔ g_ld ls[0]? (fun v => t_a v ∧ j_kX b L xs M_law post cut n 299 ls (v :: r) w cb sb)) ∧
  (∀ (r : List Value), j_goX b L xs M_law post cut (n + 1) 299 ls r w cb sb ↔ g_ld ls[3]? (fun v => t_i v ∧ j_kX b L xs M_law post cut n 300 ls (v :: r) w cb sb)) ∧
  (∀ (r : List Value), j_goX b L xs M_law post cut (n + 1) 300 ls r w cb sb ↔ j_kX b L xs M_law post cut n 301 ls (.int (Int32.ofInt 1) :: r) w cb sb) ∧
  (∀ (r : List Value) (x y : Int32), j_goX b L xs M_law post cut (n + 1) 301 ls (.int y :: .int x :: r) w cb sb ↔ j_kX b L xs M_law post cut n 302 ls (.int (x + y) :: r) w cb sb) ∧
  (∀ (r : List Value) (a : Nat) (j : Int32), j_goX b L xs M_law post cut (n + 1) 302 ls (.int j :: .ref a :: r) w cb sb ↔ a = b ∧ vp_in j L ∧ j_kX b L xs M_law post cut n 303 ls (.int (xs j.toNatClampNeg) :: r) w cb sb) ∧
  (∀ (r : List Value), j_goX b L xs M_law post cut (n + 1) 303 ls r w cb sb ↔ g_ld ls[0]? (fun v => t_a v ∧ j_kX b L xs M_law post cut n 304 ls (v :: r) w cb sb)) ∧
  (∀ (r : List Value), j_goX b L xs M_law post cut (n + 1) 304 ls r w cb sb ↔ g_ld ls[3]? (fun v => t_i v ∧ j_kX b L xs M_law post cut n 305 ls (v :: r) w cb sb)) ∧
  (∀ (r : List Value), j_goX b L xs M_law post cut (n + 1) 305 ls r w cb sb ↔ j_kX b L xs M_law post cut n 306 ls (.int (Int32.ofInt 2) :: r) w cb sb) ∧
  (∀ (r : List Value) (x y : Int32), j_goX b L xs M_law post cut (n + 1) 306 ls (.int y :: .int x :: r) w cb sb ↔ j_kX b L xs M_law post cut n 307 ls (.int (x + y) :: r) w cb sb) ∧
  (∀ (r : List Value) (a : Nat) (j : Int32), j_goX b L xs M_law post cut (n + 1) 307 ls (.int j :: .ref a :: r) w cb sb ↔ a = b ∧ vp_in j L ∧ j_kX b L xs M_law post cut n 308 ls (.int (xs j.toNatClampNeg) :: r) w cb sb) ∧
  (∀ (r : List Value) (a0 a1 : Value) (z : Nat), j_goX b L xs M_law post cut (n + 1) 308 ls (a1 :: a0 :: .ref z :: r) w cb sb ↔ g_ob 0 (w z) (fun _ => True) ∧ j_w8 r ∧ g_call (jmt 32) [.ref z, a0, a1] w cb sb (fun v w' c s => j_kX b L xs M_law post cut n 311 ls (v.toList ++ r) w' c s)) ∧
  (∀ (r : List Value), j_goX b L xs M_law post cut (n + 1) 311 ls r w cb sb ↔ g_ld ls[2]? (fun v => t_a v ∧ j_kX b L xs M_law post cut n 312 ls (v :: r) w cb sb)) ∧
  (∀ (r : List Value), j_goX b L xs M_law post cut (n + 1) 312 ls r w cb sb ↔ g_ld ls[0]? (fun v => t_a v ∧ j_kX b L xs M_law post cut n 313 ls (v :: r) w cb sb)) ∧
  (∀ (r : List Value), j_goX b L xs M_law post cut (n + 1) 313 ls r w cb sb ↔ g_ld ls[3]? (fun v => t_i v ∧ j_kX b L xs M_law post cut n 314 ls (v :: r) w cb sb)) ∧
  (∀ (r : List Value), j_goX b L xs M_law post cut (n + 1) 314 ls r w cb sb ↔ j_kX b L xs M_law post cut n 315 ls (.int (Int32.ofInt 1) :: r) w cb sb) ∧
  (∀ (r : List Value) (x y : Int32), j_goX b L xs M_law post cut (n + 1) 315 ls (.int y :: .int x :: r) w cb sb ↔ j_kX b L xs M_law post cut n 316 ls (.int (x + y) :: r) w cb sb) ∧
  (∀ (r : List Value) (a : Nat) (j : Int32), j_goX b L xs M_law post cut (n + 1) 316 ls (.int j :: .ref a :: r) w cb sb ↔ a = b ∧ vp_in j L ∧ j_kX b L xs M_law post cut n 317 ls (.int (xs j.toNatClampNeg) :: r) w cb sb) ∧
  (∀ (r : List Value), j_goX b L xs M_law post cut (n + 1) 317 ls r w cb sb ↔ g_ld ls[0]? (fun v => t_a v ∧ j_kX b L xs M_law post cut n 318 ls (v :: r) w cb sb)) ∧
  (∀ (r : List Value), j_goX b L xs M_law post cut (n + 1) 318 ls r w cb sb ↔ g_ld ls[3]? (fun v => t_i v ∧ j_kX b L xs M_law post cut n 319 ls (v :: r) w cb sb)) ∧
  (∀ (r : List Value), j_goX b L xs M_law post cut (n + 1) 319 ls r w cb sb ↔ j_kX b L xs M_law post cut n 320 ls (.int (Int32.ofInt 2) :: r) w cb sb) ∧
  (∀ (r : List Value) (x y : Int32), j_goX b L xs M_law post cut (n + 1) 320 ls (.int y :: .int x :: r) w cb sb ↔ j_kX b L xs M_law post cut n 321 ls (.int (x + y) :: r) w cb sb) ∧
  (∀ (r : List Value) (a : Nat) (j : Int32), j_goX b L xs M_law post cut (n + 1) 321 ls (.int j :: .ref a :: r) w cb sb ↔ a = b ∧ vp_in j L ∧ j_kX b L xs M_law post cut n 322 ls (.int (xs j.toNatClampNeg) :: r) w cb sb) ∧
  (∀ (r : List Value) (a0 a1 : Value) (z : Nat), j_goX b L xs M_law post cut (n + 1) 322 ls (a1 :: a0 :: .ref z :: r) w cb sb ↔ g_ob 8 (w z) (fun _ => True) ∧ j_w8 r ∧ g_call (jmt 93) [.ref z, a0, a1] w cb sb (fun v w' c s => j_kX b L xs M_law post cut n 325 ls (v.toList ++ r) w' c s)) ∧
  (∀ (r : List Value) (a z : Int32), j_goX b L xs M_law post cut (n + 1) 325 ls (.int z :: .int a :: r) w cb sb ↔ (a = z → j_kX b L xs M_law post cut n 775 ls r w cb sb) ∧ (¬ (a = z) → j_kX b L xs M_law post cut n 328 ls r w cb sb)) ∧
  (∀ (r : List Value), j_goX b L xs M_law post cut (n + 1) 328 ls r w cb sb ↔ j_kX b L xs M_law post cut n 329 ls (.int (Int32.ofInt 0) :: r) w cb sb) ∧
  (∀ (a : Int32), j_goX b L xs M_law post cut (n + 1) 329 ls [.int a] w cb sb ↔ narrow .boolean (.int a) = .int a ∧ post (some (.int a)) w) := ⟨fun _ => (j_goX_s rfl rfl).trans e_aload_n,
  fun _ => (j_goX_s rfl rfl).trans e_aload_n,
  fun _ => (j_goX_s rfl rfl).trans e_iload_n,
  fun _ => (j_goX_s rfl rfl).trans e_iconst,
  fun _ _ _ => (j_goX_s rfl rfl).trans e_iadd,
  fun _ _ _ => j_goX_ld rfl,
  fun _ => (j_goX_s rfl rfl).trans e_aload_n,
  fun _ => (j_goX_s rfl rfl).trans e_iload_n,
  fun _ => (j_goX_s rfl rfl).trans e_iconst,
  fun _ _ _ => (j_goX_s rfl rfl).trans e_iadd,
  fun _ _ _ => j_goX_ld rfl,
  fun _ _ _ _ => (j_goX_s rfl rfl).trans e_callv,
  fun _ => (j_goX_s rfl rfl).trans e_aload_n,
  fun _ => (j_goX_s rfl rfl).trans e_aload_n,
  fun _ => (j_goX_s rfl rfl).trans e_iload_n,
  fun _ => (j_goX_s rfl rfl).trans e_iconst,
  fun _ _ _ => (j_goX_s rfl rfl).trans e_iadd,
  fun _ _ _ => j_goX_ld rfl,
  fun _ => (j_goX_s rfl rfl).trans e_aload_n,
  fun _ => (j_goX_s rfl rfl).trans e_iload_n,
  fun _ => (j_goX_s rfl rfl).trans e_iconst,
  fun _ _ _ => (j_goX_s rfl rfl).trans e_iadd,
  fun _ _ _ => j_goX_ld rfl,
  fun _ _ _ _ => (j_goX_s rfl rfl).trans e_callv,
  fun _ _ _ => (j_goX_s rfl rfl).trans e_icmp,
  fun _ => (j_goX_s rfl rfl).trans e_iconst,
  fun _ => (j_goX_s rfl rfl).trans e_iret⟩
set_option maxRecDepth 100000 in
set_option maxHeartbeats 8000000 in
theorem st_law_6 {b L : Nat} {xs : Nat → Int32} {post : Option Value → jW → Prop} {cut : List Nat} {n : Nat} {ls : jL} {w : jW} {cb sb : Nat} : (∀ (r : List Value), j_goX b L xs M_law post cut (n + 1) 330 ls r w cb sb ↔ g_ld ls[1]? (fun v => t_a v ∧ j_kX b L xs M_law post cut n 331 ls (v :: r) w cb sb)) ∧
  (∀ (r : List Value), j_goX b L xs M_law post cut (n + 1) 331 ls r w cb sb ↔ g_ld ls[0]? (fun v => t_a v ∧ j_kX b L xs M_law post cut n 332 ls (v :: r) w cb sb)) ∧
  (∀ (r : List Value), j_goX b L xs M_law post cut (n + 1) 332 ls r w cb sb ↔ g_ld ls[3]? (fun v => t_i v ∧ j_kX b L xs M_law post cut n 333 ls (v :: r) w cb sb)) ∧
  (∀ (r : List Value), j_goX b L xs M_law post cut (n + 1) 333 ls r w cb sb ↔ j_kX b L xs M_law post cut n 334 ls (.int (Int32.ofInt 1) :: r) w cb sb) ∧
  (∀ (r : List Value) (x y : Int32), j_goX b L xs M_law post cut (n + 1) 334 ls (.int y :: .int x :: r) w cb sb ↔ j_kX b L xs M_law post cut n 335 ls (.int (x + y) :: r) w cb sb) ∧
  (∀ (r : List Value) (a : Nat) (j : Int32), j_goX b L xs M_law post cut (n + 1) 335 ls (.int j :: .ref a :: r) w cb sb ↔ a = b ∧ vp_in j L ∧ j_kX b L xs M_law post cut n 336 ls (.int (xs j.toNatClampNeg) :: r) w cb sb) ∧
  (∀ (r : List Value), j_goX b L xs M_law post cut (n + 1) 336 ls r w cb sb ↔ g_ld ls[0]? (fun v => t_a v ∧ j_kX b L xs M_law post cut n 337 ls (v :: r) w cb sb)) ∧
  (∀ (r : List Value), j_goX b L xs M_law post cut (n + 1) 337 ls r w cb sb ↔ g_ld ls[3]? (fun v => t_i v ∧ j_kX b L xs M_law post cut n 338 ls (v :: r) w cb sb)) ∧
  (∀ (r : List Value), j_goX b L xs M_law post cut (n + 1) 338 ls r w cb sb ↔ j_kX b L xs M_law post cut n 339 ls (.int (Int32.ofInt 2) :: r) w cb sb) ∧
  (∀ (r : List Value) (x y : Int32), j_goX b L xs M_law post cut (n + 1) 339 ls (.int y :: .int x :: r) w cb sb ↔ j_kX b L xs M_law post cut n 340 ls (.int (x + y) :: r) w cb sb) ∧
  (∀ (r : List Value) (a : Nat) (j : Int32), j_goX b L xs M_law post cut (n + 1) 340 ls (.int j :: .ref a :: r) w cb sb ↔ a = b ∧ vp_in j L ∧ j_kX b L xs M_law post cut n 341 ls (.int (xs j.toNatClampNeg) :: r) w cb sb) ∧
  (∀ (r : List Value) (a0 a1 : Value) (z : Nat), j_goX b L xs M_law post cut (n + 1) 341 ls (a1 :: a0 :: .ref z :: r) w cb sb ↔ g_ob 0 (w z) (fun _ => True) ∧ j_w8 r ∧ g_call (jmt 34) [.ref z, a0, a1] w cb sb (fun v w' c s => j_kX b L xs M_law post cut n 344 ls (v.toList ++ r) w' c s)) ∧
  (∀ (r : List Value), j_goX b L xs M_law post cut (n + 1) 344 ls r w cb sb ↔ g_ld ls[2]? (fun v => t_a v ∧ j_kX b L xs M_law post cut n 345 ls (v :: r) w cb sb)) ∧
  (∀ (r : List Value), j_goX b L xs M_law post cut (n + 1) 345 ls r w cb sb ↔ g_ld ls[0]? (fun v => t_a v ∧ j_kX b L xs M_law post cut n 346 ls (v :: r) w cb sb)) ∧
  (∀ (r : List Value), j_goX b L xs M_law post cut (n + 1) 346 ls r w cb sb ↔ g_ld ls[3]? (fun v => t_i v ∧ j_kX b L xs M_law post cut n 347 ls (v :: r) w cb sb)) ∧
  (∀ (r : List Value), j_goX b L xs M_law post cut (n + 1) 347 ls r w cb sb ↔ j_kX b L xs M_law post cut n 348 ls (.int (Int32.ofInt 1) :: r) w cb sb) ∧
  (∀ (r : List Value) (x y : Int32), j_goX b L xs M_law post cut (n + 1) 348 ls (.int y :: .int x :: r) w cb sb ↔ j_kX b L xs M_law post cut n 349 ls (.int (x + y) :: r) w cb sb) ∧
  (∀ (r : List Value) (a : Nat) (j : Int32), j_goX b L xs M_law post cut (n + 1) 349 ls (.int j :: .ref a :: r) w cb sb ↔ a = b ∧ vp_in j L ∧ j_kX b L xs M_law post cut n 350 ls (.int (xs j.toNatClampNeg) :: r) w cb sb) ∧
  (∀ (r : List Value), j_goX b L xs M_law post cut (n + 1) 350 ls r w cb sb ↔ g_ld ls[0]? (fun v => t_a v ∧ j_kX b L xs M_law post cut n 351 ls (v :: r) w cb sb)) ∧
  (∀ (r : List Value), j_goX b L xs M_law post cut (n + 1) 351 ls r w cb sb ↔ g_ld ls[3]? (fun v => t_i v ∧ j_kX b L xs M_law post cut n 352 ls (v :: r) w cb sb)) ∧
  (∀ (r : List Value), j_goX b L xs M_law post cut (n + 1) 352 ls r w cb sb ↔ j_kX b L xs M_law post cut n 353 ls (.int (Int32.ofInt 2) :: r) w cb sb) ∧
  (∀ (r : List Value) (x y : Int32), j_goX b L xs M_law post cut (n + 1) 353 ls (.int y :: .int x :: r) w cb sb ↔ j_kX b L xs M_law post cut n 354 ls (.int (x + y) :: r) w cb sb) ∧
  (∀ (r : List Value) (a : Nat) (j : Int32), j_goX b L xs M_law post cut (n + 1) 354 ls (.int j :: .ref a :: r) w cb sb ↔ a = b ∧ vp_in j L ∧ j_kX b L xs M_law post cut n 355 ls (.int (xs j.toNatClampNeg) :: r) w cb sb) ∧
  (∀ (r : List Value) (a0 a1 : Value) (z : Nat), j_goX b L xs M_law post cut (n + 1) 355 ls (a1 :: a0 :: .ref z :: r) w cb sb ↔ g_ob 8 (w z) (fun _ => True) ∧ j_w8 r ∧ g_call (jmt 94) [.ref z, a0, a1] w cb sb (fun v w' c s => j_kX b L xs M_law post cut n 358 ls (v.toList ++ r) w' c s)) ∧
  (∀ (r : List Value) (a z : Int32), j_goX b L xs M_law post cut (n + 1) 358 ls (.int z :: .int a :: r) w cb sb ↔ (a = z → j_kX b L xs M_law post cut n 775 ls r w cb sb) ∧ (¬ (a = z) → j_kX b L xs M_law post cut n 361 ls r w cb sb)) ∧
  (∀ (r : List Value), j_goX b L xs M_law post cut (n + 1) 361 ls r w cb sb ↔ j_kX b L xs M_law post cut n 362 ls (.int (Int32.ofInt 0) :: r) w cb sb) ∧
  (∀ (a : Int32), j_goX b L xs M_law post cut (n + 1) 362 ls [.int a] w cb sb ↔ narrow .boolean (.int a) = .int a ∧ post (some (.int a)) w) := ⟨fun _ => (j_goX_s rfl rfl).trans e_aload_n,
  fun _ => (j_goX_s rfl rfl).trans e_aload_n,
  fun _ => (j_goX_s rfl rfl).trans e_iload_n,
  fun _ => (j_goX_s rfl rfl).trans e_iconst,
  fun _ _ _ => (j_goX_s rfl rfl).trans e_iadd,
  fun _ _ _ => j_goX_ld rfl,
  fun _ => (j_goX_s rfl rfl).trans e_aload_n,
  fun _ => (j_goX_s rfl rfl).trans e_iload_n,
  fun _ => (j_goX_s rfl rfl).trans e_iconst,
  fun _ _ _ => (j_goX_s rfl rfl).trans e_iadd,
  fun _ _ _ => j_goX_ld rfl,
  fun _ _ _ _ => (j_goX_s rfl rfl).trans e_callv,
  fun _ => (j_goX_s rfl rfl).trans e_aload_n,
  fun _ => (j_goX_s rfl rfl).trans e_aload_n,
  fun _ => (j_goX_s rfl rfl).trans e_iload_n,
  fun _ => (j_goX_s rfl rfl).trans e_iconst,
  fun _ _ _ => (j_goX_s rfl rfl).trans e_iadd,
  fun _ _ _ => j_goX_ld rfl,
  fun _ => (j_goX_s rfl rfl).trans e_aload_n,
  fun _ => (j_goX_s rfl rfl).trans e_iload_n,
  fun _ => (j_goX_s rfl rfl).trans e_iconst,
  fun _ _ _ => (j_goX_s rfl rfl).trans e_iadd,
  fun _ _ _ => j_goX_ld rfl,
  fun _ _ _ _ => (j_goX_s rfl rfl).trans e_callv,
  fun _ _ _ => (j_goX_s rfl rfl).trans e_icmp,
  fun _ => (j_goX_s rfl rfl).trans e_iconst,
  fun _ => (j_goX_s rfl rfl).trans e_iret⟩
set_option maxRecDepth 100000 in
set_option maxHeartbeats 8000000 in
theorem st_law_7 {b L : Nat} {xs : Nat → Int32} {post : Option Value → jW → Prop} {cut : List Nat} {n : Nat} {ls : jL} {w : jW} {cb sb : Nat} : (∀ (r : List Value), j_goX b L xs M_law post cut (n + 1) 363 ls r w cb sb ↔ g_ld ls[1]? (fun v => t_a v ∧ j_kX b L xs M_law post cut n 364 ls (v :: r) w cb sb)) ∧
  (∀ (r : List Value), j_goX b L xs M_law post cut (n + 1) 364 ls r w cb sb ↔ g_ld ls[0]? (fun v => t_a v ∧ j_kX b L xs M_law post cut n 365 ls (v :: r) w cb sb)) ∧
  (∀ (r : List Value), j_goX b L xs M_law post cut (n + 1) 365 ls r w cb sb ↔ g_ld ls[3]? (fun v => t_i v ∧ j_kX b L xs M_law post cut n 366 ls (v :: r) w cb sb)) ∧
  (∀ (r : List Value), j_goX b L xs M_law post cut (n + 1) 366 ls r w cb sb ↔ j_kX b L xs M_law post cut n 367 ls (.int (Int32.ofInt 1) :: r) w cb sb) ∧
  (∀ (r : List Value) (x y : Int32), j_goX b L xs M_law post cut (n + 1) 367 ls (.int y :: .int x :: r) w cb sb ↔ j_kX b L xs M_law post cut n 368 ls (.int (x + y) :: r) w cb sb) ∧
  (∀ (r : List Value) (a : Nat) (j : Int32), j_goX b L xs M_law post cut (n + 1) 368 ls (.int j :: .ref a :: r) w cb sb ↔ a = b ∧ vp_in j L ∧ j_kX b L xs M_law post cut n 369 ls (.int (xs j.toNatClampNeg) :: r) w cb sb) ∧
  (∀ (r : List Value), j_goX b L xs M_law post cut (n + 1) 369 ls r w cb sb ↔ g_ld ls[0]? (fun v => t_a v ∧ j_kX b L xs M_law post cut n 370 ls (v :: r) w cb sb)) ∧
  (∀ (r : List Value), j_goX b L xs M_law post cut (n + 1) 370 ls r w cb sb ↔ g_ld ls[3]? (fun v => t_i v ∧ j_kX b L xs M_law post cut n 371 ls (v :: r) w cb sb)) ∧
  (∀ (r : List Value), j_goX b L xs M_law post cut (n + 1) 371 ls r w cb sb ↔ j_kX b L xs M_law post cut n 372 ls (.int (Int32.ofInt 2) :: r) w cb sb) ∧
  (∀ (r : List Value) (x y : Int32), j_goX b L xs M_law post cut (n + 1) 372 ls (.int y :: .int x :: r) w cb sb ↔ j_kX b L xs M_law post cut n 373 ls (.int (x + y) :: r) w cb sb) ∧
  (∀ (r : List Value) (a : Nat) (j : Int32), j_goX b L xs M_law post cut (n + 1) 373 ls (.int j :: .ref a :: r) w cb sb ↔ a = b ∧ vp_in j L ∧ j_kX b L xs M_law post cut n 374 ls (.int (xs j.toNatClampNeg) :: r) w cb sb) ∧
  (∀ (r : List Value) (a0 a1 : Value) (z : Nat), j_goX b L xs M_law post cut (n + 1) 374 ls (a1 :: a0 :: .ref z :: r) w cb sb ↔ g_ob 0 (w z) (fun _ => True) ∧ j_w8 r ∧ g_call (jmt 40) [.ref z, a0, a1] w cb sb (fun v w' c s => j_kX b L xs M_law post cut n 377 ls (v.toList ++ r) w' c s)) ∧
  (∀ (r : List Value), j_goX b L xs M_law post cut (n + 1) 377 ls r w cb sb ↔ g_ld ls[2]? (fun v => t_a v ∧ j_kX b L xs M_law post cut n 378 ls (v :: r) w cb sb)) ∧
  (∀ (r : List Value), j_goX b L xs M_law post cut (n + 1) 378 ls r w cb sb ↔ g_ld ls[0]? (fun v => t_a v ∧ j_kX b L xs M_law post cut n 379 ls (v :: r) w cb sb)) ∧
  (∀ (r : List Value), j_goX b L xs M_law post cut (n + 1) 379 ls r w cb sb ↔ g_ld ls[3]? (fun v => t_i v ∧ j_kX b L xs M_law post cut n 380 ls (v :: r) w cb sb)) ∧
  (∀ (r : List Value), j_goX b L xs M_law post cut (n + 1) 380 ls r w cb sb ↔ j_kX b L xs M_law post cut n 381 ls (.int (Int32.ofInt 1) :: r) w cb sb) ∧
  (∀ (r : List Value) (x y : Int32), j_goX b L xs M_law post cut (n + 1) 381 ls (.int y :: .int x :: r) w cb sb ↔ j_kX b L xs M_law post cut n 382 ls (.int (x + y) :: r) w cb sb) ∧
  (∀ (r : List Value) (a : Nat) (j : Int32), j_goX b L xs M_law post cut (n + 1) 382 ls (.int j :: .ref a :: r) w cb sb ↔ a = b ∧ vp_in j L ∧ j_kX b L xs M_law post cut n 383 ls (.int (xs j.toNatClampNeg) :: r) w cb sb) ∧
  (∀ (r : List Value), j_goX b L xs M_law post cut (n + 1) 383 ls r w cb sb ↔ g_ld ls[0]? (fun v => t_a v ∧ j_kX b L xs M_law post cut n 384 ls (v :: r) w cb sb)) ∧
  (∀ (r : List Value), j_goX b L xs M_law post cut (n + 1) 384 ls r w cb sb ↔ g_ld ls[3]? (fun v => t_i v ∧ j_kX b L xs M_law post cut n 385 ls (v :: r) w cb sb)) ∧
  (∀ (r : List Value), j_goX b L xs M_law post cut (n + 1) 385 ls r w cb sb ↔ j_kX b L xs M_law post cut n 386 ls (.int (Int32.ofInt 2) :: r) w cb sb) ∧
  (∀ (r : List Value) (x y : Int32), j_goX b L xs M_law post cut (n + 1) 386 ls (.int y :: .int x :: r) w cb sb ↔ j_kX b L xs M_law post cut n 387 ls (.int (x + y) :: r) w cb sb) ∧
  (∀ (r : List Value) (a : Nat) (j : Int32), j_goX b L xs M_law post cut (n + 1) 387 ls (.int j :: .ref a :: r) w cb sb ↔ a = b ∧ vp_in j L ∧ j_kX b L xs M_law post cut n 388 ls (.int (xs j.toNatClampNeg) :: r) w cb sb) ∧
  (∀ (r : List Value) (a0 a1 : Value) (z : Nat), j_goX b L xs M_law post cut (n + 1) 388 ls (a1 :: a0 :: .ref z :: r) w cb sb ↔ g_ob 8 (w z) (fun _ => True) ∧ j_w8 r ∧ g_call (jmt 97) [.ref z, a0, a1] w cb sb (fun v w' c s => j_kX b L xs M_law post cut n 391 ls (v.toList ++ r) w' c s)) ∧
  (∀ (r : List Value) (a z : Int32), j_goX b L xs M_law post cut (n + 1) 391 ls (.int z :: .int a :: r) w cb sb ↔ (a = z → j_kX b L xs M_law post cut n 775 ls r w cb sb) ∧ (¬ (a = z) → j_kX b L xs M_law post cut n 394 ls r w cb sb)) ∧
  (∀ (r : List Value), j_goX b L xs M_law post cut (n + 1) 394 ls r w cb sb ↔ j_kX b L xs M_law post cut n 395 ls (.int (Int32.ofInt 0) :: r) w cb sb) ∧
  (∀ (a : Int32), j_goX b L xs M_law post cut (n + 1) 395 ls [.int a] w cb sb ↔ narrow .boolean (.int a) = .int a ∧ post (some (.int a)) w) := ⟨fun _ => (j_goX_s rfl rfl).trans e_aload_n,
  fun _ => (j_goX_s rfl rfl).trans e_aload_n,
  fun _ => (j_goX_s rfl rfl).trans e_iload_n,
  fun _ => (j_goX_s rfl rfl).trans e_iconst,
  fun _ _ _ => (j_goX_s rfl rfl).trans e_iadd,
  fun _ _ _ => j_goX_ld rfl,
  fun _ => (j_goX_s rfl rfl).trans e_aload_n,
  fun _ => (j_goX_s rfl rfl).trans e_iload_n,
  fun _ => (j_goX_s rfl rfl).trans e_iconst,
  fun _ _ _ => (j_goX_s rfl rfl).trans e_iadd,
  fun _ _ _ => j_goX_ld rfl,
  fun _ _ _ _ => (j_goX_s rfl rfl).trans e_callv,
  fun _ => (j_goX_s rfl rfl).trans e_aload_n,
  fun _ => (j_goX_s rfl rfl).trans e_aload_n,
  fun _ => (j_goX_s rfl rfl).trans e_iload_n,
  fun _ => (j_goX_s rfl rfl).trans e_iconst,
  fun _ _ _ => (j_goX_s rfl rfl).trans e_iadd,
  fun _ _ _ => j_goX_ld rfl,
  fun _ => (j_goX_s rfl rfl).trans e_aload_n,
  fun _ => (j_goX_s rfl rfl).trans e_iload_n,
  fun _ => (j_goX_s rfl rfl).trans e_iconst,
  fun _ _ _ => (j_goX_s rfl rfl).trans e_iadd,
  fun _ _ _ => j_goX_ld rfl,
  fun _ _ _ _ => (j_goX_s rfl rfl).trans e_callv,
  fun _ _ _ => (j_goX_s rfl rfl).trans e_icmp,
  fun _ => (j_goX_s rfl rfl).trans e_iconst,
  fun _ => (j_goX_s rfl rfl).trans e_iret⟩
set_option maxRecDepth 100000 in
set_option maxHeartbeats 8000000 in
theorem st_law_8 {b L : Nat} {xs : Nat → Int32} {post : Option Value → jW → Prop} {cut : List Nat} {n : Nat} {ls : jL} {w : jW} {cb sb : Nat} : (∀ (r : List Value), j_goX b L xs M_law post cut (n + 1) 396 ls r w cb sb ↔ g_ld ls[1]? (fun v => t_a v ∧ j_kX b L xs M_law post cut n 397 ls (v :: r) w cb sb)) ∧
  (∀ (r : List Value), j_goX b L xs M_law post cut (n + 1) 397 ls r w cb sb ↔ g_ld ls[0]? (fun v => t_a v ∧ j_kX b L xs M_law post cut n 398 ls (v :: r) w cb sb)) ∧
  (∀ (r : List Value), j_goX b L xs M_law post cut (n + 1) 398 ls r w cb sb ↔ g_ld ls[3]? (fun v => t_i v ∧ j_kX b L xs M_law post cut n 399 ls (v :: r) w cb sb)) ∧
  (∀ (r : List Value), j_goX b L xs M_law post cut (n + 1) 399 ls r w cb sb ↔ j_kX b L xs M_law post cut n 400 ls (.int (Int32.ofInt 1) :: r) w cb sb) ∧
  (∀ (r : List Value) (x y : Int32), j_goX b L xs M_law post cut (n + 1) 400 ls (.int y :: .int x :: r) w cb sb ↔ j_kX b L xs M_law post cut n 401 ls (.int (x + y) :: r) w cb sb) ∧
  (∀ (r : List Value) (a : Nat) (j : Int32), j_goX b L xs M_law post cut (n + 1) 401 ls (.int j :: .ref a :: r) w cb sb ↔ a = b ∧ vp_in j L ∧ j_kX b L xs M_law post cut n 402 ls (.int (xs j.toNatClampNeg) :: r) w cb sb) ∧
  (∀ (r : List Value), j_goX b L xs M_law post cut (n + 1) 402 ls r w cb sb ↔ g_ld ls[0]? (fun v => t_a v ∧ j_kX b L xs M_law post cut n 403 ls (v :: r) w cb sb)) ∧
  (∀ (r : List Value), j_goX b L xs M_law post cut (n + 1) 403 ls r w cb sb ↔ g_ld ls[3]? (fun v => t_i v ∧ j_kX b L xs M_law post cut n 404 ls (v :: r) w cb sb)) ∧
  (∀ (r : List Value), j_goX b L xs M_law post cut (n + 1) 404 ls r w cb sb ↔ j_kX b L xs M_law post cut n 405 ls (.int (Int32.ofInt 2) :: r) w cb sb) ∧
  (∀ (r : List Value) (x y : Int32), j_goX b L xs M_law post cut (n + 1) 405 ls (.int y :: .int x :: r) w cb sb ↔ j_kX b L xs M_law post cut n 406 ls (.int (x + y) :: r) w cb sb) ∧
  (∀ (r : List Value) (a : Nat) (j : Int32), j_goX b L xs M_law post cut (n + 1) 406 ls (.int j :: .ref a :: r) w cb sb ↔ a = b ∧ vp_in j L ∧ j_kX b L xs M_law post cut n 407 ls (.int (xs j.toNatClampNeg) :: r) w cb sb) ∧
  (∀ (r : List Value), j_goX b L xs M_law post cut (n + 1) 407 ls r w cb sb ↔ g_ld ls[0]? (fun v => t_a v ∧ j_kX b L xs M_law post cut n 408 ls (v :: r) w cb sb)) ∧
  (∀ (r : List Value), j_goX b L xs M_law post cut (n + 1) 408 ls r w cb sb ↔ g_ld ls[3]? (fun v => t_i v ∧ j_kX b L xs M_law post cut n 409 ls (v :: r) w cb sb)) ∧
  (∀ (r : List Value), j_goX b L xs M_law post cut (n + 1) 409 ls r w cb sb ↔ j_kX b L xs M_law post cut n 410 ls (.int (Int32.ofInt 3) :: r) w cb sb) ∧
  (∀ (r : List Value) (x y : Int32), j_goX b L xs M_law post cut (n + 1) 410 ls (.int y :: .int x :: r) w cb sb ↔ j_kX b L xs M_law post cut n 411 ls (.int (x + y) :: r) w cb sb) ∧
  (∀ (r : List Value) (a : Nat) (j : Int32), j_goX b L xs M_law post cut (n + 1) 411 ls (.int j :: .ref a :: r) w cb sb ↔ a = b ∧ vp_in j L ∧ j_kX b L xs M_law post cut n 412 ls (.int (xs j.toNatClampNeg) :: r) w cb sb) ∧
  (∀ (r : List Value), j_goX b L xs M_law post cut (n + 1) 412 ls r w cb sb ↔ g_ld ls[0]? (fun v => t_a v ∧ j_kX b L xs M_law post cut n 413 ls (v :: r) w cb sb)) ∧
  (∀ (r : List Value), j_goX b L xs M_law post cut (n + 1) 413 ls r w cb sb ↔ g_ld ls[3]? (fun v => t_i v ∧ j_kX b L xs M_law post cut n 414 ls (v :: r) w cb sb)) ∧
  (∀ (r : List Value), j_goX b L xs M_law post cut (n + 1) 414 ls r w cb sb ↔ j_kX b L xs M_law post cut n 415 ls (.int (Int32.ofInt 4) :: r) w cb sb) ∧
  (∀ (r : List Value) (x y : Int32), j_goX b L xs M_law post cut (n + 1) 415 ls (.int y :: .int x :: r) w cb sb ↔ j_kX b L xs M_law post cut n 416 ls (.int (x + y) :: r) w cb sb) ∧
  (∀ (r : List Value) (a : Nat) (j : Int32), j_goX b L xs M_law post cut (n + 1) 416 ls (.int j :: .ref a :: r) w cb sb ↔ a = b ∧ vp_in j L ∧ j_kX b L xs M_law post cut n 417 ls (.int (xs j.toNatClampNeg) :: r) w cb sb) ∧
  (∀ (r : List Value) (a : Int32), j_goX b L xs M_law post cut (n + 1) 417 ls (.int a :: r) w cb sb ↔ (a = 0 → j_kX b L xs M_law post cut n 424 ls r w cb sb) ∧ (¬ (a = 0) → j_kX b L xs M_law post cut n 420 ls r w cb sb)) ∧
  (∀ (r : List Value), j_goX b L xs M_law post cut (n + 1) 420 ls r w cb sb ↔ j_kX b L xs M_law post cut n 421 ls (.int (Int32.ofInt 1) :: r) w cb sb) ∧
  (∀ (r : List Value), j_goX b L xs M_law post cut (n + 1) 421 ls r w cb sb ↔ j_kX b L xs M_law post cut n 425 ls r w cb sb) ∧
  (∀ (r : List Value), j_goX b L xs M_law post cut (n + 1) 424 ls r w cb sb ↔ j_kX b L xs M_law post cut n 425 ls (.int (Int32.ofInt 0) :: r) w cb sb) ∧
  (∀ (r : List Value) (a0 a1 a2 a3 : Value) (z : Nat), j_goX b L xs M_law post cut (n + 1) 425 ls (a3 :: a2 :: a1 :: a0 :: .ref z :: r) w cb sb ↔ g_ob 0 (w z) (fun _ => True) ∧ j_w8 r ∧ g_call (jmt 41) [.ref z, a0, a1, a2, a3] w cb sb (fun v w' c s => j_kX b L xs M_law post cut n 428 ls (v.toList ++ r) w' c s)) ∧
  (∀ (r : List Value), j_goX b L xs M_law post cut (n + 1) 428 ls r w cb sb ↔ g_ld ls[2]? (fun v => t_a v ∧ j_kX b L xs M_law post cut n 429 ls (v :: r) w cb sb)) ∧
  (∀ (r : List Value), j_goX b L xs M_law post cut (n + 1) 429 ls r w cb sb ↔ g_ld ls[0]? (fun v => t_a v ∧ j_kX b L xs M_law post cut n 430 ls (v :: r) w cb sb)) ∧
  (∀ (r : List Value), j_goX b L xs M_law post cut (n + 1) 430 ls r w cb sb ↔ g_ld ls[3]? (fun v => t_i v ∧ j_kX b L xs M_law post cut n 431 ls (v :: r) w cb sb)) ∧
  (∀ (r : List Value), j_goX b L xs M_law post cut (n + 1) 431 ls r w cb sb ↔ j_kX b L xs M_law post cut n 432 ls (.int (Int32.ofInt 1) :: r) w cb sb) ∧
  (∀ (r : List Value) (x y : Int32), j_goX b L xs M_law post cut (n + 1) 432 ls (.int y :: .int x :: r) w cb sb ↔ j_kX b L xs M_law post cut n 433 ls (.int (x + y) :: r) w cb sb) ∧
  (∀ (r : List Value) (a : Nat) (j : Int32), j_goX b L xs M_law post cut (n + 1) 433 ls (.int j :: .ref a :: r) w cb sb ↔ a = b ∧ vp_in j L ∧ j_kX b L xs M_law post cut n 434 ls (.int (xs j.toNatClampNeg) :: r) w cb sb) ∧
  (∀ (r : List Value), j_goX b L xs M_law post cut (n + 1) 434 ls r w cb sb ↔ g_ld ls[0]? (fun v => t_a v ∧ j_kX b L xs M_law post cut n 435 ls (v :: r) w cb sb)) ∧
  (∀ (r : List Value), j_goX b L xs M_law post cut (n + 1) 435 ls r w cb sb ↔ g_ld ls[3]? (fun v => t_i v ∧ j_kX b L xs M_law post cut n 436 ls (v :: r) w cb sb)) ∧
  (∀ (r : List Value), j_goX b L xs M_law post cut (n + 1) 436 ls r w cb sb ↔ j_kX b L xs M_law post cut n 437 ls (.int (Int32.ofInt 2) :: r) w cb sb) ∧
  (∀ (r : List Value) (x y : Int32), j_goX b L xs M_law post cut (n + 1) 437 ls (.int y :: .int x :: r) w cb sb ↔ j_kX b L xs M_law post cut n 438 ls (.int (x + y) :: r) w cb sb) ∧
  (∀ (r : List Value) (a : Nat) (j : Int32), j_goX b L xs M_law post cut (n + 1) 438 ls (.int j :: .ref a :: r) w cb sb ↔ a = b ∧ vp_in j L ∧ j_kX b L xs M_law post cut n 439 ls (.int (xs j.toNatClampNeg) :: r) w cb sb) ∧
  (∀ (r : List Value), j_goX b L xs M_law post cut (n + 1) 439 ls r w cb sb ↔ g_ld ls[0]? (fun v => t_a v ∧ j_kX b L xs M_law post cut n 440 ls (v :: r) w cb sb)) ∧
  (∀ (r : List Value), j_goX b L xs M_law post cut (n + 1) 440 ls r w cb sb ↔ g_ld ls[3]? (fun v => t_i v ∧ j_kX b L xs M_law post cut n 441 ls (v :: r) w cb sb)) ∧
  (∀ (r : List Value), j_goX b L xs M_law post cut (n + 1) 441 ls r w cb sb ↔ j_kX b L xs M_law post cut n 442 ls (.int (Int32.ofInt 3) :: r) w cb sb) ∧
  (∀ (r : List Value) (x y : Int32), j_goX b L xs M_law post cut (n + 1) 442 ls (.int y :: .int x :: r) w cb sb ↔ j_kX b L xs M_law post cut n 443 ls (.int (x + y) :: r) w cb sb) ∧
  (∀ (r : List Value) (a : Nat) (j : Int32), j_goX b L xs M_law post cut (n + 1) 443 ls (.int j :: .ref a :: r) w cb sb ↔ a = b ∧ vp_in j L ∧ j_kX b L xs M_law post cut n 444 ls (.int (xs j.toNatClampNeg) :: r) w cb sb) ∧
  (∀ (r : List Value), j_goX b L xs M_law post cut (n + 1) 444 ls r w cb sb ↔ g_ld ls[0]? (fun v => t_a v ∧ j_kX b L xs M_law post cut n 445 ls (v :: r) w cb sb)) ∧
  (∀ (r : List Value), j_goX b L xs M_law post cut (n + 1) 445 ls r w cb sb ↔ g_ld ls[3]? (fun v => t_i v ∧ j_kX b L xs M_law post cut n 446 ls (v :: r) w cb sb)) ∧
  (∀ (r : List Value), j_goX b L xs M_law post cut (n + 1) 446 ls r w cb sb ↔ j_kX b L xs M_law post cut n 447 ls (.int (Int32.ofInt 4) :: r) w cb sb) ∧
  (∀ (r : List Value) (x y : Int32), j_goX b L xs M_law post cut (n + 1) 447 ls (.int y :: .int x :: r) w cb sb ↔ j_kX b L xs M_law post cut n 448 ls (.int (x + y) :: r) w cb sb) ∧
  (∀ (r : List Value) (a : Nat) (j : Int32), j_goX b L xs M_law post cut (n + 1) 448 ls (.int j :: .ref a :: r) w cb sb ↔ a = b ∧ vp_in j L ∧ j_kX b L xs M_law post cut n 449 ls (.int (xs j.toNatClampNeg) :: r) w cb sb) ∧
  (∀ (r : List Value) (a : Int32), j_goX b L xs M_law post cut (n + 1) 449 ls (.int a :: r) w cb sb ↔ (a = 0 → j_kX b L xs M_law post cut n 456 ls r w cb sb) ∧ (¬ (a = 0) → j_kX b L xs M_law post cut n 452 ls r w cb sb)) ∧
  (∀ (r : List Value), j_goX b L xs M_law post cut (n + 1) 452 ls r w cb sb ↔ j_kX b L xs M_law post cut n 453 ls (.int (Int32.ofInt 1) :: r) w cb sb) ∧
  (∀ (r : List Value), j_goX b L xs M_law post cut (n + 1) 453 ls r w cb sb ↔ j_kX b L xs M_law post cut n 457 ls r w cb sb) ∧
  (∀ (r : List Value), j_goX b L xs M_law post cut (n + 1) 456 ls r w cb sb ↔ j_kX b L xs M_law post cut n 457 ls (.int (Int32.ofInt 0) :: r) w cb sb) ∧
  (∀ (r : List Value) (a0 a1 a2 a3 : Value) (z : Nat), j_goX b L xs M_law post cut (n + 1) 457 ls (a3 :: a2 :: a1 :: a0 :: .ref z :: r) w cb sb ↔ g_ob 8 (w z) (fun _ => True) ∧ j_w8 r ∧ g_call (jmt 98) [.ref z, a0, a1, a2, a3] w cb sb (fun v w' c s => j_kX b L xs M_law post cut n 460 ls (v.toList ++ r) w' c s)) ∧
  (∀ (r : List Value) (a z : Int32), j_goX b L xs M_law post cut (n + 1) 460 ls (.int z :: .int a :: r) w cb sb ↔ (a = z → j_kX b L xs M_law post cut n 775 ls r w cb sb) ∧ (¬ (a = z) → j_kX b L xs M_law post cut n 463 ls r w cb sb)) ∧
  (∀ (r : List Value), j_goX b L xs M_law post cut (n + 1) 463 ls r w cb sb ↔ j_kX b L xs M_law post cut n 464 ls (.int (Int32.ofInt 0) :: r) w cb sb) ∧
  (∀ (a : Int32), j_goX b L xs M_law post cut (n + 1) 464 ls [.int a] w cb sb ↔ narrow .boolean (.int a) = .int a ∧ post (some (.int a)) w) := ⟨fun _ => (j_goX_s rfl rfl).trans e_aload_n,
  fun _ => (j_goX_s rfl rfl).trans e_aload_n,
  fun _ => (j_goX_s rfl rfl).trans e_iload_n,
  fun _ => (j_goX_s rfl rfl).trans e_iconst,
  fun _ _ _ => (j_goX_s rfl rfl).trans e_iadd,
  fun _ _ _ => j_goX_ld rfl,
  fun _ => (j_goX_s rfl rfl).trans e_aload_n,
  fun _ => (j_goX_s rfl rfl).trans e_iload_n,
  fun _ => (j_goX_s rfl rfl).trans e_iconst,
  fun _ _ _ => (j_goX_s rfl rfl).trans e_iadd,
  fun _ _ _ => j_goX_ld rfl,
  fun _ => (j_goX_s rfl rfl).trans e_aload_n,
  fun _ => (j_goX_s rfl rfl).trans e_iload_n,
  fun _ => (j_goX_s rfl rfl).trans e_iconst,
  fun _ _ _ => (j_goX_s rfl rfl).trans e_iadd,
  fun _ _ _ => j_goX_ld rfl,
  fun _ => (j_goX_s rfl rfl).trans e_aload_n,
  fun _ => (j_goX_s rfl rfl).trans e_iload_n,
  fun _ => (j_goX_s rfl rfl).trans e_iconst,
  fun _ _ _ => (j_goX_s rfl rfl).trans e_iadd,
  fun _ _ _ => j_goX_ld rfl,
  fun _ _ => (j_goX_s rfl rfl).trans e_if,
  fun _ => (j_goX_s rfl rfl).trans e_iconst,
  fun _ => (j_goX_s rfl rfl).trans e_goto,
  fun _ => (j_goX_s rfl rfl).trans e_iconst,
  fun _ _ _ _ _ _ => (j_goX_s rfl rfl).trans e_callv,
  fun _ => (j_goX_s rfl rfl).trans e_aload_n,
  fun _ => (j_goX_s rfl rfl).trans e_aload_n,
  fun _ => (j_goX_s rfl rfl).trans e_iload_n,
  fun _ => (j_goX_s rfl rfl).trans e_iconst,
  fun _ _ _ => (j_goX_s rfl rfl).trans e_iadd,
  fun _ _ _ => j_goX_ld rfl,
  fun _ => (j_goX_s rfl rfl).trans e_aload_n,
  fun _ => (j_goX_s rfl rfl).trans e_iload_n,
  fun _ => (j_goX_s rfl rfl).trans e_iconst,
  fun _ _ _ => (j_goX_s rfl rfl).trans e_iadd,
  fun _ _ _ => j_goX_ld rfl,
  fun _ => (j_goX_s rfl rfl).trans e_aload_n,
  fun _ => (j_goX_s rfl rfl).trans e_iload_n,
  fun _ => (j_goX_s rfl rfl).trans e_iconst,
  fun _ _ _ => (j_goX_s rfl rfl).trans e_iadd,
  fun _ _ _ => j_goX_ld rfl,
  fun _ => (j_goX_s rfl rfl).trans e_aload_n,
  fun _ => (j_goX_s rfl rfl).trans e_iload_n,
  fun _ => (j_goX_s rfl rfl).trans e_iconst,
  fun _ _ _ => (j_goX_s rfl rfl).trans e_iadd,
  fun _ _ _ => j_goX_ld rfl,
  fun _ _ => (j_goX_s rfl rfl).trans e_if,
  fun _ => (j_goX_s rfl rfl).trans e_iconst,
  fun _ => (j_goX_s rfl rfl).trans e_goto,
  fun _ => (j_goX_s rfl rfl).trans e_iconst,
  fun _ _ _ _ _ _ => (j_goX_s rfl rfl).trans e_callv,
  fun _ _ _ => (j_goX_s rfl rfl).trans e_icmp,
  fun _ => (j_goX_s rfl rfl).trans e_iconst,
  fun _ => (j_goX_s rfl rfl).trans e_iret⟩
set_option maxRecDepth 100000 in
set_option maxHeartbeats 8000000 in
theorem st_law_9 {b L : Nat} {xs : Nat → Int32} {post : Option Value → jW → Prop} {cut : List Nat} {n : Nat} {ls : jL} {w : jW} {cb sb : Nat} : (∀ (r : List Value), j_goX b L xs M_law post cut (n + 1) 465 ls r w cb sb ↔ g_ld ls[1]? (fun v => t_a v ∧ j_kX b L xs M_law post cut n 466 ls (v :: r) w cb sb)) ∧
  (∀ (r : List Value), j_goX b L xs M_law post cut (n + 1) 466 ls r w cb sb ↔ g_ld ls[0]? (fun v => t_a v ∧ j_kX b L xs M_law post cut n 467 ls (v :: r) w cb sb)) ∧
  (∀ (r : List Value), j_goX b L xs M_law post cut (n + 1) 467 ls r w cb sb ↔ g_ld ls[3]? (fun v => t_i v ∧ j_kX b L xs M_law post cut n 468 ls (v :: r) w cb sb)) ∧
  (∀ (r : List Value), j_goX b L xs M_law post cut (n + 1) 468 ls r w cb sb ↔ j_kX b L xs M_law post cut n 469 ls (.int (Int32.ofInt 1) :: r) w cb sb) ∧
  (∀ (r : List Value) (x y : Int32), j_goX b L xs M_law post cut (n + 1) 469 ls (.int y :: .int x :: r) w cb sb ↔ j_kX b L xs M_law post cut n 470 ls (.int (x + y) :: r) w cb sb) ∧
  (∀ (r : List Value) (a : Nat) (j : Int32), j_goX b L xs M_law post cut (n + 1) 470 ls (.int j :: .ref a :: r) w cb sb ↔ a = b ∧ vp_in j L ∧ j_kX b L xs M_law post cut n 471 ls (.int (xs j.toNatClampNeg) :: r) w cb sb) ∧
  (∀ (r : List Value) (a0 : Value) (z : Nat), j_goX b L xs M_law post cut (n + 1) 471 ls (a0 :: .ref z :: r) w cb sb ↔ g_ob 0 (w z) (fun _ => True) ∧ j_w8 r ∧ g_call (jmt 45) [.ref z, a0] w cb sb (fun v w' c s => j_kX b L xs M_law post cut n 474 ls (v.toList ++ r) w' c s)) ∧
  (∀ (r : List Value), j_goX b L xs M_law post cut (n + 1) 474 ls r w cb sb ↔ g_ld ls[2]? (fun v => t_a v ∧ j_kX b L xs M_law post cut n 475 ls (v :: r) w cb sb)) ∧
  (∀ (r : List Value), j_goX b L xs M_law post cut (n + 1) 475 ls r w cb sb ↔ g_ld ls[0]? (fun v => t_a v ∧ j_kX b L xs M_law post cut n 476 ls (v :: r) w cb sb)) ∧
  (∀ (r : List Value), j_goX b L xs M_law post cut (n + 1) 476 ls r w cb sb ↔ g_ld ls[3]? (fun v => t_i v ∧ j_kX b L xs M_law post cut n 477 ls (v :: r) w cb sb)) ∧
  (∀ (r : List Value), j_goX b L xs M_law post cut (n + 1) 477 ls r w cb sb ↔ j_kX b L xs M_law post cut n 478 ls (.int (Int32.ofInt 1) :: r) w cb sb) ∧
  (∀ (r : List Value) (x y : Int32), j_goX b L xs M_law post cut (n + 1) 478 ls (.int y :: .int x :: r) w cb sb ↔ j_kX b L xs M_law post cut n 479 ls (.int (x + y) :: r) w cb sb) ∧
  (∀ (r : List Value) (a : Nat) (j : Int32), j_goX b L xs M_law post cut (n + 1) 479 ls (.int j :: .ref a :: r) w cb sb ↔ a = b ∧ vp_in j L ∧ j_kX b L xs M_law post cut n 480 ls (.int (xs j.toNatClampNeg) :: r) w cb sb) ∧
  (∀ (r : List Value) (a0 : Value) (z : Nat), j_goX b L xs M_law post cut (n + 1) 480 ls (a0 :: .ref z :: r) w cb sb ↔ g_ob 8 (w z) (fun _ => True) ∧ j_w8 r ∧ g_call (jmt 100) [.ref z, a0] w cb sb (fun v w' c s => j_kX b L xs M_law post cut n 483 ls (v.toList ++ r) w' c s)) ∧
  (∀ (r : List Value) (a z : Int32), j_goX b L xs M_law post cut (n + 1) 483 ls (.int z :: .int a :: r) w cb sb ↔ (a = z → j_kX b L xs M_law post cut n 775 ls r w cb sb) ∧ (¬ (a = z) → j_kX b L xs M_law post cut n 486 ls r w cb sb)) ∧
  (∀ (r : List Value), j_goX b L xs M_law post cut (n + 1) 486 ls r w cb sb ↔ j_kX b L xs M_law post cut n 487 ls (.int (Int32.ofInt 0) :: r) w cb sb) ∧
  (∀ (a : Int32), j_goX b L xs M_law post cut (n + 1) 487 ls [.int a] w cb sb ↔ narrow .boolean (.int a) = .int a ∧ post (some (.int a)) w) := ⟨fun _ => (j_goX_s rfl rfl).trans e_aload_n,
  fun _ => (j_goX_s rfl rfl).trans e_aload_n,
  fun _ => (j_goX_s rfl rfl).trans e_iload_n,
  fun _ => (j_goX_s rfl rfl).trans e_iconst,
  fun _ _ _ => (j_goX_s rfl rfl).trans e_iadd,
  fun _ _ _ => j_goX_ld rfl,
  fun _ _ _ => (j_goX_s rfl rfl).trans e_callv,
  fun _ => (j_goX_s rfl rfl).trans e_aload_n,
  fun _ => (j_goX_s rfl rfl).trans e_aload_n,
  fun _ => (j_goX_s rfl rfl).trans e_iload_n,
  fun _ => (j_goX_s rfl rfl).trans e_iconst,
  fun _ _ _ => (j_goX_s rfl rfl).trans e_iadd,
  fun _ _ _ => j_goX_ld rfl,
  fun _ _ _ => (j_goX_s rfl rfl).trans e_callv,
  fun _ _ _ => (j_goX_s rfl rfl).trans e_icmp,
  fun _ => (j_goX_s rfl rfl).trans e_iconst,
  fun _ => (j_goX_s rfl rfl).trans e_iret⟩
set_option maxRecDepth 100000 in
set_option maxHeartbeats 8000000 in
theorem st_law_10 {b L : Nat} {xs : Nat → Int32} {post : Option Value → jW → Prop} {cut : List Nat} {n : Nat} {ls : jL} {w : jW} {cb sb : Nat} : (∀ (r : List Value), j_goX b L xs M_law post cut (n + 1) 488 ls r w cb sb ↔ g_ld ls[1]? (fun v => t_a v ∧ j_kX b L xs M_law post cut n 489 ls (v :: r) w cb sb)) ∧
  (∀ (r : List Value), j_goX b L xs M_law post cut (n + 1) 489 ls r w cb sb ↔ g_ld ls[0]? (fun v => t_a v ∧ j_kX b L xs M_law post cut n 490 ls (v :: r) w cb sb)) ∧
  (∀ (r : List Value), j_goX b L xs M_law post cut (n + 1) 490 ls r w cb sb ↔ g_ld ls[3]? (fun v => t_i v ∧ j_kX b L xs M_law post cut n 491 ls (v :: r) w cb sb)) ∧
  (∀ (r : List Value), j_goX b L xs M_law post cut (n + 1) 491 ls r w cb sb ↔ j_kX b L xs M_law post cut n 492 ls (.int (Int32.ofInt 1) :: r) w cb sb) ∧
  (∀ (r : List Value) (x y : Int32), j_goX b L xs M_law post cut (n + 1) 492 ls (.int y :: .int x :: r) w cb sb ↔ j_kX b L xs M_law post cut n 493 ls (.int (x + y) :: r) w cb sb) ∧
  (∀ (r : List Value) (a : Nat) (j : Int32), j_goX b L xs M_law post cut (n + 1) 493 ls (.int j :: .ref a :: r) w cb sb ↔ a = b ∧ vp_in j L ∧ j_kX b L xs M_law post cut n 494 ls (.int (xs j.toNatClampNeg) :: r) w cb sb) ∧
  (∀ (r : List Value) (a0 : Value) (z : Nat), j_goX b L xs M_law post cut (n + 1) 494 ls (a0 :: .ref z :: r) w cb sb ↔ g_ob 0 (w z) (fun _ => True) ∧ j_w8 r ∧ g_call (jmt 66) [.ref z, a0] w cb sb (fun v w' c s => j_kX b L xs M_law post cut n 497 ls (v.toList ++ r) w' c s)) ∧
  (∀ (r : List Value), j_goX b L xs M_law post cut (n + 1) 497 ls r w cb sb ↔ g_ld ls[2]? (fun v => t_a v ∧ j_kX b L xs M_law post cut n 498 ls (v :: r) w cb sb)) ∧
  (∀ (r : List Value), j_goX b L xs M_law post cut (n + 1) 498 ls r w cb sb ↔ g_ld ls[0]? (fun v => t_a v ∧ j_kX b L xs M_law post cut n 499 ls (v :: r) w cb sb)) ∧
  (∀ (r : List Value), j_goX b L xs M_law post cut (n + 1) 499 ls r w cb sb ↔ g_ld ls[3]? (fun v => t_i v ∧ j_kX b L xs M_law post cut n 500 ls (v :: r) w cb sb)) ∧
  (∀ (r : List Value), j_goX b L xs M_law post cut (n + 1) 500 ls r w cb sb ↔ j_kX b L xs M_law post cut n 501 ls (.int (Int32.ofInt 1) :: r) w cb sb) ∧
  (∀ (r : List Value) (x y : Int32), j_goX b L xs M_law post cut (n + 1) 501 ls (.int y :: .int x :: r) w cb sb ↔ j_kX b L xs M_law post cut n 502 ls (.int (x + y) :: r) w cb sb) ∧
  (∀ (r : List Value) (a : Nat) (j : Int32), j_goX b L xs M_law post cut (n + 1) 502 ls (.int j :: .ref a :: r) w cb sb ↔ a = b ∧ vp_in j L ∧ j_kX b L xs M_law post cut n 503 ls (.int (xs j.toNatClampNeg) :: r) w cb sb) ∧
  (∀ (r : List Value) (a0 : Value) (z : Nat), j_goX b L xs M_law post cut (n + 1) 503 ls (a0 :: .ref z :: r) w cb sb ↔ g_ob 8 (w z) (fun _ => True) ∧ j_w8 r ∧ g_call (jmt 108) [.ref z, a0] w cb sb (fun v w' c s => j_kX b L xs M_law post cut n 506 ls (v.toList ++ r) w' c s)) ∧
  (∀ (r : List Value) (a z : Int32), j_goX b L xs M_law post cut (n + 1) 506 ls (.int z :: .int a :: r) w cb sb ↔ (a = z → j_kX b L xs M_law post cut n 775 ls r w cb sb) ∧ (¬ (a = z) → j_kX b L xs M_law post cut n 509 ls r w cb sb)) ∧
  (∀ (r : List Value), j_goX b L xs M_law post cut (n + 1) 509 ls r w cb sb ↔ j_kX b L xs M_law post cut n 510 ls (.int (Int32.ofInt 0) :: r) w cb sb) ∧
  (∀ (a : Int32), j_goX b L xs M_law post cut (n + 1) 510 ls [.int a] w cb sb ↔ narrow .boolean (.int a) = .int a ∧ post (some (.int a)) w) := ⟨fun _ => (j_goX_s rfl rfl).trans e_aload_n,
  fun _ => (j_goX_s rfl rfl).trans e_aload_n,
  fun _ => (j_goX_s rfl rfl).trans e_iload_n,
  fun _ => (j_goX_s rfl rfl).trans e_iconst,
  fun _ _ _ => (j_goX_s rfl rfl).trans e_iadd,
  fun _ _ _ => j_goX_ld rfl,
  fun _ _ _ => (j_goX_s rfl rfl).trans e_callv,
  fun _ => (j_goX_s rfl rfl).trans e_aload_n,
  fun _ => (j_goX_s rfl rfl).trans e_aload_n,
  fun _ => (j_goX_s rfl rfl).trans e_iload_n,
  fun _ => (j_goX_s rfl rfl).trans e_iconst,
  fun _ _ _ => (j_goX_s rfl rfl).trans e_iadd,
  fun _ _ _ => j_goX_ld rfl,
  fun _ _ _ => (j_goX_s rfl rfl).trans e_callv,
  fun _ _ _ => (j_goX_s rfl rfl).trans e_icmp,
  fun _ => (j_goX_s rfl rfl).trans e_iconst,
  fun _ => (j_goX_s rfl rfl).trans e_iret⟩
set_option maxRecDepth 100000 in
set_option maxHeartbeats 8000000 in
theorem st_law_11 {b L : Nat} {xs : Nat → Int32} {post : Option Value → jW → Prop} {cut : List Nat} {n : Nat} {ls : jL} {w : jW} {cb sb : Nat} : (∀ (r : List Value), j_goX b L xs M_law post cut (n + 1) 511 ls r w cb sb ↔ g_ld ls[1]? (fun v => t_a v ∧ j_kX b L xs M_law post cut n 512 ls (v :: r) w cb sb)) ∧
  (∀ (r : List Value), j_goX b L xs M_law post cut (n + 1) 512 ls r w cb sb ↔ g_ld ls[0]? (fun v => t_a v ∧ j_kX b L xs M_law post cut n 513 ls (v :: r) w cb sb)) ∧
  (∀ (r : List Value), j_goX b L xs M_law post cut (n + 1) 513 ls r w cb sb ↔ g_ld ls[3]? (fun v => t_i v ∧ j_kX b L xs M_law post cut n 514 ls (v :: r) w cb sb)) ∧
  (∀ (r : List Value), j_goX b L xs M_law post cut (n + 1) 514 ls r w cb sb ↔ j_kX b L xs M_law post cut n 515 ls (.int (Int32.ofInt 1) :: r) w cb sb) ∧
  (∀ (r : List Value) (x y : Int32), j_goX b L xs M_law post cut (n + 1) 515 ls (.int y :: .int x :: r) w cb sb ↔ j_kX b L xs M_law post cut n 516 ls (.int (x + y) :: r) w cb sb) ∧
  (∀ (r : List Value) (a : Nat) (j : Int32), j_goX b L xs M_law post cut (n + 1) 516 ls (.int j :: .ref a :: r) w cb sb ↔ a = b ∧ vp_in j L ∧ j_kX b L xs M_law post cut n 517 ls (.int (xs j.toNatClampNeg) :: r) w cb sb) ∧
  (∀ (r : List Value) (a0 : Value) (z : Nat), j_goX b L xs M_law post cut (n + 1) 517 ls (a0 :: .ref z :: r) w cb sb ↔ g_ob 0 (w z) (fun _ => True) ∧ j_w8 r ∧ g_call (jmt 67) [.ref z, a0] w cb sb (fun v w' c s => j_kX b L xs M_law post cut n 520 ls (v.toList ++ r) w' c s)) ∧
  (∀ (r : List Value), j_goX b L xs M_law post cut (n + 1) 520 ls r w cb sb ↔ g_ld ls[2]? (fun v => t_a v ∧ j_kX b L xs M_law post cut n 521 ls (v :: r) w cb sb)) ∧
  (∀ (r : List Value), j_goX b L xs M_law post cut (n + 1) 521 ls r w cb sb ↔ g_ld ls[0]? (fun v => t_a v ∧ j_kX b L xs M_law post cut n 522 ls (v :: r) w cb sb)) ∧
  (∀ (r : List Value), j_goX b L xs M_law post cut (n + 1) 522 ls r w cb sb ↔ g_ld ls[3]? (fun v => t_i v ∧ j_kX b L xs M_law post cut n 523 ls (v :: r) w cb sb)) ∧
  (∀ (r : List Value), j_goX b L xs M_law post cut (n + 1) 523 ls r w cb sb ↔ j_kX b L xs M_law post cut n 524 ls (.int (Int32.ofInt 1) :: r) w cb sb) ∧
  (∀ (r : List Value) (x y : Int32), j_goX b L xs M_law post cut (n + 1) 524 ls (.int y :: .int x :: r) w cb sb ↔ j_kX b L xs M_law post cut n 525 ls (.int (x + y) :: r) w cb sb) ∧
  (∀ (r : List Value) (a : Nat) (j : Int32), j_goX b L xs M_law post cut (n + 1) 525 ls (.int j :: .ref a :: r) w cb sb ↔ a = b ∧ vp_in j L ∧ j_kX b L xs M_law post cut n 526 ls (.int (xs j.toNatClampNeg) :: r) w cb sb) ∧
  (∀ (r : List Value) (a0 : Value) (z : Nat), j_goX b L xs M_law post cut (n + 1) 526 ls (a0 :: .ref z :: r) w cb sb ↔ g_ob 8 (w z) (fun _ => True) ∧ j_w8 r ∧ g_call (jmt 109) [.ref z, a0] w cb sb (fun v w' c s => j_kX b L xs M_law post cut n 529 ls (v.toList ++ r) w' c s)) ∧
  (∀ (r : List Value) (a z : Int32), j_goX b L xs M_law post cut (n + 1) 529 ls (.int z :: .int a :: r) w cb sb ↔ (a = z → j_kX b L xs M_law post cut n 775 ls r w cb sb) ∧ (¬ (a = z) → j_kX b L xs M_law post cut n 532 ls r w cb sb)) ∧
  (∀ (r : List Value), j_goX b L xs M_law post cut (n + 1) 532 ls r w cb sb ↔ j_kX b L xs M_law post cut n 533 ls (.int (Int32.ofInt 0) :: r) w cb sb) ∧
  (∀ (a : Int32), j_goX b L xs M_law post cut (n + 1) 533 ls [.int a] w cb sb ↔ narrow .boolean (.int a) = .int a ∧ post (some (.int a)) w) := ⟨fun _ => (j_goX_s rfl rfl).trans e_aload_n,
  fun _ => (j_goX_s rfl rfl).trans e_aload_n,
  fun _ => (j_goX_s rfl rfl).trans e_iload_n,
  fun _ => (j_goX_s rfl rfl).trans e_iconst,
  fun _ _ _ => (j_goX_s rfl rfl).trans e_iadd,
  fun _ _ _ => j_goX_ld rfl,
  fun _ _ _ => (j_goX_s rfl rfl).trans e_callv,
  fun _ => (j_goX_s rfl rfl).trans e_aload_n,
  fun _ => (j_goX_s rfl rfl).trans e_aload_n,
  fun _ => (j_goX_s rfl rfl).trans e_iload_n,
  fun _ => (j_goX_s rfl rfl).trans e_iconst,
  fun _ _ _ => (j_goX_s rfl rfl).trans e_iadd,
  fun _ _ _ => j_goX_ld rfl,
  fun _ _ _ => (j_goX_s rfl rfl).trans e_callv,
  fun _ _ _ => (j_goX_s rfl rfl).trans e_icmp,
  fun _ => (j_goX_s rfl rfl).trans e_iconst,
  fun _ => (j_goX_s rfl rfl).trans e_iret⟩
set_option maxRecDepth 100000 in
set_option maxHeartbeats 8000000 in
theorem st_law_12 {b L : Nat} {xs : Nat → Int32} {post : Option Value → jW → Prop} {cut : List Nat} {n : Nat} {ls : jL} {w : jW} {cb sb : Nat} : (∀ (r : List Value), j_goX b L xs M_law post cut (n + 1) 534 ls r w cb sb ↔ g_ld ls[1]? (fun v => t_a v ∧ j_kX b L xs M_law post cut n 535 ls (v :: r) w cb sb)) ∧
  (∀ (r : List Value), j_goX b L xs M_law post cut (n + 1) 535 ls r w cb sb ↔ g_ld ls[0]? (fun v => t_a v ∧ j_kX b L xs M_law post cut n 536 ls (v :: r) w cb sb)) ∧
  (∀ (r : List Value), j_goX b L xs M_law post cut (n + 1) 536 ls r w cb sb ↔ g_ld ls[3]? (fun v => t_i v ∧ j_kX b L xs M_law post cut n 537 ls (v :: r) w cb sb)) ∧
  (∀ (r : List Value), j_goX b L xs M_law post cut (n + 1) 537 ls r w cb sb ↔ j_kX b L xs M_law post cut n 538 ls (.int (Int32.ofInt 1) :: r) w cb sb) ∧
  (∀ (r : List Value) (x y : Int32), j_goX b L xs M_law post cut (n + 1) 538 ls (.int y :: .int x :: r) w cb sb ↔ j_kX b L xs M_law post cut n 539 ls (.int (x + y) :: r) w cb sb) ∧
  (∀ (r : List Value) (a : Nat) (j : Int32), j_goX b L xs M_law post cut (n + 1) 539 ls (.int j :: .ref a :: r) w cb sb ↔ a = b ∧ vp_in j L ∧ j_kX b L xs M_law post cut n 540 ls (.int (xs j.toNatClampNeg) :: r) w cb sb) ∧
  (∀ (r : List Value), j_goX b L xs M_law post cut (n + 1) 540 ls r w cb sb ↔ g_ld ls[0]? (fun v => t_a v ∧ j_kX b L xs M_law post cut n 541 ls (v :: r) w cb sb)) ∧
  (∀ (r : List Value), j_goX b L xs M_law post cut (n + 1) 541 ls r w cb sb ↔ g_ld ls[3]? (fun v => t_i v ∧ j_kX b L xs M_law post cut n 542 ls (v :: r) w cb sb)) ∧
  (∀ (r : List Value), j_goX b L xs M_law post cut (n + 1) 542 ls r w cb sb ↔ j_kX b L xs M_law post cut n 543 ls (.int (Int32.ofInt 2) :: r) w cb sb) ∧
  (∀ (r : List Value) (x y : Int32), j_goX b L xs M_law post cut (n + 1) 543 ls (.int y :: .int x :: r) w cb sb ↔ j_kX b L xs M_law post cut n 544 ls (.int (x + y) :: r) w cb sb) ∧
  (∀ (r : List Value) (a : Nat) (j : Int32), j_goX b L xs M_law post cut (n + 1) 544 ls (.int j :: .ref a :: r) w cb sb ↔ a = b ∧ vp_in j L ∧ j_kX b L xs M_law post cut n 545 ls (.int (xs j.toNatClampNeg) :: r) w cb sb) ∧
  (∀ (r : List Value) (a0 a1 : Value) (z : Nat), j_goX b L xs M_law post cut (n + 1) 545 ls (a1 :: a0 :: .ref z :: r) w cb sb ↔ g_ob 0 (w z) (fun _ => True) ∧ j_w8 r ∧ g_call (jmt 68) [.ref z, a0, a1] w cb sb (fun v w' c s => j_kX b L xs M_law post cut n 548 ls (v.toList ++ r) w' c s)) ∧
  (∀ (r : List Value), j_goX b L xs M_law post cut (n + 1) 548 ls r w cb sb ↔ g_ld ls[2]? (fun v => t_a v ∧ j_kX b L xs M_law post cut n 549 ls (v :: r) w cb sb)) ∧
  (∀ (r : List Value), j_goX b L xs M_law post cut (n + 1) 549 ls r w cb sb ↔ g_ld ls[0]? (fun v => t_a v ∧ j_kX b L xs M_law post cut n 550 ls (v :: r) w cb sb)) ∧
  (∀ (r : List Value), j_goX b L xs M_law post cut (n + 1) 550 ls r w cb sb ↔ g_ld ls[3]? (fun v => t_i v ∧ j_kX b L xs M_law post cut n 551 ls (v :: r) w cb sb)) ∧
  (∀ (r : List Value), j_goX b L xs M_law post cut (n + 1) 551 ls r w cb sb ↔ j_kX b L xs M_law post cut n 552 ls (.int (Int32.ofInt 1) :: r) w cb sb) ∧
  (∀ (r : List Value) (x y : Int32), j_goX b L xs M_law post cut (n + 1) 552 ls (.int y :: .int x :: r) w cb sb ↔ j_kX b L xs M_law post cut n 553 ls (.int (x + y) :: r) w cb sb) ∧
  (∀ (r : List Value) (a : Nat) (j : Int32), j_goX b L xs M_law post cut (n + 1) 553 ls (.int j :: .ref a :: r) w cb sb ↔ a = b ∧ vp_in j L ∧ j_kX b L xs M_law post cut n 554 ls (.int (xs j.toNatClampNeg) :: r) w cb sb) ∧
  (∀ (r : List Value), j_goX b L xs M_law post cut (n + 1) 554 ls r w cb sb ↔ g_ld ls[0]? (fun v => t_a v ∧ j_kX b L xs M_law post cut n 555 ls (v :: r) w cb sb)) ∧
  (∀ (r : List Value), j_goX b L xs M_law post cut (n + 1) 555 ls r w cb sb ↔ g_ld ls[3]? (fun v => t_i v ∧ j_kX b L xs M_law post cut n 556 ls (v :: r) w cb sb)) ∧
  (∀ (r : List Value), j_goX b L xs M_law post cut (n + 1) 556 ls r w cb sb ↔ j_kX b L xs M_law post cut n 557 ls (.int (Int32.ofInt 2) :: r) w cb sb) ∧
  (∀ (r : List Value) (x y : Int32), j_goX b L xs M_law post cut (n + 1) 557 ls (.int y :: .int x :: r) w cb sb ↔ j_kX b L xs M_law post cut n 558 ls (.int (x + y) :: r) w cb sb) ∧
  (∀ (r : List Value) (a : Nat) (j : Int32), j_goX b L xs M_law post cut (n + 1) 558 ls (.int j :: .ref a :: r) w cb sb ↔ a = b ∧ vp_in j L ∧ j_kX b L xs M_law post cut n 559 ls (.int (xs j.toNatClampNeg) :: r) w cb sb) ∧
  (∀ (r : List Value) (a0 a1 : Value) (z : Nat), j_goX b L xs M_law post cut (n + 1) 559 ls (a1 :: a0 :: .ref z :: r) w cb sb ↔ g_ob 8 (w z) (fun _ => True) ∧ j_w8 r ∧ g_call (jmt 110) [.ref z, a0, a1] w cb sb (fun v w' c s => j_kX b L xs M_law post cut n 562 ls (v.toList ++ r) w' c s)) ∧
  (∀ (r : List Value) (a z : Int32), j_goX b L xs M_law post cut (n + 1) 562 ls (.int z :: .int a :: r) w cb sb ↔ (a = z → j_kX b L xs M_law post cut n 775 ls r w cb sb) ∧ (¬ (a = z) → j_kX b L xs M_law post cut n 565 ls r w cb sb)) ∧
  (∀ (r : List Value), j_goX b L xs M_law post cut (n + 1) 565 ls r w cb sb ↔ j_kX b L xs M_law post cut n 566 ls (.int (Int32.ofInt 0) :: r) w cb sb) ∧
  (∀ (a : Int32), j_goX b L xs M_law post cut (n + 1) 566 ls [.int a] w cb sb ↔ narrow .boolean (.int a) = .int a ∧ post (some (.int a)) w) := ⟨fun _ => (j_goX_s rfl rfl).trans e_aload_n,
  fun _ => (j_goX_s rfl rfl).trans e_aload_n,
  fun _ => (j_goX_s rfl rfl).trans e_iload_n,
  fun _ => (j_goX_s rfl rfl).trans e_iconst,
  fun _ _ _ => (j_goX_s rfl rfl).trans e_iadd,
  fun _ _ _ => j_goX_ld rfl,
  fun _ => (j_goX_s rfl rfl).trans e_aload_n,
  fun _ => (j_goX_s rfl rfl).trans e_iload_n,
  fun _ => (j_goX_s rfl rfl).trans e_iconst,
  fun _ _ _ => (j_goX_s rfl rfl).trans e_iadd,
  fun _ _ _ => j_goX_ld rfl,
  fun _ _ _ _ => (j_goX_s rfl rfl).trans e_callv,
  fun _ => (j_goX_s rfl rfl).trans e_aload_n,
  fun _ => (j_goX_s rfl rfl).trans e_aload_n,
  fun _ => (j_goX_s rfl rfl).trans e_iload_n,
  fun _ => (j_goX_s rfl rfl).trans e_iconst,
  fun _ _ _ => (j_goX_s rfl rfl).trans e_iadd,
  fun _ _ _ => j_goX_ld rfl,
  fun _ => (j_goX_s rfl rfl).trans e_aload_n,
  fun _ => (j_goX_s rfl rfl).trans e_iload_n,
  fun _ => (j_goX_s rfl rfl).trans e_iconst,
  fun _ _ _ => (j_goX_s rfl rfl).trans e_iadd,
  fun _ _ _ => j_goX_ld rfl,
  fun _ _ _ _ => (j_goX_s rfl rfl).trans e_callv,
  fun _ _ _ => (j_goX_s rfl rfl).trans e_icmp,
  fun _ => (j_goX_s rfl rfl).trans e_iconst,
  fun _ => (j_goX_s rfl rfl).trans e_iret⟩
set_option maxRecDepth 100000 in
set_option maxHeartbeats 8000000 in
theorem st_law_13 {b L : Nat} {xs : Nat → Int32} {post : Option Value → jW → Prop} {cut : List Nat} {n : Nat} {ls : jL} {w : jW} {cb sb : Nat} : (∀ (r : List Value), j_goX b L xs M_law post cut (n + 1) 567 ls r w cb sb ↔ g_ld ls[1]? (fun v => t_a v ∧ j_kX b L xs M_law post cut n 568 ls (v :: r) w cb sb)) ∧
  (∀ (r : List Value), j_goX b L xs M_law post cut (n + 1) 568 ls r w cb sb ↔ g_ld ls[0]? (fun v => t_a v ∧ j_kX b L xs M_law post cut n 569 ls (v :: r) w cb sb)) ∧
  (∀ (r : List Value), j_goX b L xs M_law post cut (n + 1) 569 ls r w cb sb ↔ g_ld ls[3]? (fun v => t_i v ∧ j_kX b L xs M_law post cut n 570 ls (v :: r) w cb sb)) ∧
  (∀ (r : List Value), j_goX b L xs M_law post cut (n + 1) 570 ls r w cb sb ↔ j_kX b L xs M_law post cut n 571 ls (.int (Int32.ofInt 1) :: r) w cb sb) ∧
  (∀ (r : List Value) (x y : Int32), j_goX b L xs M_law post cut (n + 1) 571 ls (.int y :: .int x :: r) w cb sb ↔ j_kX b L xs M_law post cut n 572 ls (.int (x + y) :: r) w cb sb) ∧
  (∀ (r : List Value) (a : Nat) (j : Int32), j_goX b L xs M_law post cut (n + 1) 572 ls (.int j :: .ref a :: r) w cb sb ↔ a = b ∧ vp_in j L ∧ j_kX b L xs M_law post cut n 573 ls (.int (xs j.toNatClampNeg) :: r) w cb sb) ∧
  (∀ (r : List Value), j_goX b L xs M_law post cut (n + 1) 573 ls r w cb sb ↔ g_ld ls[0]? (fun v => t_a v ∧ j_kX b L xs M_law post cut n 574 ls (v :: r) w cb sb)) ∧
  (∀ (r : List Value), j_goX b L xs M_law post cut (n + 1) 574 ls r w cb sb ↔ g_ld ls[3]? (fun v => t_i v ∧ j_kX b L xs M_law post cut n 575 ls (v :: r) w cb sb)) ∧
  (∀ (r : List Value), j_goX b L xs M_law post cut (n + 1) 575 ls r w cb sb ↔ j_kX b L xs M_law post cut n 576 ls (.int (Int32.ofInt 2) :: r) w cb sb) ∧
  (∀ (r : List Value) (x y : Int32), j_goX b L xs M_law post cut (n + 1) 576 ls (.int y :: .int x :: r) w cb sb ↔ j_kX b L xs M_law post cut n 577 ls (.int (x + y) :: r) w cb sb) ∧
  (∀ (r : List Value) (a : Nat) (j : Int32), j_goX b L xs M_law post cut (n + 1) 577 ls (.int j :: .ref a :: r) w cb sb ↔ a = b ∧ vp_in j L ∧ j_kX b L xs M_law post cut n 578 ls (.int (xs j.toNatClampNeg) :: r) w cb sb) ∧
  (∀ (r : List Value) (a0 a1 : Value) (z : Nat), j_goX b L xs M_law post cut (n + 1) 578 ls (a1 :: a0 :: .ref z :: r) w cb sb ↔ g_ob 0 (w z) (fun _ => True) ∧ j_w8 r ∧ g_call (jmt 69) [.ref z, a0, a1] w cb sb (fun v w' c s => j_kX b L xs M_law post cut n 581 ls (v.toList ++ r) w' c s)) ∧
  (∀ (r : List Value), j_goX b L xs M_law post cut (n + 1) 581 ls r w cb sb ↔ g_ld ls[2]? (fun v => t_a v ∧ j_kX b L xs M_law post cut n 582 ls (v :: r) w cb sb)) ∧
  (∀ (r : List Value), j_goX b L xs M_law post cut (n + 1) 582 ls r w cb sb ↔ g_ld ls[0]? (fun v => t_a v ∧ j_kX b L xs M_law post cut n 583 ls (v :: r) w cb sb)) ∧
  (∀ (r : List Value), j_goX b L xs M_law post cut (n + 1) 583 ls r w cb sb ↔ g_ld ls[3]? (fun v => t_i v ∧ j_kX b L xs M_law post cut n 584 ls (v :: r) w cb sb)) ∧
  (∀ (r : List Value), j_goX b L xs M_law post cut (n + 1) 584 ls r w cb sb ↔ j_kX b L xs M_law post cut n 585 ls (.int (Int32.ofInt 1) :: r) w cb sb) ∧
  (∀ (r : List Value) (x y : Int32), j_goX b L xs M_law post cut (n + 1) 585 ls (.int y :: .int x :: r) w cb sb ↔ j_kX b L xs M_law post cut n 586 ls (.int (x + y) :: r) w cb sb) ∧
  (∀ (r : List Value) (a : Nat) (j : Int32), j_goX b L xs M_law post cut (n + 1) 586 ls (.int j :: .ref a :: r) w cb sb ↔ a = b ∧ vp_in j L ∧ j_kX b L xs M_law post cut n 587 ls (.int (xs j.toNatClampNeg) :: r) w cb sb) ∧
  (∀ (r : List Value), j_goX b L xs M_law post cut (n + 1) 587 ls r w cb sb ↔ g_ld ls[0]? (fun v => t_a v ∧ j_kX b L xs M_law post cut n 588 ls (v :: r) w cb sb)) ∧
  (∀ (r : List Value), j_goX b L xs M_law post cut (n + 1) 588 ls r w cb sb ↔ g_ld ls[3]? (fun v => t_i v ∧ j_kX b L xs M_law post cut n 589 ls (v :: r) w cb sb)) ∧
  (∀ (r : List Value), j_goX b L xs M_law post cut (n + 1) 589 ls r w cb sb ↔ j_kX b L xs M_law post cut n 590 ls (.int (Int32.ofInt 2) :: r) w cb sb) ∧
  (∀ (r : List Value) (x y : Int32), j_goX b L xs M_law post cut (n + 1) 590 ls (.int y :: .int x :: r) w cb sb ↔ j_kX b L xs M_law post cut n 591 ls (.int (x + y) :: r) w cb sb) ∧
  (∀ (r : List Value) (a : Nat) (j : Int32), j_goX b L xs M_law post cut (n + 1) 591 ls (.int j :: .ref a :: r) w cb sb ↔ a = b ∧ vp_in j L ∧ j_kX b L xs M_law post cut n 592 ls (.int (xs j.toNatClampNeg) :: r) w cb sb) ∧
  (∀ (r : List Value) (a0 a1 : Value) (z : Nat), j_goX b L xs M_law post cut (n + 1) 592 ls (a1 :: a0 :: .ref z :: r) w cb sb ↔ g_ob 8 (w z) (fun _ => True) ∧ j_w8 r ∧ g_call (jmt 111) [.ref z, a0, a1] w cb sb (fun v w' c s => j_kX b L xs M_law post cut n 595 ls (v.toList ++ r) w' c s)) ∧
  (∀ (r : List Value) (a z : Int32), j_goX b L xs M_law post cut (n + 1) 595 ls (.int z :: .int a :: r) w cb sb ↔ (a = z → j_kX b L xs M_law post cut n 775 ls r w cb sb) ∧ (¬ (a = z) → j_kX b L xs M_law post cut n 598 ls r w cb sb)) ∧
  (∀ (r : List Value), j_goX b L xs M_law post cut (n + 1) 598 ls r w cb sb ↔ j_kX b L xs M_law post cut n 599 ls (.int (Int32.ofInt 0) :: r) w cb sb) ∧
  (∀ (a : Int32), j_goX b L xs M_law post cut (n + 1) 599 ls [.int a] w cb sb ↔ narrow .boolean (.int a) = .int a ∧ post (some (.int a)) w) := ⟨fun _ => (j_goX_s rfl rfl).trans e_aload_n,
  fun _ => (j_goX_s rfl rfl).trans e_aload_n,
  fun _ => (j_goX_s rfl rfl).trans e_iload_n,
  fun _ => (j_goX_s rfl rfl).trans e_iconst,
  fun _ _ _ => (j_goX_s rfl rfl).trans e_iadd,
  fun _ _ _ => j_goX_ld rfl,
  fun _ => (j_goX_s rfl rfl).trans e_aload_n,
  fun _ => (j_goX_s rfl rfl).trans e_iload_n,
  fun _ => (j_goX_s rfl rfl).trans e_iconst,
  fun _ _ _ => (j_goX_s rfl rfl).trans e_iadd,
  fun _ _ _ => j_goX_ld rfl,
  fun _ _ _ _ => (j_goX_s rfl rfl).trans e_callv,
  fun _ => (j_goX_s rfl rfl).trans e_aload_n,
  fun _ => (j_goX_s rfl rfl).trans e_aload_n,
  fun _ => (j_goX_s rfl rfl).trans e_iload_n,
  fun _ => (j_goX_s rfl rfl).trans e_iconst,
  fun _ _ _ => (j_goX_s rfl rfl).trans e_iadd,
  fun _ _ _ => j_goX_ld rfl,
  fun _ => (j_goX_s rfl rfl).trans e_aload_n,
  fun _ => (j_goX_s rfl rfl).trans e_iload_n,
  fun _ => (j_goX_s rfl rfl).trans e_iconst,
  fun _ _ _ => (j_goX_s rfl rfl).trans e_iadd,
  fun _ _ _ => j_goX_ld rfl,
  fun _ _ _ _ => (j_goX_s rfl rfl).trans e_callv,
  fun _ _ _ => (j_goX_s rfl rfl).trans e_icmp,
  fun _ => (j_goX_s rfl rfl).trans e_iconst,
  fun _ => (j_goX_s rfl rfl).trans e_iret⟩
set_option maxRecDepth 100000 in
set_option maxHeartbeats 8000000 in
theorem st_law_14 {b L : Nat} {xs : Nat → Int32} {post : Option Value → jW → Prop} {cut : List Nat} {n : Nat} {ls : jL} {w : jW} {cb sb : Nat} : (∀ (r : List Value), j_goX b L xs M_law post cut (n + 1) 600 ls r w cb sb ↔ g_ld ls[1]? (fun v => t_a v ∧ j_kX b L xs M_law post cut n 601 ls (v :: r) w cb sb)) ∧
  (∀ (r : List Value), j_goX b L xs M_law post cut (n + 1) 601 ls r w cb sb ↔ g_ld ls[0]? (fun v => t_a v ∧ j_kX b L xs M_law post cut n 602 ls (v :: r) w cb sb)) ∧
  (∀ (r : List Value), j_goX b L xs M_law post cut (n + 1) 602 ls r w cb sb ↔ g_ld ls[3]? (fun v => t_i v ∧ j_kX b L xs M_law post cut n 603 ls (v :: r) w cb sb)) ∧
  (∀ (r : List Value), j_goX b L xs M_law post cut (n + 1) 603 ls r w cb sb ↔ j_kX b L xs M_law post cut n 604 ls (.int (Int32.ofInt 1) :: r) w cb sb) ∧
  (∀ (r : List Value) (x y : Int32), j_goX b L xs M_law post cut (n + 1) 604 ls (.int y :: .int x :: r) w cb sb ↔ j_kX b L xs M_law post cut n 605 ls (.int (x + y) :: r) w cb sb) ∧
  (∀ (r : List Value) (a : Nat) (j : Int32), j_goX b L xs M_law post cut (n + 1) 605 ls (.int j :: .ref a :: r) w cb sb ↔ a = b ∧ vp_in j L ∧ j_kX b L xs M_law post cut n 606 ls (.int (xs j.toNatClampNeg) :: r) w cb sb) ∧
  (∀ (r : List Value), j_goX b L xs M_law post cut (n + 1) 606 ls r w cb sb ↔ g_ld ls[0]? (fun v => t_a v ∧ j_kX b L xs M_law post cut n 607 ls (v :: r) w cb sb)) ∧
  (∀ (r : List Value), j_goX b L xs M_law post cut (n + 1) 607 ls r w cb sb ↔ g_ld ls[3]? (fun v => t_i v ∧ j_kX b L xs M_law post cut n 608 ls (v :: r) w cb sb)) ∧
  (∀ (r : List Value), j_goX b L xs M_law post cut (n + 1) 608 ls r w cb sb ↔ j_kX b L xs M_law post cut n 609 ls (.int (Int32.ofInt 2) :: r) w cb sb) ∧
  (∀ (r : List Value) (x y : Int32), j_goX b L xs M_law post cut (n + 1) 609 ls (.int y :: .int x :: r) w cb sb ↔ j_kX b L xs M_law post cut n 610 ls (.int (x + y) :: r) w cb sb) ∧
  (∀ (r : List Value) (a : Nat) (j : Int32), j_goX b L xs M_law post cut (n + 1) 610 ls (.int j :: .ref a :: r) w cb sb ↔ a = b ∧ vp_in j L ∧ j_kX b L xs M_law post cut n 611 ls (.int (xs j.toNatClampNeg) :: r) w cb sb) ∧
  (∀ (r : List Value) (a0 a1 : Value) (z : Nat), j_goX b L xs M_law post cut (n + 1) 611 ls (a1 :: a0 :: .ref z :: r) w cb sb ↔ g_ob 0 (w z) (fun _ => True) ∧ j_w8 r ∧ g_call (jmt 70) [.ref z, a0, a1] w cb sb (fun v w' c s => j_kX b L xs M_law post cut n 614 ls (v.toList ++ r) w' c s)) ∧
  (∀ (r : List Value), j_goX b L xs M_law post cut (n + 1) 614 ls r w cb sb ↔ g_ld ls[2]? (fun v => t_a v ∧ j_kX b L xs M_law post cut n 615 ls (v :: r) w cb sb)) ∧
  (∀ (r : List Value), j_goX b L xs M_law post cut (n + 1) 615 ls r w cb sb ↔ g_ld ls[0]? (fun v => t_a v ∧ j_kX b L xs M_law post cut n 616 ls (v :: r) w cb sb)) ∧
  (∀ (r : List Value), j_goX b L xs M_law post cut (n + 1) 616 ls r w cb sb ↔ g_ld ls[3]? (fun v => t_i v ∧ j_kX b L xs M_law post cut n 617 ls (v :: r) w cb sb)) ∧
  (∀ (r : List Value), j_goX b L xs M_law post cut (n + 1) 617 ls r w cb sb ↔ j_kX b L xs M_law post cut n 618 ls (.int (Int32.ofInt 1) :: r) w cb sb) ∧
  (∀ (r : List Value) (x y : Int32), j_goX b L xs M_law post cut (n + 1) 618 ls (.int y :: .int x :: r) w cb sb ↔ j_kX b L xs M_law post cut n 619 ls (.int (x + y) :: r) w cb sb) ∧
  (∀ (r : List Value) (a : Nat) (j : Int32), j_goX b L xs M_law post cut (n + 1) 619 ls (.int j :: .ref a :: r) w cb sb ↔ a = b ∧ vp_in j L ∧ j_kX b L xs M_law post cut n 620 ls (.int (xs j.toNatClampNeg) :: r) w cb sb) ∧
  (∀ (r : List Value), j_goX b L xs M_law post cut (n + 1) 620 ls r w cb sb ↔ g_ld ls[0]? (fun v => t_a v ∧ j_kX b L xs M_law post cut n 621 ls (v :: r) w cb sb)) ∧
  (∀ (r : List Value), j_goX b L xs M_law post cut (n + 1) 621 ls r w cb sb ↔ g_ld ls[3]? (fun v => t_i v ∧ j_kX b L xs M_law post cut n 622 ls (v :: r) w cb sb)) ∧
  (∀ (r : List Value), j_goX b L xs M_law post cut (n + 1) 622 ls r w cb sb ↔ j_kX b L xs M_law post cut n 623 ls (.int (Int32.ofInt 2) :: r) w cb sb) ∧
  (∀ (r : List Value) (x y : Int32), j_goX b L xs M_law post cut (n + 1) 623 ls (.int y :: .int x :: r) w cb sb ↔ j_kX b L xs M_law post cut n 624 ls (.int (x + y) :: r) w cb sb) ∧
  (∀ (r : List Value) (a : Nat) (j : Int32), j_goX b L xs M_law post cut (n + 1) 624 ls (.int j :: .ref a :: r) w cb sb ↔ a = b ∧ vp_in j L ∧ j_kX b L xs M_law post cut n 625 ls (.int (xs j.toNatClampNeg) :: r) w cb sb) ∧
  (∀ (r : List Value) (a0 a1 : Value) (z : Nat), j_goX b L xs M_law post cut (n + 1) 625 ls (a1 :: a0 :: .ref z :: r) w cb sb ↔ g_ob 8 (w z) (fun _ => True) ∧ j_w8 r ∧ g_call (jmt 112) [.ref z, a0, a1] w cb sb (fun v w' c s => j_kX b L xs M_law post cut n 628 ls (v.toList ++ r) w' c s)) ∧
  (∀ (r : List Value) (a z : Int32), j_goX b L xs M_law post cut (n + 1) 628 ls (.int z :: .int a :: r) w cb sb ↔ (a = z → j_kX b L xs M_law post cut n 775 ls r w cb sb) ∧ (¬ (a = z) → j_kX b L xs M_law post cut n 631 ls r w cb sb)) ∧
  (∀ (r : List Value), j_goX b L xs M_law post cut (n + 1) 631 ls r w cb sb ↔ j_kX b L xs M_law post cut n 632 ls (.int (Int32.ofInt 0) :: r) w cb sb) ∧
  (∀ (a : Int32), j_goX b L xs M_law post cut (n + 1) 632 ls [.int a] w cb sb ↔ narrow .boolean (.int a) = .int a ∧ post (some (.int a)) w) := ⟨fun _ => (j_goX_s rfl rfl).trans e_aload_n,
  fun _ => (j_goX_s rfl rfl).trans e_aload_n,
  fun _ => (j_goX_s rfl rfl).trans e_iload_n,
  fun _ => (j_goX_s rfl rfl).trans e_iconst,
  fun _ _ _ => (j_goX_s rfl rfl).trans e_iadd,
  fun _ _ _ => j_goX_ld rfl,
  fun _ => (j_goX_s rfl rfl).trans e_aload_n,
  fun _ => (j_goX_s rfl rfl).trans e_iload_n,
  fun _ => (j_goX_s rfl rfl).trans e_iconst,
  fun _ _ _ => (j_goX_s rfl rfl).trans e_iadd,
  fun _ _ _ => j_goX_ld rfl,
  fun _ _ _ _ => (j_goX_s rfl rfl).trans e_callv,
  fun _ => (j_goX_s rfl rfl).trans e_aload_n,
  fun _ => (j_goX_s rfl rfl).trans e_aload_n,
  fun _ => (j_goX_s rfl rfl).trans e_iload_n,
  fun _ => (j_goX_s rfl rfl).trans e_iconst,
  fun _ _ _ => (j_goX_s rfl rfl).trans e_iadd,
  fun _ _ _ => j_goX_ld rfl,
  fun _ => (j_goX_s rfl rfl).trans e_aload_n,
  fun _ => (j_goX_s rfl rfl).trans e_iload_n,
  fun _ => (j_goX_s rfl rfl).trans e_iconst,
  fun _ _ _ => (j_goX_s rfl rfl).trans e_iadd,
  fun _ _ _ => j_goX_ld rfl,
  fun _ _ _ _ => (j_goX_s rfl rfl).trans e_callv,
  fun _ _ _ => (j_goX_s rfl rfl).trans e_icmp,
  fun _ => (j_goX_s rfl rfl).trans e_iconst,
  fun _ => (j_goX_s rfl rfl).trans e_iret⟩
set_option maxRecDepth 100000 in
set_option maxHeartbeats 8000000 in
theorem st_law_15 {b L : Nat} {xs : Nat → Int32} {post : Option Value → jW → Prop} {cut : List Nat} {n : Nat} {ls : jL} {w : jW} {cb sb : Nat} : (∀ (r : List Value), j_goX b L xs M_law post cut (n + 1) 633 ls r w cb sb ↔ g_ld ls[1]? (fun v => t_a v ∧ j_kX b L xs M_law post cut n 634 ls (v :: r) w cb sb)) ∧
  (∀ (r : List Value), j_goX b L xs M_law post cut (n + 1) 634 ls r w cb sb ↔ g_ld ls[0]? (fun v => t_a v ∧ j_kX b L xs M_law post cut n 635 ls (v :: r) w cb sb)) ∧
  (∀ (r : List Value), j_goX b L xs M_law post cut (n + 1) 635 ls r w cb sb ↔ g_ld ls[3]? (fun v => t_i v ∧ j_kX b L xs M_law post cut n 636 ls (v :: r) w cb sb)) ∧
  (∀ (r : List Value), j_goX b L xs M_law post cut (n + 1) 636 ls r w cb sb ↔ j_kX b L xs M_law post cut n 637 ls (.int (Int32.ofInt 1) :: r) w cb sb) ∧
  (∀ (r : List Value) (x y : Int32), j_goX b L xs M_law post cut (n + 1) 637 ls (.int y :: .int x :: r) w cb sb ↔ j_kX b L xs M_law post cut n 638 ls (.int (x + y) :: r) w cb sb) ∧
  (∀ (r : List Value) (a : Nat) (j : Int32), j_goX b L xs M_law post cut (n + 1) 638 ls (.int j :: .ref a :: r) w cb sb ↔ a = b ∧ vp_in j L ∧ j_kX b L xs M_law post cut n 639 ls (.int (xs j.toNatClampNeg) :: r) w cb sb) ∧
  (∀ (r : List Value), j_goX b L xs M_law post cut (n + 1) 639 ls r w cb sb ↔ g_ld ls[0]? (fun v => t_a v ∧ j_kX b L xs M_law post cut n 640 ls (v :: r) w cb sb)) ∧
  (∀ (r : List Value), j_goX b L xs M_law post cut (n + 1) 640 ls r w cb sb ↔ g_ld ls[3]? (fun v => t_i v ∧ j_kX b L xs M_law post cut n 641 ls (v :: r) w cb sb)) ∧
  (∀ (r : List Value), j_goX b L xs M_law post cut (n + 1) 641 ls r w cb sb ↔ j_kX b L xs M_law post cut n 642 ls (.int (Int32.ofInt 2) :: r) w cb sb) ∧
  (∀ (r : List Value) (x y : Int32), j_goX b L xs M_law post cut (n + 1) 642 ls (.int y :: .int x :: r) w cb sb ↔ j_kX b L xs M_law post cut n 643 ls (.int (x + y) :: r) w cb sb) ∧
  (∀ (r : List Value) (a : Nat) (j : Int32), j_goX b L xs M_law post cut (n + 1) 643 ls (.int j :: .ref a :: r) w cb sb ↔ a = b ∧ vp_in j L ∧ j_kX b L xs M_law post cut n 644 ls (.int (xs j.toNatClampNeg) :: r) w cb sb) ∧
  (∀ (r : List Value) (a0 a1 : Value) (z : Nat), j_goX b L xs M_law post cut (n + 1) 644 ls (a1 :: a0 :: .ref z :: r) w cb sb ↔ g_ob 0 (w z) (fun _ => True) ∧ j_w8 r ∧ g_call (jmt 71) [.ref z, a0, a1] w cb sb (fun v w' c s => j_kX b L xs M_law post cut n 647 ls (v.toList ++ r) w' c s)) ∧
  (∀ (r : List Value), j_goX b L xs M_law post cut (n + 1) 647 ls r w cb sb ↔ g_ld ls[2]? (fun v => t_a v ∧ j_kX b L xs M_law post cut n 648 ls (v :: r) w cb sb)) ∧
  (∀ (r : List Value), j_goX b L xs M_law post cut (n + 1) 648 ls r w cb sb ↔ g_ld ls[0]? (fun v => t_a v ∧ j_kX b L xs M_law post cut n 649 ls (v :: r) w cb sb)) ∧
  (∀ (r : List Value), j_goX b L xs M_law post cut (n + 1) 649 ls r w cb sb ↔ g_ld ls[3]? (fun v => t_i v ∧ j_kX b L xs M_law post cut n 650 ls (v :: r) w cb sb)) ∧
  (∀ (r : List Value), j_goX b L xs M_law post cut (n + 1) 650 ls r w cb sb ↔ j_kX b L xs M_law post cut n 651 ls (.int (Int32.ofInt 1) :: r) w cb sb) ∧
  (∀ (r : List Value) (x y : Int32), j_goX b L xs M_law post cut (n + 1) 651 ls (.int y :: .int x :: r) w cb sb ↔ j_kX b L xs M_law post cut n 652 ls (.int (x + y) :: r) w cb sb) ∧
  (∀ (r : List Value) (a : Nat) (j : Int32), j_goX b L xs M_law post cut (n + 1) 652 ls (.int j :: .ref a :: r) w cb sb ↔ a = b ∧ vp_in j L ∧ j_kX b L xs M_law post cut n 653 ls (.int (xs j.toNatClampNeg) :: r) w cb sb) ∧
  (∀ (r : List Value), j_goX b L xs M_law post cut (n + 1) 653 ls r w cb sb ↔ g_ld ls[0]? (fun v => t_a v ∧ j_kX b L xs M_law post cut n 654 ls (v :: r) w cb sb)) ∧
  (∀ (r : List Value), j_goX b L xs M_law post cut (n + 1) 654 ls r w cb sb ↔ g_ld ls[3]? (fun v => t_i v ∧ j_kX b L xs M_law post cut n 655 ls (v :: r) w cb sb)) ∧
  (∀ (r : List Value), j_goX b L xs M_law post cut (n + 1) 655 ls r w cb sb ↔ j_kX b L xs M_law post cut n 656 ls (.int (Int32.ofInt 2) :: r) w cb sb) ∧
  (∀ (r : List Value) (x y : Int32), j_goX b L xs M_law post cut (n + 1) 656 ls (.int y :: .int x :: r) w cb sb ↔ j_kX b L xs M_law post cut n 657 ls (.int (x + y) :: r) w cb sb) ∧
  (∀ (r : List Value) (a : Nat) (j : Int32), j_goX b L xs M_law post cut (n + 1) 657 ls (.int j :: .ref a :: r) w cb sb ↔ a = b ∧ vp_in j L ∧ j_kX b L xs M_law post cut n 658 ls (.int (xs j.toNatClampNeg) :: r) w cb sb) ∧
  (∀ (r : List Value) (a0 a1 : Value) (z : Nat), j_goX b L xs M_law post cut (n + 1) 658 ls (a1 :: a0 :: .ref z :: r) w cb sb ↔ g_ob 8 (w z) (fun _ => True) ∧ j_w8 r ∧ g_call (jmt 113) [.ref z, a0, a1] w cb sb (fun v w' c s => j_kX b L xs M_law post cut n 661 ls (v.toList ++ r) w' c s)) ∧
  (∀ (r : List Value) (a z : Int32), j_goX b L xs M_law post cut (n + 1) 661 ls (.int z :: .int a :: r) w cb sb ↔ (a = z → j_kX b L xs M_law post cut n 775 ls r w cb sb) ∧ (¬ (a = z) → j_kX b L xs M_law post cut n 664 ls r w cb sb)) ∧
  (∀ (r : List Value), j_goX b L xs M_law post cut (n + 1) 664 ls r w cb sb ↔ j_kX b L xs M_law post cut n 665 ls (.int (Int32.ofInt 0) :: r) w cb sb) ∧
  (∀ (a : Int32), j_goX b L xs M_law post cut (n + 1) 665 ls [.int a] w cb sb ↔ narrow .boolean (.int a) = .int a ∧ post (some (.int a)) w) := ⟨fun _ => (j_goX_s rfl rfl).trans e_aload_n,
  fun _ => (j_goX_s rfl rfl).trans e_aload_n,
  fun _ => (j_goX_s rfl rfl).trans e_iload_n,
  fun _ => (j_goX_s rfl rfl).trans e_iconst,
  fun _ _ _ => (j_goX_s rfl rfl).trans e_iadd,
  fun _ _ _ => j_goX_ld rfl,
  fun _ => (j_goX_s rfl rfl).trans e_aload_n,
  fun _ => (j_goX_s rfl rfl).trans e_iload_n,
  fun _ => (j_goX_s rfl rfl).trans e_iconst,
  fun _ _ _ => (j_goX_s rfl rfl).trans e_iadd,
  fun _ _ _ => j_goX_ld rfl,
  fun _ _ _ _ => (j_goX_s rfl rfl).trans e_callv,
  fun _ => (j_goX_s rfl rfl).trans e_aload_n,
  fun _ => (j_goX_s rfl rfl).trans e_aload_n,
  fun _ => (j_goX_s rfl rfl).trans e_iload_n,
  fun _ => (j_goX_s rfl rfl).trans e_iconst,
  fun _ _ _ => (j_goX_s rfl rfl).trans e_iadd,
  fun _ _ _ => j_goX_ld rfl,
  fun _ => (j_goX_s rfl rfl).trans e_aload_n,
  fun _ => (j_goX_s rfl rfl).trans e_iload_n,
  fun _ => (j_goX_s rfl rfl).trans e_iconst,
  fun _ _ _ => (j_goX_s rfl rfl).trans e_iadd,
  fun _ _ _ => j_goX_ld rfl,
  fun _ _ _ _ => (j_goX_s rfl rfl).trans e_callv,
  fun _ _ _ => (j_goX_s rfl rfl).trans e_icmp,
  fun _ => (j_goX_s rfl rfl).trans e_iconst,
  fun _ => (j_goX_s rfl rfl).trans e_iret⟩
set_option maxRecDepth 100000 in
set_option maxHeartbeats 8000000 in
theorem st_law_16 {b L : Nat} {xs : Nat → Int32} {post : Option Value → jW → Prop} {cut : List Nat} {n : Nat} {ls : jL} {w : jW} {cb sb : Nat} : (∀ (r : List Value), j_goX b L xs M_law post cut (n + 1) 666 ls r w cb sb ↔ g_ld ls[1]? (fun v => t_a v ∧ j_kX b L xs M_law post cut n 667 ls (v :: r) w cb sb)) ∧
  (∀ (r : List Value), j_goX b L xs M_law post cut (n + 1) 667 ls r w cb sb ↔ g_ld ls[0]? (fun v => t_a v ∧ j_kX b L xs M_law post cut n 668 ls (v :: r) w cb sb)) ∧
  (∀ (r : List Value), j_goX b L xs M_law post cut (n + 1) 668 ls r w cb sb ↔ g_ld ls[3]? (fun v => t_i v ∧ j_kX b L xs M_law post cut n 669 ls (v :: r) w cb sb)) ∧
  (∀ (r : List Value), j_goX b L xs M_law post cut (n + 1) 669 ls r w cb sb ↔ j_kX b L xs M_law post cut n 670 ls (.int (Int32.ofInt 1) :: r) w cb sb) ∧
  (∀ (r : List Value) (x y : Int32), j_goX b L xs M_law post cut (n + 1) 670 ls (.int y :: .int x :: r) w cb sb ↔ j_kX b L xs M_law post cut n 671 ls (.int (x + y) :: r) w cb sb) ∧
  (∀ (r : List Value) (a : Nat) (j : Int32), j_goX b L xs M_law post cut (n + 1) 671 ls (.int j :: .ref a :: r) w cb sb ↔ a = b ∧ vp_in j L ∧ j_kX b L xs M_law post cut n 672 ls (.int (xs j.toNatClampNeg) :: r) w cb sb) ∧
  (∀ (r : List Value), j_goX b L xs M_law post cut (n + 1) 672 ls r w cb sb ↔ g_ld ls[0]? (fun v => t_a v ∧ j_kX b L xs M_law post cut n 673 ls (v :: r) w cb sb)) ∧
  (∀ (r : List Value), j_goX b L xs M_law post cut (n + 1) 673 ls r w cb sb ↔ g_ld ls[3]? (fun v => t_i v ∧ j_kX b L xs M_law post cut n 674 ls (v :: r) w cb sb)) ∧
  (∀ (r : List Value), j_goX b L xs M_law post cut (n + 1) 674 ls r w cb sb ↔ j_kX b L xs M_law post cut n 675 ls (.int (Int32.ofInt 2) :: r) w cb sb) ∧
  (∀ (r : List Value) (x y : Int32), j_goX b L xs M_law post cut (n + 1) 675 ls (.int y :: .int x :: r) w cb sb ↔ j_kX b L xs M_law post cut n 676 ls (.int (x + y) :: r) w cb sb) ∧
  (∀ (r : List Value) (a : Nat) (j : Int32), j_goX b L xs M_law post cut (n + 1) 676 ls (.int j :: .ref a :: r) w cb sb ↔ a = b ∧ vp_in j L ∧ j_kX b L xs M_law post cut n 677 ls (.int (xs j.toNatClampNeg) :: r) w cb sb) ∧
  (∀ (r : List Value) (a0 a1 : Value) (z : Nat), j_goX b L xs M_law post cut (n + 1) 677 ls (a1 :: a0 :: .ref z :: r) w cb sb ↔ g_ob 0 (w z) (fun _ => True) ∧ j_w8 r ∧ g_call (jmt 72) [.ref z, a0, a1] w cb sb (fun v w' c s => j_kX b L xs M_law post cut n 680 ls (v.toList ++ r) w' c s)) ∧
  (∀ (r : List Value), j_goX b L xs M_law post cut (n + 1) 680 ls r w cb sb ↔ g_ld ls[2]? (fun v => t_a v ∧ j_kX b L xs M_law post cut n 681 ls (v :: r) w cb sb)) ∧
  (∀ (r : List Value), j_goX b L xs M_law post cut (n + 1) 681 ls r w cb sb ↔ g_ld ls[0]? (fun v => t_a v ∧ j_kX b L xs M_law post cut n 682 ls (v :: r) w cb sb)) ∧
  (∀ (r : List Value), j_goX b L xs M_law post cut (n + 1) 682 ls r w cb sb ↔ g_ld ls[3]? (fun v => t_i v ∧ j_kX b L xs M_law post cut n 683 ls (v :: r) w cb sb)) ∧
  (∀ (r : List Value), j_goX b L xs M_law post cut (n + 1) 683 ls r w cb sb ↔ j_kX b L xs M_law post cut n 684 ls (.int (Int32.ofInt 1) :: r) w cb sb) ∧
  (∀ (r : List Value) (x y : Int32), j_goX b L xs M_law post cut (n + 1) 684 ls (.int y :: .int x :: r) w cb sb ↔ j_kX b L xs M_law post cut n 685 ls (.int (x + y) :: r) w cb sb) ∧
  (∀ (r : List Value) (a : Nat) (j : Int32), j_goX b L xs M_law post cut (n + 1) 685 ls (.int j :: .ref a :: r) w cb sb ↔ a = b ∧ vp_in j L ∧ j_kX b L xs M_law post cut n 686 ls (.int (xs j.toNatClampNeg) :: r) w cb sb) ∧
  (∀ (r : List Value), j_goX b L xs M_law post cut (n + 1) 686 ls r w cb sb ↔ g_ld ls[0]? (fun v => t_a v ∧ j_kX b L xs M_law post cut n 687 ls (v :: r) w cb sb)) ∧
  (∀ (r : List Value), j_goX b L xs M_law post cut (n + 1) 687 ls r w cb sb ↔ g_ld ls[3]? (fun v => t_i v ∧ j_kX b L xs M_law post cut n 688 ls (v :: r) w cb sb)) ∧
  (∀ (r : List Value), j_goX b L xs M_law post cut (n + 1) 688 ls r w cb sb ↔ j_kX b L xs M_law post cut n 689 ls (.int (Int32.ofInt 2) :: r) w cb sb) ∧
  (∀ (r : List Value) (x y : Int32), j_goX b L xs M_law post cut (n + 1) 689 ls (.int y :: .int x :: r) w cb sb ↔ j_kX b L xs M_law post cut n 690 ls (.int (x + y) :: r) w cb sb) ∧
  (∀ (r : List Value) (a : Nat) (j : Int32), j_goX b L xs M_law post cut (n + 1) 690 ls (.int j :: .ref a :: r) w cb sb ↔ a = b ∧ vp_in j L ∧ j_kX b L xs M_law post cut n 691 ls (.int (xs j.toNatClampNeg) :: r) w cb sb) ∧
  (∀ (r : List Value) (a0 a1 : Value) (z : Nat), j_goX b L xs M_law post cut (n + 1) 691 ls (a1 :: a0 :: .ref z :: r) w cb sb ↔ g_ob 8 (w z) (fun _ => True) ∧ j_w8 r ∧ g_call (jmt 114) [.ref z, a0, a1] w cb sb (fun v w' c s => j_kX b L xs M_law post cut n 694 ls (v.toList ++ r) w' c s)) ∧
  (∀ (r : List Value) (a z : Int32), j_goX b L xs M_law post cut (n + 1) 694 ls (.int z :: .int a :: r) w cb sb ↔ (a = z → j_kX b L xs M_law post cut n 775 ls r w cb sb) ∧ (¬ (a = z) → j_kX b L xs M_law post cut n 697 ls r w cb sb)) ∧
  (∀ (r : List Value), j_goX b L xs M_law post cut (n + 1) 697 ls r w cb sb ↔ j_kX b L xs M_law post cut n 698 ls (.int (Int32.ofInt 0) :: r) w cb sb) ∧
  (∀ (a : Int32), j_goX b L xs M_law post cut (n + 1) 698 ls [.int a] w cb sb ↔ narrow .boolean (.int a) = .int a ∧ post (some (.int a)) w) := ⟨fun _ => (j_goX_s rfl rfl).trans e_aload_n,
  fun _ => (j_goX_s rfl rfl).trans e_aload_n,
  fun _ => (j_goX_s rfl rfl).trans e_iload_n,
  fun _ => (j_goX_s rfl rfl).trans e_iconst,
  fun _ _ _ => (j_goX_s rfl rfl).trans e_iadd,
  fun _ _ _ => j_goX_ld rfl,
  fun _ => (j_goX_s rfl rfl).trans e_aload_n,
  fun _ => (j_goX_s rfl rfl).trans e_iload_n,
  fun _ => (j_goX_s rfl rfl).trans e_iconst,
  fun _ _ _ => (j_goX_s rfl rfl).trans e_iadd,
  fun _ _ _ => j_goX_ld rfl,
  fun _ _ _ _ => (j_goX_s rfl rfl).trans e_callv,
  fun _ => (j_goX_s rfl rfl).trans e_aload_n,
  fun _ => (j_goX_s rfl rfl).trans e_aload_n,
  fun _ => (j_goX_s rfl rfl).trans e_iload_n,
  fun _ => (j_goX_s rfl rfl).trans e_iconst,
  fun _ _ _ => (j_goX_s rfl rfl).trans e_iadd,
  fun _ _ _ => j_goX_ld rfl,
  fun _ => (j_goX_s rfl rfl).trans e_aload_n,
  fun _ => (j_goX_s rfl rfl).trans e_iload_n,
  fun _ => (j_goX_s rfl rfl).trans e_iconst,
  fun _ _ _ => (j_goX_s rfl rfl).trans e_iadd,
  fun _ _ _ => j_goX_ld rfl,
  fun _ _ _ _ => (j_goX_s rfl rfl).trans e_callv,
  fun _ _ _ => (j_goX_s rfl rfl).trans e_icmp,
  fun _ => (j_goX_s rfl rfl).trans e_iconst,
  fun _ => (j_goX_s rfl rfl).trans e_iret⟩
set_option maxRecDepth 100000 in
set_option maxHeartbeats 8000000 in
theorem st_law_17 {b L : Nat} {xs : Nat → Int32} {post : Option Value → jW → Prop} {cut : List Nat} {n : Nat} {ls : jL} {w : jW} {cb sb : Nat} : (∀ (r : List Value), j_goX b L xs M_law post cut (n + 1) 699 ls r w cb sb ↔ g_ld ls[1]? (fun v => t_a v ∧ j_kX b L xs M_law post cut n 700 ls (v :: r) w cb sb)) ∧
  (∀ (r : List Value), j_goX b L xs M_law post cut (n + 1) 700 ls r w cb sb ↔ g_ld ls[0]? (fun v => t_a v ∧ j_kX b L xs M_law post cut n 701 ls (v :: r) w cb sb)) ∧
  (∀ (r : List Value), j_goX b L xs M_law post cut (n + 1) 701 ls r w cb sb ↔ g_ld ls[3]? (fun v => t_i v ∧ j_kX b L xs M_law post cut n 702 ls (v :: r) w cb sb)) ∧
  (∀ (r : List Value), j_goX b L xs M_law post cut (n + 1) 702 ls r w cb sb ↔ j_kX b L xs M_law post cut n 703 ls (.int (Int32.ofInt 1) :: r) w cb sb) ∧
  (∀ (r : List Value) (x y : Int32), j_goX b L xs M_law post cut (n + 1) 703 ls (.int y :: .int x :: r) w cb sb ↔ j_kX b L xs M_law post cut n 704 ls (.int (x + y) :: r) w cb sb) ∧
  (∀ (r : List Value) (a : Nat) (j : Int32), j_goX b L xs M_law post cut (n + 1) 704 ls (.int j :: .ref a :: r) w cb sb ↔ a = b ∧ vp_in j L ∧ j_kX b L xs M_law post cut n 705 ls (.int (xs j.toNatClampNeg) :: r) w cb sb) ∧
  (∀ (r : List Value), j_goX b L xs M_law post cut (n + 1) 705 ls r w cb sb ↔ g_ld ls[0]? (fun v => t_a v ∧ j_kX b L xs M_law post cut n 706 ls (v :: r) w cb sb)) ∧
  (∀ (r : List Value), j_goX b L xs M_law post cut (n + 1) 706 ls r w cb sb ↔ g_ld ls[3]? (fun v => t_i v ∧ j_kX b L xs M_law post cut n 707 ls (v :: r) w cb sb)) ∧
  (∀ (r : List Value), j_goX b L xs M_law post cut (n + 1) 707 ls r w cb sb ↔ j_kX b L xs M_law post cut n 708 ls (.int (Int32.ofInt 2) :: r) w cb sb) ∧
  (∀ (r : List Value) (x y : Int32), j_goX b L xs M_law post cut (n + 1) 708 ls (.int y :: .int x :: r) w cb sb ↔ j_kX b L xs M_law post cut n 709 ls (.int (x + y) :: r) w cb sb) ∧
  (∀ (r : List Value) (a : Nat) (j : Int32), j_goX b L xs M_law post cut (n + 1) 709 ls (.int j :: .ref a :: r) w cb sb ↔ a = b ∧ vp_in j L ∧ j_kX b L xs M_law post cut n 710 ls (.int (xs j.toNatClampNeg) :: r) w cb sb) ∧
  (∀ (r : List Value) (a0 a1 : Value) (z : Nat), j_goX b L xs M_law post cut (n + 1) 710 ls (a1 :: a0 :: .ref z :: r) w cb sb ↔ g_ob 0 (w z) (fun _ => True) ∧ j_w8 r ∧ g_call (jmt 73) [.ref z, a0, a1] w cb sb (fun v w' c s => j_kX b L xs M_law post cut n 713 ls (v.toList ++ r) w' c s)) ∧
  (∀ (r : List Value), j_goX b L xs M_law post cut (n + 1) 713 ls r w cb sb ↔ g_ld ls[2]? (fun v => t_a v ∧ j_kX b L xs M_law post cut n 714 ls (v :: r) w cb sb)) ∧
  (∀ (r : List Value), j_goX b L xs M_law post cut (n + 1) 714 ls r w cb sb ↔ g_ld ls[0]? (fun v => t_a v ∧ j_kX b L xs M_law post cut n 715 ls (v :: r) w cb sb)) ∧
  (∀ (r : List Value), j_goX b L xs M_law post cut (n + 1) 715 ls r w cb sb ↔ g_ld ls[3]? (fun v => t_i v ∧ j_kX b L xs M_law post cut n 716 ls (v :: r) w cb sb)) ∧
  (∀ (r : List Value), j_goX b L xs M_law post cut (n + 1) 716 ls r w cb sb ↔ j_kX b L xs M_law post cut n 717 ls (.int (Int32.ofInt 1) :: r) w cb sb) ∧
  (∀ (r : List Value) (x y : Int32), j_goX b L xs M_law post cut (n + 1) 717 ls (.int y :: .int x :: r) w cb sb ↔ j_kX b L xs M_law post cut n 718 ls (.int (x + y) :: r) w cb sb) ∧
  (∀ (r : List Value) (a : Nat) (j : Int32), j_goX b L xs M_law post cut (n + 1) 718 ls (.int j :: .ref a :: r) w cb sb ↔ a = b ∧ vp_in j L ∧ j_kX b L xs M_law post cut n 719 ls (.int (xs j.toNatClampNeg) :: r) w cb sb) ∧
  (∀ (r : List Value), j_goX b L xs M_law post cut (n + 1) 719 ls r w cb sb ↔ g_ld ls[0]? (fun v => t_a v ∧ j_kX b L xs M_law post cut n 720 ls (v :: r) w cb sb)) ∧
  (∀ (r : List Value), j_goX b L xs M_law post cut (n + 1) 720 ls r w cb sb ↔ g_ld ls[3]? (fun v => t_i v ∧ j_kX b L xs M_law post cut n 721 ls (v :: r) w cb sb)) ∧
  (∀ (r : List Value), j_goX b L xs M_law post cut (n + 1) 721 ls r w cb sb ↔ j_kX b L xs M_law post cut n 722 ls (.int (Int32.ofInt 2) :: r) w cb sb) ∧
  (∀ (r : List Value) (x y : Int32), j_goX b L xs M_law post cut (n + 1) 722 ls (.int y :: .int x :: r) w cb sb ↔ j_kX b L xs M_law post cut n 723 ls (.int (x + y) :: r) w cb sb) ∧
  (∀ (r : List Value) (a : Nat) (j : Int32), j_goX b L xs M_law post cut (n + 1) 723 ls (.int j :: .ref a :: r) w cb sb ↔ a = b ∧ vp_in j L ∧ j_kX b L xs M_law post cut n 724 ls (.int (xs j.toNatClampNeg) :: r) w cb sb) ∧
  (∀ (r : List Value) (a0 a1 : Value) (z : Nat), j_goX b L xs M_law post cut (n + 1) 724 ls (a1 :: a0 :: .ref z :: r) w cb sb ↔ g_ob 8 (w z) (fun _ => True) ∧ j_w8 r ∧ g_call (jmt 116) [.ref z, a0, a1] w cb sb (fun v w' c s => j_kX b L xs M_law post cut n 727 ls (v.toList ++ r) w' c s)) ∧
  (∀ (r : List Value) (a z : Int32), j_goX b L xs M_law post cut (n + 1) 727 ls (.int z :: .int a :: r) w cb sb ↔ (a = z → j_kX b L xs M_law post cut n 775 ls r w cb sb) ∧ (¬ (a = z) → j_kX b L xs M_law post cut n 730 ls r w cb sb)) ∧
  (∀ (r : List Value), j_goX b L xs M_law post cut (n + 1) 730 ls r w cb sb ↔ j_kX b L xs M_law post cut n 731 ls (.int (Int32.ofInt 0) :: r) w cb sb) ∧
  (∀ (a : Int32), j_goX b L xs M_law post cut (n + 1) 731 ls [.int a] w cb sb ↔ narrow .boolean (.int a) = .int a ∧ post (some (.int a)) w) := ⟨fun _ => (j_goX_s rfl rfl).trans e_aload_n,
  fun _ => (j_goX_s rfl rfl).trans e_aload_n,
  fun _ => (j_goX_s rfl rfl).trans e_iload_n,
  fun _ => (j_goX_s rfl rfl).trans e_iconst,
  fun _ _ _ => (j_goX_s rfl rfl).trans e_iadd,
  fun _ _ _ => j_goX_ld rfl,
  fun _ => (j_goX_s rfl rfl).trans e_aload_n,
  fun _ => (j_goX_s rfl rfl).trans e_iload_n,
  fun _ => (j_goX_s rfl rfl).trans e_iconst,
  fun _ _ _ => (j_goX_s rfl rfl).trans e_iadd,
  fun _ _ _ => j_goX_ld rfl,
  fun _ _ _ _ => (j_goX_s rfl rfl).trans e_callv,
  fun _ => (j_goX_s rfl rfl).trans e_aload_n,
  fun _ => (j_goX_s rfl rfl).trans e_aload_n,
  fun _ => (j_goX_s rfl rfl).trans e_iload_n,
  fun _ => (j_goX_s rfl rfl).trans e_iconst,
  fun _ _ _ => (j_goX_s rfl rfl).trans e_iadd,
  fun _ _ _ => j_goX_ld rfl,
  fun _ => (j_goX_s rfl rfl).trans e_aload_n,
  fun _ => (j_goX_s rfl rfl).trans e_iload_n,
  fun _ => (j_goX_s rfl rfl).trans e_iconst,
  fun _ _ _ => (j_goX_s rfl rfl).trans e_iadd,
  fun _ _ _ => j_goX_ld rfl,
  fun _ _ _ _ => (j_goX_s rfl rfl).trans e_callv,
  fun _ _ _ => (j_goX_s rfl rfl).trans e_icmp,
  fun _ => (j_goX_s rfl rfl).trans e_iconst,
  fun _ => (j_goX_s rfl rfl).trans e_iret⟩
set_option maxRecDepth 100000 in
set_option maxHeartbeats 8000000 in
theorem st_law_18 {b L : Nat} {xs : Nat → Int32} {post : Option Value → jW → Prop} {cut : List Nat} {n : Nat} {ls : jL} {w : jW} {cb sb : Nat} : (∀ (r : List Value), j_goX b L xs M_law post cut (n + 1) 732 ls r w cb sb ↔ g_ld ls[1]? (fun v => t_a v ∧ j_kX b L xs M_law post cut n 733 ls (v :: r) w cb sb)) ∧
  (∀ (r : List Value), j_goX b L xs M_law post cut (n + 1) 733 ls r w cb sb ↔ g_ld ls[0]? (fun v => t_a v ∧ j_kX b L xs M_law post cut n 734 ls (v :: r) w cb sb)) ∧
  (∀ (r : List Value), j_goX b L xs M_law post cut (n + 1) 734 ls r w cb sb ↔ g_ld ls[3]? (fun v => t_i v ∧ j_kX b L xs M_law post cut n 735 ls (v :: r) w cb sb)) ∧
  (∀ (r : List Value), j_goX b L xs M_law post cut (n + 1) 735 ls r w cb sb ↔ j_kX b L xs M_law post cut n 736 ls (.int (Int32.ofInt 1) :: r) w cb sb) ∧
  (∀ (r : List Value) (x y : Int32), j_goX b L xs M_law post cut (n + 1) 736 ls (.int y :: .int x :: r) w cb sb ↔ j_kX b L xs M_law post cut n 737 ls (.int (x + y) :: r) w cb sb) ∧
  (∀ (r : List Value) (a : Nat) (j : Int32), j_goX b L xs M_law post cut (n + 1) 737 ls (.int j :: .ref a :: r) w cb sb ↔ a = b ∧ vp_in j L ∧ j_kX b L xs M_law post cut n 738 ls (.int (xs j.toNatClampNeg) :: r) w cb sb) ∧
  (∀ (r : List Value), j_goX b L xs M_law post cut (n + 1) 738 ls r w cb sb ↔ g_ld ls[0]? (fun v => t_a v ∧ j_kX b L xs M_law post cut n 739 ls (v :: r) w cb sb)) ∧
  (∀ (r : List Value), j_goX b L xs M_law post cut (n + 1) 739 ls r w cb sb ↔ g_ld ls[3]? (fun v => t_i v ∧ j_kX b L xs M_law post cut n 740 ls (v :: r) w cb sb)) ∧
  (∀ (r : List Value), j_goX b L xs M_law post cut (n + 1) 740 ls r w cb sb ↔ j_kX b L xs M_law post cut n 741 ls (.int (Int32.ofInt 2) :: r) w cb sb) ∧
  (∀ (r : List Value) (x y : Int32), j_goX b L xs M_law post cut (n + 1) 741 ls (.int y :: .int x :: r) w cb sb ↔ j_kX b L xs M_law post cut n 742 ls (.int (x + y) :: r) w cb sb) ∧
  (∀ (r : List Value) (a : Nat) (j : Int32), j_goX b L xs M_law post cut (n + 1) 742 ls (.int j :: .ref a :: r) w cb sb ↔ a = b ∧ vp_in j L ∧ j_kX b L xs M_law post cut n 743 ls (.int (xs j.toNatClampNeg) :: r) w cb sb) ∧
  (∀ (r : List Value), j_goX b L xs M_law post cut (n + 1) 743 ls r w cb sb ↔ g_ld ls[0]? (fun v => t_a v ∧ j_kX b L xs M_law post cut n 744 ls (v :: r) w cb sb)) ∧
  (∀ (r : List Value), j_goX b L xs M_law post cut (n + 1) 744 ls r w cb sb ↔ g_ld ls[3]? (fun v => t_i v ∧ j_kX b L xs M_law post cut n 745 ls (v :: r) w cb sb)) ∧
  (∀ (r : List Value), j_goX b L xs M_law post cut (n + 1) 745 ls r w cb sb ↔ j_kX b L xs M_law post cut n 746 ls (.int (Int32.ofInt 3) :: r) w cb sb) ∧
  (∀ (r : List Value) (x y : Int32), j_goX b L xs M_law post cut (n + 1) 746 ls (.int y :: .int x :: r) w cb sb ↔ j_kX b L xs M_law post cut n 747 ls (.int (x + y) :: r) w cb sb) ∧
  (∀ (r : List Value) (a : Nat) (j : Int32), j_goX b L xs M_law post cut (n + 1) 747 ls (.int j :: .ref a :: r) w cb sb ↔ a = b ∧ vp_in j L ∧ j_kX b L xs M_law post cut n 748 ls (.int (xs j.toNatClampNeg) :: r) w cb sb) ∧
  (∀ (r : List Value) (a0 a1 a2 : Value) (z : Nat), j_goX b L xs M_law post cut (n + 1) 748 ls (a2 :: a1 :: a0 :: .ref z :: r) w cb sb ↔ g_ob 0 (w z) (fun _ => True) ∧ j_w8 r ∧ g_call (jmt 77) [.ref z, a0, a1, a2] w cb sb (fun v w' c s => j_kX b L xs M_law post cut n 751 ls (v.toList ++ r) w' c s)) ∧
  (∀ (r : List Value), j_goX b L xs M_law post cut (n + 1) 751 ls r w cb sb ↔ g_ld ls[2]? (fun v => t_a v ∧ j_kX b L xs M_law post cut n 752 ls (v :: r) w cb sb)) ∧
  (∀ (r : List Value), j_goX b L xs M_law post cut (n + 1) 752 ls r w cb sb ↔ g_ld ls[0]? (fun v => t_a v ∧ j_kX b L xs M_law post cut n 753 ls (v :: r) w cb sb)) ∧
  (∀ (r : List Value), j_goX b L xs M_law post cut (n + 1) 753 ls r w cb sb ↔ g_ld ls[3]? (fun v => t_i v ∧ j_kX b L xs M_law post cut n 754 ls (v :: r) w cb sb)) ∧
  (∀ (r : List Value), j_goX b L xs M_law post cut (n + 1) 754 ls r w cb sb ↔ j_kX b L xs M_law post cut n 755 ls (.int (Int32.ofInt 1) :: r) w cb sb) ∧
  (∀ (r : List Value) (x y : Int32), j_goX b L xs M_law post cut (n + 1) 755 ls (.int y :: .int x :: r) w cb sb ↔ j_kX b L xs M_law post cut n 756 ls (.int (x + y) :: r) w cb sb) ∧
  (∀ (r : List Value) (a : Nat) (j : Int32), j_goX b L xs M_law post cut (n + 1) 756 ls (.int j :: .ref a :: r) w cb sb ↔ a = b ∧ vp_in j L ∧ j_kX b L xs M_law post cut n 757 ls (.int (xs j.toNatClampNeg) :: r) w cb sb) ∧
  (∀ (r : List Value), j_goX b L xs M_law post cut (n + 1) 757 ls r w cb sb ↔ g_ld ls[0]? (fun v => t_a v ∧ j_kX b L xs M_law post cut n 758 ls (v :: r) w cb sb)) ∧
  (∀ (r : List Value), j_goX b L xs M_law post cut (n + 1) 758 ls r w cb sb ↔ g_ld ls[3]? (fun v => t_i v ∧ j_kX b L xs M_law post cut n 759 ls (v :: r) w cb sb)) ∧
  (∀ (r : List Value), j_goX b L xs M_law post cut (n + 1) 759 ls r w cb sb ↔ j_kX b L xs M_law post cut n 760 ls (.int (Int32.ofInt 2) :: r) w cb sb) ∧
  (∀ (r : List Value) (x y : Int32), j_goX b L xs M_law post cut (n + 1) 760 ls (.int y :: .int x :: r) w cb sb ↔ j_kX b L xs M_law post cut n 761 ls (.int (x + y) :: r) w cb sb) ∧
  (∀ (r : List Value) (a : Nat) (j : Int32), j_goX b L xs M_law post cut (n + 1) 761 ls (.int j :: .ref a :: r) w cb sb ↔ a = b ∧ vp_in j L ∧ j_kX b L xs M_law post cut n 762 ls (.int (xs j.toNatClampNeg) :: r) w cb sb) ∧
  (∀ (r : List Value), j_goX b L xs M_law post cut (n + 1) 762 ls r w cb sb ↔ g_ld ls[0]? (fun v => t_a v ∧ j_kX b L xs M_law post cut n 763 ls (v :: r) w cb sb)) ∧
  (∀ (r : List Value), j_goX b L xs M_law post cut (n + 1) 763 ls r w cb sb ↔ g_ld ls[3]? (fun v => t_i v ∧ j_kX b L xs M_law post cut n 764 ls (v :: r) w cb sb)) ∧
  (∀ (r : List Value), j_goX b L xs M_law post cut (n + 1) 764 ls r w cb sb ↔ j_kX b L xs M_law post cut n 765 ls (.int (Int32.ofInt 3) :: r) w cb sb) ∧
  (∀ (r : List Value) (x y : Int32), j_goX b L xs M_law post cut (n + 1) 765 ls (.int y :: .int x :: r) w cb sb ↔ j_kX b L xs M_law post cut n 766 ls (.int (x + y) :: r) w cb sb) ∧
  (∀ (r : List Value) (a : Nat) (j : Int32), j_goX b L xs M_law post cut (n + 1) 766 ls (.int j :: .ref a :: r) w cb sb ↔ a = b ∧ vp_in j L ∧ j_kX b L xs M_law post cut n 767 ls (.int (xs j.toNatClampNeg) :: r) w cb sb) ∧
  (∀ (r : List Value) (a0 a1 a2 : Value) (z : Nat), j_goX b L xs M_law post cut (n + 1) 767 ls (a2 :: a1 :: a0 :: .ref z :: r) w cb sb ↔ g_ob 8 (w z) (fun _ => True) ∧ j_w8 r ∧ g_call (jmt 115) [.ref z, a0, a1, a2] w cb sb (fun v w' c s => j_kX b L xs M_law post cut n 770 ls (v.toList ++ r) w' c s)) ∧
  (∀ (r : List Value) (a z : Int32), j_goX b L xs M_law post cut (n + 1) 770 ls (.int z :: .int a :: r) w cb sb ↔ (a = z → j_kX b L xs M_law post cut n 775 ls r w cb sb) ∧ (¬ (a = z) → j_kX b L xs M_law post cut n 773 ls r w cb sb)) ∧
  (∀ (r : List Value), j_goX b L xs M_law post cut (n + 1) 773 ls r w cb sb ↔ j_kX b L xs M_law post cut n 774 ls (.int (Int32.ofInt 0) :: r) w cb sb) ∧
  (∀ (a : Int32), j_goX b L xs M_law post cut (n + 1) 774 ls [.int a] w cb sb ↔ narrow .boolean (.int a) = .int a ∧ post (some (.int a)) w) := ⟨fun _ => (j_goX_s rfl rfl).trans e_aload_n,
  fun _ => (j_goX_s rfl rfl).trans e_aload_n,
  fun _ => (j_goX_s rfl rfl).trans e_iload_n,
  fun _ => (j_goX_s rfl rfl).trans e_iconst,
  fun _ _ _ => (j_goX_s rfl rfl).trans e_iadd,
  fun _ _ _ => j_goX_ld rfl,
  fun _ => (j_goX_s rfl rfl).trans e_aload_n,
  fun _ => (j_goX_s rfl rfl).trans e_iload_n,
  fun _ => (j_goX_s rfl rfl).trans e_iconst,
  fun _ _ _ => (j_goX_s rfl rfl).trans e_iadd,
  fun _ _ _ => j_goX_ld rfl,
  fun _ => (j_goX_s rfl rfl).trans e_aload_n,
  fun _ => (j_goX_s rfl rfl).trans e_iload_n,
  fun _ => (j_goX_s rfl rfl).trans e_iconst,
  fun _ _ _ => (j_goX_s rfl rfl).trans e_iadd,
  fun _ _ _ => j_goX_ld rfl,
  fun _ _ _ _ _ => (j_goX_s rfl rfl).trans e_callv,
  fun _ => (j_goX_s rfl rfl).trans e_aload_n,
  fun _ => (j_goX_s rfl rfl).trans e_aload_n,
  fun _ => (j_goX_s rfl rfl).trans e_iload_n,
  fun _ => (j_goX_s rfl rfl).trans e_iconst,
  fun _ _ _ => (j_goX_s rfl rfl).trans e_iadd,
  fun _ _ _ => j_goX_ld rfl,
  fun _ => (j_goX_s rfl rfl).trans e_aload_n,
  fun _ => (j_goX_s rfl rfl).trans e_iload_n,
  fun _ => (j_goX_s rfl rfl).trans e_iconst,
  fun _ _ _ => (j_goX_s rfl rfl).trans e_iadd,
  fun _ _ _ => j_goX_ld rfl,
  fun _ => (j_goX_s rfl rfl).trans e_aload_n,
  fun _ => (j_goX_s rfl rfl).trans e_iload_n,
  fun _ => (j_goX_s rfl rfl).trans e_iconst,
  fun _ _ _ => (j_goX_s rfl rfl).trans e_iadd,
  fun _ _ _ => j_goX_ld rfl,
  fun _ _ _ _ _ => (j_goX_s rfl rfl).trans e_callv,
  fun _ _ _ => (j_goX_s rfl rfl).trans e_icmp,
  fun _ => (j_goX_s rfl rfl).trans e_iconst,
  fun _ => (j_goX_s rfl rfl).trans e_iret⟩
