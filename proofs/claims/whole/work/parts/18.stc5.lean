set_option maxRecDepth 100000 in
set_option maxHeartbeats 4000000 in
theorem st_Ref_drop {post : Option Value → jW → Prop} {cut : List Nat} {n : Nat} {ls : jL} {w : jW} {cb sb : Nat} : (∀ (r : List Value), j_go (jmt 108) post cut (n + 1) 0 ls r w cb sb ↔ g_ld ls[0]? (fun v => t_a v ∧ j_k (jmt 108) post cut n 1 ls (v :: r) w cb sb)) ∧
  (∀ (r : List Value), j_go (jmt 108) post cut (n + 1) 1 ls r w cb sb ↔ g_ld ls[1]? (fun v => t_i v ∧ j_k (jmt 108) post cut n 2 ls (v :: r) w cb sb)) ∧
  (∀ (r : List Value) (a0 : Value) (b : Nat), j_go (jmt 108) post cut (n + 1) 2 ls (a0 :: .ref b :: r) w cb sb ↔ g_ob 8 (w b) (fun _ => True) ∧ j_w8 r ∧ g_call (jmt 101) [.ref b, a0] w cb sb (fun v w' c s => j_k (jmt 108) post cut n 5 ls (v.toList ++ r) w' c s)) ∧
  (∀ (r : List Value) (a : Int32), j_go (jmt 108) post cut (n + 1) 5 ls (.int a :: r) w cb sb ↔ (a = 0 → j_k (jmt 108) post cut n 10 ls r w cb sb) ∧ (¬ (a = 0) → j_k (jmt 108) post cut n 8 ls r w cb sb)) ∧
  (∀ (r : List Value), j_go (jmt 108) post cut (n + 1) 8 ls r w cb sb ↔ j_k (jmt 108) post cut n 9 ls (.int (Int32.ofInt (-1)) :: r) w cb sb) ∧
  (∀ (a : Int32), j_go (jmt 108) post cut (n + 1) 9 ls [.int a] w cb sb ↔ narrow .int (.int a) = .int a ∧ post (some (.int a)) w) ∧
  (∀ (r : List Value), j_go (jmt 108) post cut (n + 1) 10 ls r w cb sb ↔ g_ld ls[0]? (fun v => t_a v ∧ j_k (jmt 108) post cut n 11 ls (v :: r) w cb sb)) ∧
  (∀ (r : List Value) (a : Nat), j_go (jmt 108) post cut (n + 1) 11 ls (.ref a :: r) w cb sb ↔ g_ob 8 (w a) (fun fs => g_v fs[23]? (fun v => j_k (jmt 108) post cut n 14 ls (v :: r) w cb sb))) ∧
  (∀ (r : List Value), j_go (jmt 108) post cut (n + 1) 14 ls r w cb sb ↔ j_k (jmt 108) post cut n 16 ls (.int (Int8.ofInt 6).toInt32 :: r) w cb sb) ∧
  (∀ (r : List Value), j_go (jmt 108) post cut (n + 1) 16 ls r w cb sb ↔ g_ld ls[1]? (fun v => t_i v ∧ j_k (jmt 108) post cut n 17 ls (v :: r) w cb sb)) ∧
  (∀ (r : List Value) (x y : Int32), j_go (jmt 108) post cut (n + 1) 17 ls (.int y :: .int x :: r) w cb sb ↔ j_k (jmt 108) post cut n 18 ls (.int (x * y) :: r) w cb sb) ∧
  (∀ (r : List Value), j_go (jmt 108) post cut (n + 1) 18 ls r w cb sb ↔ j_k (jmt 108) post cut n 19 ls (.int (Int32.ofInt 5) :: r) w cb sb) ∧
  (∀ (r : List Value) (x y : Int32), j_go (jmt 108) post cut (n + 1) 19 ls (.int y :: .int x :: r) w cb sb ↔ j_k (jmt 108) post cut n 20 ls (.int (x + y) :: r) w cb sb) ∧
  (∀ (r : List Value), j_go (jmt 108) post cut (n + 1) 20 ls r w cb sb ↔ j_k (jmt 108) post cut n 21 ls (.int (Int32.ofInt 5) :: r) w cb sb) ∧
  (∀ (r : List Value) (a : Nat) (j v : Int32), j_go (jmt 108) post cut (n + 1) 21 ls (.int v :: .int j :: .ref a :: r) w cb sb ↔ g_ia 0 (w a) (fun m f => vp_in j m ∧ j_k (jmt 108) post cut n 22 ls r ((j_up w a (.inl (0, m, .inl (upd f j.toNatClampNeg v))))) cb sb)) ∧
  (∀ (r : List Value), j_go (jmt 108) post cut (n + 1) 22 ls r w cb sb ↔ j_k (jmt 108) post cut n 23 ls (.int (Int32.ofInt 0) :: r) w cb sb) ∧
  (∀ (a : Int32), j_go (jmt 108) post cut (n + 1) 23 ls [.int a] w cb sb ↔ narrow .int (.int a) = .int a ∧ post (some (.int a)) w) := ⟨fun _ => (j_go_s rfl).trans e_aload_n,
  fun _ => (j_go_s rfl).trans e_iload_n,
  fun _ _ _ => (j_go_s rfl).trans e_callv,
  fun _ _ => (j_go_s rfl).trans e_if,
  fun _ => (j_go_s rfl).trans e_iconst,
  fun _ => (j_go_s rfl).trans e_iret,
  fun _ => (j_go_s rfl).trans e_aload_n,
  fun _ _ => (j_go_s rfl).trans e_getf,
  fun _ => (j_go_s rfl).trans e_bipush,
  fun _ => (j_go_s rfl).trans e_iload_n,
  fun _ _ _ => (j_go_s rfl).trans e_imul,
  fun _ => (j_go_s rfl).trans e_iconst,
  fun _ _ _ => (j_go_s rfl).trans e_iadd,
  fun _ => (j_go_s rfl).trans e_iconst,
  fun _ _ _ _ => (j_go_s rfl).trans e_iast,
  fun _ => (j_go_s rfl).trans e_iconst,
  fun _ => (j_go_s rfl).trans e_iret⟩
set_option maxRecDepth 100000 in
set_option maxHeartbeats 4000000 in
theorem st_Ref_copy {post : Option Value → jW → Prop} {cut : List Nat} {n : Nat} {ls : jL} {w : jW} {cb sb : Nat} : (∀ (r : List Value), j_go (jmt 109) post cut (n + 1) 0 ls r w cb sb ↔ g_ld ls[0]? (fun v => t_a v ∧ j_k (jmt 109) post cut n 1 ls (v :: r) w cb sb)) ∧
  (∀ (r : List Value), j_go (jmt 109) post cut (n + 1) 1 ls r w cb sb ↔ g_ld ls[1]? (fun v => t_i v ∧ j_k (jmt 109) post cut n 2 ls (v :: r) w cb sb)) ∧
  (∀ (r : List Value) (a0 : Value) (b : Nat), j_go (jmt 109) post cut (n + 1) 2 ls (a0 :: .ref b :: r) w cb sb ↔ g_ob 8 (w b) (fun _ => True) ∧ j_w8 r ∧ g_call (jmt 101) [.ref b, a0] w cb sb (fun v w' c s => j_k (jmt 109) post cut n 5 ls (v.toList ++ r) w' c s)) ∧
  (∀ (r : List Value) (a : Int32), j_go (jmt 109) post cut (n + 1) 5 ls (.int a :: r) w cb sb ↔ (a = 0 → j_k (jmt 109) post cut n 10 ls r w cb sb) ∧ (¬ (a = 0) → j_k (jmt 109) post cut n 8 ls r w cb sb)) ∧
  (∀ (r : List Value), j_go (jmt 109) post cut (n + 1) 8 ls r w cb sb ↔ j_k (jmt 109) post cut n 9 ls (.int (Int32.ofInt (-1)) :: r) w cb sb) ∧
  (∀ (a : Int32), j_go (jmt 109) post cut (n + 1) 9 ls [.int a] w cb sb ↔ narrow .int (.int a) = .int a ∧ post (some (.int a)) w) ∧
  (∀ (r : List Value), j_go (jmt 109) post cut (n + 1) 10 ls r w cb sb ↔ g_ld ls[0]? (fun v => t_a v ∧ j_k (jmt 109) post cut n 11 ls (v :: r) w cb sb)) ∧
  (∀ (r : List Value) (a : Nat), j_go (jmt 109) post cut (n + 1) 11 ls (.ref a :: r) w cb sb ↔ g_ob 8 (w a) (fun fs => g_v fs[22]? (fun v => j_k (jmt 109) post cut n 14 ls (v :: r) w cb sb))) ∧
  (∀ (r : List Value), j_go (jmt 109) post cut (n + 1) 14 ls r w cb sb ↔ j_k (jmt 109) post cut n 16 ls (.int (Int8.ofInt 80).toInt32 :: r) w cb sb) ∧
  (∀ (r : List Value) (a b : Int32), j_go (jmt 109) post cut (n + 1) 16 ls (.int b :: .int a :: r) w cb sb ↔ (¬ a = b → j_k (jmt 109) post cut n 22 ls r w cb sb) ∧ (¬ (¬ a = b) → j_k (jmt 109) post cut n 19 ls r w cb sb)) ∧
  (∀ (r : List Value), j_go (jmt 109) post cut (n + 1) 19 ls r w cb sb ↔ j_k (jmt 109) post cut n 21 ls (.int (Int8.ofInt (-2)).toInt32 :: r) w cb sb) ∧
  (∀ (a : Int32), j_go (jmt 109) post cut (n + 1) 21 ls [.int a] w cb sb ↔ narrow .int (.int a) = .int a ∧ post (some (.int a)) w) ∧
  (∀ (r : List Value), j_go (jmt 109) post cut (n + 1) 22 ls r w cb sb ↔ j_k (jmt 109) post cut n 24 ls (.int (Int8.ofInt 6).toInt32 :: r) w cb sb) ∧
  (∀ (r : List Value), j_go (jmt 109) post cut (n + 1) 24 ls r w cb sb ↔ g_ld ls[1]? (fun v => t_i v ∧ j_k (jmt 109) post cut n 25 ls (v :: r) w cb sb)) ∧
  (∀ (r : List Value) (x y : Int32), j_go (jmt 109) post cut (n + 1) 25 ls (.int y :: .int x :: r) w cb sb ↔ j_k (jmt 109) post cut n 26 ls (.int (x * y) :: r) w cb sb) ∧
  (∀ (r : List Value) (x : Int32), j_go (jmt 109) post cut (n + 1) 26 ls (.int x :: r) w cb sb ↔ j_ok1 ls 2 = true ∧ j_k (jmt 109) post cut n 27 (ls.set 2 (some (.int x))) r w cb sb) ∧
  (∀ (r : List Value), j_go (jmt 109) post cut (n + 1) 27 ls r w cb sb ↔ g_ld ls[0]? (fun v => t_a v ∧ j_k (jmt 109) post cut n 28 ls (v :: r) w cb sb)) ∧
  (∀ (r : List Value), j_go (jmt 109) post cut (n + 1) 28 ls r w cb sb ↔ g_ld ls[0]? (fun v => t_a v ∧ j_k (jmt 109) post cut n 29 ls (v :: r) w cb sb)) ∧
  (∀ (r : List Value) (a : Nat), j_go (jmt 109) post cut (n + 1) 29 ls (.ref a :: r) w cb sb ↔ g_ob 8 (w a) (fun fs => g_v fs[23]? (fun v => j_k (jmt 109) post cut n 32 ls (v :: r) w cb sb))) ∧
  (∀ (r : List Value), j_go (jmt 109) post cut (n + 1) 32 ls r w cb sb ↔ g_ld ls[2]? (fun v => t_i v ∧ j_k (jmt 109) post cut n 33 ls (v :: r) w cb sb)) ∧
  (∀ (r : List Value) (a : Nat) (j : Int32), j_go (jmt 109) post cut (n + 1) 33 ls (.int j :: .ref a :: r) w cb sb ↔ g_ia 0 (w a) (fun m f => vp_in j m ∧ j_k (jmt 109) post cut n 34 ls (.int (f j.toNatClampNeg) :: r) w cb sb)) ∧
  (∀ (r : List Value), j_go (jmt 109) post cut (n + 1) 34 ls r w cb sb ↔ g_ld ls[0]? (fun v => t_a v ∧ j_k (jmt 109) post cut n 35 ls (v :: r) w cb sb)) ∧
  (∀ (r : List Value) (a : Nat), j_go (jmt 109) post cut (n + 1) 35 ls (.ref a :: r) w cb sb ↔ g_ob 8 (w a) (fun fs => g_v fs[23]? (fun v => j_k (jmt 109) post cut n 38 ls (v :: r) w cb sb))) ∧
  (∀ (r : List Value), j_go (jmt 109) post cut (n + 1) 38 ls r w cb sb ↔ g_ld ls[2]? (fun v => t_i v ∧ j_k (jmt 109) post cut n 39 ls (v :: r) w cb sb)) ∧
  (∀ (r : List Value), j_go (jmt 109) post cut (n + 1) 39 ls r w cb sb ↔ j_k (jmt 109) post cut n 40 ls (.int (Int32.ofInt 1) :: r) w cb sb) ∧
  (∀ (r : List Value) (x y : Int32), j_go (jmt 109) post cut (n + 1) 40 ls (.int y :: .int x :: r) w cb sb ↔ j_k (jmt 109) post cut n 41 ls (.int (x + y) :: r) w cb sb) ∧
  (∀ (r : List Value) (a : Nat) (j : Int32), j_go (jmt 109) post cut (n + 1) 41 ls (.int j :: .ref a :: r) w cb sb ↔ g_ia 0 (w a) (fun m f => vp_in j m ∧ j_k (jmt 109) post cut n 42 ls (.int (f j.toNatClampNeg) :: r) w cb sb)) ∧
  (∀ (r : List Value), j_go (jmt 109) post cut (n + 1) 42 ls r w cb sb ↔ g_ld ls[0]? (fun v => t_a v ∧ j_k (jmt 109) post cut n 43 ls (v :: r) w cb sb)) ∧
  (∀ (r : List Value) (a : Nat), j_go (jmt 109) post cut (n + 1) 43 ls (.ref a :: r) w cb sb ↔ g_ob 8 (w a) (fun fs => g_v fs[23]? (fun v => j_k (jmt 109) post cut n 46 ls (v :: r) w cb sb))) ∧
  (∀ (r : List Value), j_go (jmt 109) post cut (n + 1) 46 ls r w cb sb ↔ g_ld ls[2]? (fun v => t_i v ∧ j_k (jmt 109) post cut n 47 ls (v :: r) w cb sb)) ∧
  (∀ (r : List Value), j_go (jmt 109) post cut (n + 1) 47 ls r w cb sb ↔ j_k (jmt 109) post cut n 48 ls (.int (Int32.ofInt 2) :: r) w cb sb) ∧
  (∀ (r : List Value) (x y : Int32), j_go (jmt 109) post cut (n + 1) 48 ls (.int y :: .int x :: r) w cb sb ↔ j_k (jmt 109) post cut n 49 ls (.int (x + y) :: r) w cb sb) ∧
  (∀ (r : List Value) (a : Nat) (j : Int32), j_go (jmt 109) post cut (n + 1) 49 ls (.int j :: .ref a :: r) w cb sb ↔ g_ia 0 (w a) (fun m f => vp_in j m ∧ j_k (jmt 109) post cut n 50 ls (.int (f j.toNatClampNeg) :: r) w cb sb)) ∧
  (∀ (r : List Value), j_go (jmt 109) post cut (n + 1) 50 ls r w cb sb ↔ g_ld ls[0]? (fun v => t_a v ∧ j_k (jmt 109) post cut n 51 ls (v :: r) w cb sb)) ∧
  (∀ (r : List Value) (a : Nat), j_go (jmt 109) post cut (n + 1) 51 ls (.ref a :: r) w cb sb ↔ g_ob 8 (w a) (fun fs => g_v fs[23]? (fun v => j_k (jmt 109) post cut n 54 ls (v :: r) w cb sb))) ∧
  (∀ (r : List Value), j_go (jmt 109) post cut (n + 1) 54 ls r w cb sb ↔ g_ld ls[2]? (fun v => t_i v ∧ j_k (jmt 109) post cut n 55 ls (v :: r) w cb sb)) ∧
  (∀ (r : List Value), j_go (jmt 109) post cut (n + 1) 55 ls r w cb sb ↔ j_k (jmt 109) post cut n 56 ls (.int (Int32.ofInt 3) :: r) w cb sb) ∧
  (∀ (r : List Value) (x y : Int32), j_go (jmt 109) post cut (n + 1) 56 ls (.int y :: .int x :: r) w cb sb ↔ j_k (jmt 109) post cut n 57 ls (.int (x + y) :: r) w cb sb) ∧
  (∀ (r : List Value) (a : Nat) (j : Int32), j_go (jmt 109) post cut (n + 1) 57 ls (.int j :: .ref a :: r) w cb sb ↔ g_ia 0 (w a) (fun m f => vp_in j m ∧ j_k (jmt 109) post cut n 58 ls (.int (f j.toNatClampNeg) :: r) w cb sb)) ∧
  (∀ (r : List Value), j_go (jmt 109) post cut (n + 1) 58 ls r w cb sb ↔ g_ld ls[0]? (fun v => t_a v ∧ j_k (jmt 109) post cut n 59 ls (v :: r) w cb sb)) ∧
  (∀ (r : List Value) (a : Nat), j_go (jmt 109) post cut (n + 1) 59 ls (.ref a :: r) w cb sb ↔ g_ob 8 (w a) (fun fs => g_v fs[23]? (fun v => j_k (jmt 109) post cut n 62 ls (v :: r) w cb sb))) ∧
  (∀ (r : List Value), j_go (jmt 109) post cut (n + 1) 62 ls r w cb sb ↔ g_ld ls[2]? (fun v => t_i v ∧ j_k (jmt 109) post cut n 63 ls (v :: r) w cb sb)) ∧
  (∀ (r : List Value), j_go (jmt 109) post cut (n + 1) 63 ls r w cb sb ↔ j_k (jmt 109) post cut n 64 ls (.int (Int32.ofInt 4) :: r) w cb sb) ∧
  (∀ (r : List Value) (x y : Int32), j_go (jmt 109) post cut (n + 1) 64 ls (.int y :: .int x :: r) w cb sb ↔ j_k (jmt 109) post cut n 65 ls (.int (x + y) :: r) w cb sb) ∧
  (∀ (r : List Value) (a : Nat) (j : Int32), j_go (jmt 109) post cut (n + 1) 65 ls (.int j :: .ref a :: r) w cb sb ↔ g_ia 0 (w a) (fun m f => vp_in j m ∧ j_k (jmt 109) post cut n 66 ls (.int (f j.toNatClampNeg) :: r) w cb sb)) ∧
  (∀ (r : List Value) (a0 a1 a2 a3 a4 : Value) (b : Nat), j_go (jmt 109) post cut (n + 1) 66 ls (a4 :: a3 :: a2 :: a1 :: a0 :: .ref b :: r) w cb sb ↔ g_ob 8 (w b) (fun _ => True) ∧ j_w8 r ∧ g_call (jmt 99) [.ref b, a0, a1, a2, a3, a4] w cb sb (fun v w' c s => j_k (jmt 109) post cut n 69 ls (v.toList ++ r) w' c s)) ∧
  (∀ (a : Int32), j_go (jmt 109) post cut (n + 1) 69 ls [.int a] w cb sb ↔ narrow .int (.int a) = .int a ∧ post (some (.int a)) w) := ⟨fun _ => (j_go_s rfl).trans e_aload_n,
  fun _ => (j_go_s rfl).trans e_iload_n,
  fun _ _ _ => (j_go_s rfl).trans e_callv,
  fun _ _ => (j_go_s rfl).trans e_if,
  fun _ => (j_go_s rfl).trans e_iconst,
  fun _ => (j_go_s rfl).trans e_iret,
  fun _ => (j_go_s rfl).trans e_aload_n,
  fun _ _ => (j_go_s rfl).trans e_getf,
  fun _ => (j_go_s rfl).trans e_bipush,
  fun _ _ _ => (j_go_s rfl).trans e_icmp,
  fun _ => (j_go_s rfl).trans e_bipush,
  fun _ => (j_go_s rfl).trans e_iret,
  fun _ => (j_go_s rfl).trans e_bipush,
  fun _ => (j_go_s rfl).trans e_iload_n,
  fun _ _ _ => (j_go_s rfl).trans e_imul,
  fun _ _ => (j_go_s rfl).trans e_istore_n,
  fun _ => (j_go_s rfl).trans e_aload_n,
  fun _ => (j_go_s rfl).trans e_aload_n,
  fun _ _ => (j_go_s rfl).trans e_getf,
  fun _ => (j_go_s rfl).trans e_iload_n,
  fun _ _ _ => (j_go_s rfl).trans e_iald,
  fun _ => (j_go_s rfl).trans e_aload_n,
  fun _ _ => (j_go_s rfl).trans e_getf,
  fun _ => (j_go_s rfl).trans e_iload_n,
  fun _ => (j_go_s rfl).trans e_iconst,
  fun _ _ _ => (j_go_s rfl).trans e_iadd,
  fun _ _ _ => (j_go_s rfl).trans e_iald,
  fun _ => (j_go_s rfl).trans e_aload_n,
  fun _ _ => (j_go_s rfl).trans e_getf,
  fun _ => (j_go_s rfl).trans e_iload_n,
  fun _ => (j_go_s rfl).trans e_iconst,
  fun _ _ _ => (j_go_s rfl).trans e_iadd,
  fun _ _ _ => (j_go_s rfl).trans e_iald,
  fun _ => (j_go_s rfl).trans e_aload_n,
  fun _ _ => (j_go_s rfl).trans e_getf,
  fun _ => (j_go_s rfl).trans e_iload_n,
  fun _ => (j_go_s rfl).trans e_iconst,
  fun _ _ _ => (j_go_s rfl).trans e_iadd,
  fun _ _ _ => (j_go_s rfl).trans e_iald,
  fun _ => (j_go_s rfl).trans e_aload_n,
  fun _ _ => (j_go_s rfl).trans e_getf,
  fun _ => (j_go_s rfl).trans e_iload_n,
  fun _ => (j_go_s rfl).trans e_iconst,
  fun _ _ _ => (j_go_s rfl).trans e_iadd,
  fun _ _ _ => (j_go_s rfl).trans e_iald,
  fun _ _ _ _ _ _ _ => (j_go_s rfl).trans e_callv,
  fun _ => (j_go_s rfl).trans e_iret⟩
set_option maxRecDepth 100000 in
set_option maxHeartbeats 4000000 in
theorem st_Ref_route {post : Option Value → jW → Prop} {cut : List Nat} {n : Nat} {ls : jL} {w : jW} {cb sb : Nat} : (∀ (r : List Value), j_go (jmt 110) post cut (n + 1) 0 ls r w cb sb ↔ g_ld ls[1]? (fun v => t_i v ∧ j_k (jmt 110) post cut n 1 ls (v :: r) w cb sb)) ∧
  (∀ (r : List Value), j_go (jmt 110) post cut (n + 1) 1 ls r w cb sb ↔ j_k (jmt 110) post cut n 2 ls (.int (Int32.ofInt 0) :: r) w cb sb) ∧
  (∀ (r : List Value), j_go (jmt 110) post cut (n + 1) 2 ls r w cb sb ↔ j_k (jmt 110) post cut n 4 ls (.int (Int8.ofInt 7).toInt32 :: r) w cb sb) ∧
  (∀ (r : List Value) (a0 a1 a2 : Value), j_go (jmt 110) post cut (n + 1) 4 ls (a2 :: a1 :: a0 :: r) w cb sb ↔ j_w8 r ∧ g_call (jmt 82) [a0, a1, a2] w cb sb (fun v w' c s => j_k (jmt 110) post cut n 7 ls (v.toList ++ r) w' c s)) ∧
  (∀ (r : List Value) (a : Int32), j_go (jmt 110) post cut (n + 1) 7 ls (.int a :: r) w cb sb ↔ (a = 0 → j_k (jmt 110) post cut n 30 ls r w cb sb) ∧ (¬ (a = 0) → j_k (jmt 110) post cut n 10 ls r w cb sb)) ∧
  (∀ (r : List Value), j_go (jmt 110) post cut (n + 1) 10 ls r w cb sb ↔ g_ld ls[2]? (fun v => t_i v ∧ j_k (jmt 110) post cut n 11 ls (v :: r) w cb sb)) ∧
  (∀ (r : List Value), j_go (jmt 110) post cut (n + 1) 11 ls r w cb sb ↔ j_k (jmt 110) post cut n 12 ls (.int (Int32.ofInt 0) :: r) w cb sb) ∧
  (∀ (r : List Value), j_go (jmt 110) post cut (n + 1) 12 ls r w cb sb ↔ j_k (jmt 110) post cut n 15 ls (.int (Int16.ofInt 255).toInt32 :: r) w cb sb) ∧
  (∀ (r : List Value) (a0 a1 a2 : Value), j_go (jmt 110) post cut (n + 1) 15 ls (a2 :: a1 :: a0 :: r) w cb sb ↔ j_w8 r ∧ g_call (jmt 82) [a0, a1, a2] w cb sb (fun v w' c s => j_k (jmt 110) post cut n 18 ls (v.toList ++ r) w' c s)) ∧
  (∀ (r : List Value) (a : Int32), j_go (jmt 110) post cut (n + 1) 18 ls (.int a :: r) w cb sb ↔ (a = 0 → j_k (jmt 110) post cut n 30 ls r w cb sb) ∧ (¬ (a = 0) → j_k (jmt 110) post cut n 21 ls r w cb sb)) ∧
  (∀ (r : List Value), j_go (jmt 110) post cut (n + 1) 21 ls r w cb sb ↔ g_ld ls[0]? (fun v => t_a v ∧ j_k (jmt 110) post cut n 22 ls (v :: r) w cb sb)) ∧
  (∀ (r : List Value), j_go (jmt 110) post cut (n + 1) 22 ls r w cb sb ↔ g_ld ls[1]? (fun v => t_i v ∧ j_k (jmt 110) post cut n 23 ls (v :: r) w cb sb)) ∧
  (∀ (r : List Value), j_go (jmt 110) post cut (n + 1) 23 ls r w cb sb ↔ g_ld ls[2]? (fun v => t_i v ∧ j_k (jmt 110) post cut n 24 ls (v :: r) w cb sb)) ∧
  (∀ (r : List Value) (a0 a1 : Value) (b : Nat), j_go (jmt 110) post cut (n + 1) 24 ls (a1 :: a0 :: .ref b :: r) w cb sb ↔ g_ob 8 (w b) (fun _ => True) ∧ j_w8 r ∧ g_call (jmt 102) [.ref b, a0, a1] w cb sb (fun v w' c s => j_k (jmt 110) post cut n 27 ls (v.toList ++ r) w' c s)) ∧
  (∀ (r : List Value), j_go (jmt 110) post cut (n + 1) 27 ls r w cb sb ↔ j_k (jmt 110) post cut n 31 ls r w cb sb) ∧
  (∀ (r : List Value), j_go (jmt 110) post cut (n + 1) 30 ls r w cb sb ↔ j_k (jmt 110) post cut n 31 ls (.int (Int32.ofInt (-1)) :: r) w cb sb) ∧
  (∀ (a : Int32), j_go (jmt 110) post cut (n + 1) 31 ls [.int a] w cb sb ↔ narrow .int (.int a) = .int a ∧ post (some (.int a)) w) := ⟨fun _ => (j_go_s rfl).trans e_iload_n,
  fun _ => (j_go_s rfl).trans e_iconst,
  fun _ => (j_go_s rfl).trans e_bipush,
  fun _ _ _ _ => (j_go_s rfl).trans e_calls,
  fun _ _ => (j_go_s rfl).trans e_if,
  fun _ => (j_go_s rfl).trans e_iload_n,
  fun _ => (j_go_s rfl).trans e_iconst,
  fun _ => (j_go_s rfl).trans e_sipush,
  fun _ _ _ _ => (j_go_s rfl).trans e_calls,
  fun _ _ => (j_go_s rfl).trans e_if,
  fun _ => (j_go_s rfl).trans e_aload_n,
  fun _ => (j_go_s rfl).trans e_iload_n,
  fun _ => (j_go_s rfl).trans e_iload_n,
  fun _ _ _ _ => (j_go_s rfl).trans e_callv,
  fun _ => (j_go_s rfl).trans e_goto,
  fun _ => (j_go_s rfl).trans e_iconst,
  fun _ => (j_go_s rfl).trans e_iret⟩
set_option maxRecDepth 100000 in
set_option maxHeartbeats 4000000 in
theorem st_Ref_distance {post : Option Value → jW → Prop} {cut : List Nat} {n : Nat} {ls : jL} {w : jW} {cb sb : Nat} : (∀ (r : List Value), j_go (jmt 111) post cut (n + 1) 0 ls r w cb sb ↔ g_ld ls[1]? (fun v => t_i v ∧ j_k (jmt 111) post cut n 1 ls (v :: r) w cb sb)) ∧
  (∀ (r : List Value), j_go (jmt 111) post cut (n + 1) 1 ls r w cb sb ↔ j_k (jmt 111) post cut n 2 ls (.int (Int32.ofInt 0) :: r) w cb sb) ∧
  (∀ (r : List Value), j_go (jmt 111) post cut (n + 1) 2 ls r w cb sb ↔ j_k (jmt 111) post cut n 4 ls (.int (Int8.ofInt 7).toInt32 :: r) w cb sb) ∧
  (∀ (r : List Value) (a0 a1 a2 : Value), j_go (jmt 111) post cut (n + 1) 4 ls (a2 :: a1 :: a0 :: r) w cb sb ↔ j_w8 r ∧ g_call (jmt 82) [a0, a1, a2] w cb sb (fun v w' c s => j_k (jmt 111) post cut n 7 ls (v.toList ++ r) w' c s)) ∧
  (∀ (r : List Value) (a : Int32), j_go (jmt 111) post cut (n + 1) 7 ls (.int a :: r) w cb sb ↔ (a = 0 → j_k (jmt 111) post cut n 20 ls r w cb sb) ∧ (¬ (a = 0) → j_k (jmt 111) post cut n 10 ls r w cb sb)) ∧
  (∀ (r : List Value), j_go (jmt 111) post cut (n + 1) 10 ls r w cb sb ↔ g_ld ls[2]? (fun v => t_i v ∧ j_k (jmt 111) post cut n 11 ls (v :: r) w cb sb)) ∧
  (∀ (r : List Value), j_go (jmt 111) post cut (n + 1) 11 ls r w cb sb ↔ j_k (jmt 111) post cut n 12 ls (.int (Int32.ofInt 0) :: r) w cb sb) ∧
  (∀ (r : List Value), j_go (jmt 111) post cut (n + 1) 12 ls r w cb sb ↔ j_k (jmt 111) post cut n 14 ls (.int (Int8.ofInt 7).toInt32 :: r) w cb sb) ∧
  (∀ (r : List Value) (a0 a1 a2 : Value), j_go (jmt 111) post cut (n + 1) 14 ls (a2 :: a1 :: a0 :: r) w cb sb ↔ j_w8 r ∧ g_call (jmt 82) [a0, a1, a2] w cb sb (fun v w' c s => j_k (jmt 111) post cut n 17 ls (v.toList ++ r) w' c s)) ∧
  (∀ (r : List Value) (a : Int32), j_go (jmt 111) post cut (n + 1) 17 ls (.int a :: r) w cb sb ↔ (¬ a = 0 → j_k (jmt 111) post cut n 22 ls r w cb sb) ∧ (¬ (¬ a = 0) → j_k (jmt 111) post cut n 20 ls r w cb sb)) ∧
  (∀ (r : List Value), j_go (jmt 111) post cut (n + 1) 20 ls r w cb sb ↔ j_k (jmt 111) post cut n 21 ls (.int (Int32.ofInt (-1)) :: r) w cb sb) ∧
  (∀ (a : Int32), j_go (jmt 111) post cut (n + 1) 21 ls [.int a] w cb sb ↔ narrow .int (.int a) = .int a ∧ post (some (.int a)) w) ∧
  (∀ (r : List Value), j_go (jmt 111) post cut (n + 1) 22 ls r w cb sb ↔ g_ld ls[0]? (fun v => t_a v ∧ j_k (jmt 111) post cut n 23 ls (v :: r) w cb sb)) ∧
  (∀ (r : List Value), j_go (jmt 111) post cut (n + 1) 23 ls r w cb sb ↔ g_ld ls[1]? (fun v => t_i v ∧ j_k (jmt 111) post cut n 24 ls (v :: r) w cb sb)) ∧
  (∀ (r : List Value), j_go (jmt 111) post cut (n + 1) 24 ls r w cb sb ↔ g_ld ls[1]? (fun v => t_i v ∧ j_k (jmt 111) post cut n 25 ls (v :: r) w cb sb)) ∧
  (∀ (r : List Value) (a0 a1 : Value) (b : Nat), j_go (jmt 111) post cut (n + 1) 25 ls (a1 :: a0 :: .ref b :: r) w cb sb ↔ g_ob 8 (w b) (fun _ => True) ∧ j_w8 r ∧ g_call (jmt 104) [.ref b, a0, a1] w cb sb (fun v w' c s => j_k (jmt 111) post cut n 28 ls (v.toList ++ r) w' c s)) ∧
  (∀ (r : List Value), j_go (jmt 111) post cut (n + 1) 28 ls r w cb sb ↔ g_ld ls[0]? (fun v => t_a v ∧ j_k (jmt 111) post cut n 29 ls (v :: r) w cb sb)) ∧
  (∀ (r : List Value) (a : Nat), j_go (jmt 111) post cut (n + 1) 29 ls (.ref a :: r) w cb sb ↔ g_ob 8 (w a) (fun fs => g_v fs[24]? (fun v => j_k (jmt 111) post cut n 32 ls (v :: r) w cb sb))) ∧
  (∀ (r : List Value), j_go (jmt 111) post cut (n + 1) 32 ls r w cb sb ↔ g_ld ls[2]? (fun v => t_i v ∧ j_k (jmt 111) post cut n 33 ls (v :: r) w cb sb)) ∧
  (∀ (r : List Value) (a : Nat) (j : Int32), j_go (jmt 111) post cut (n + 1) 33 ls (.int j :: .ref a :: r) w cb sb ↔ g_ia 0 (w a) (fun m f => vp_in j m ∧ j_k (jmt 111) post cut n 34 ls (.int (f j.toNatClampNeg) :: r) w cb sb)) ∧
  (∀ (r : List Value) (a : Int32), j_go (jmt 111) post cut (n + 1) 34 ls (.int a :: r) w cb sb ↔ (0 ≤ a → j_k (jmt 111) post cut n 42 ls r w cb sb) ∧ (¬ (0 ≤ a) → j_k (jmt 111) post cut n 37 ls r w cb sb)) ∧
  (∀ (r : List Value), j_go (jmt 111) post cut (n + 1) 37 ls r w cb sb ↔ j_k (jmt 111) post cut n 39 ls (.int (Int8.ofInt (-3)).toInt32 :: r) w cb sb) ∧
  (∀ (r : List Value), j_go (jmt 111) post cut (n + 1) 39 ls r w cb sb ↔ j_k (jmt 111) post cut n 48 ls r w cb sb) ∧
  (∀ (r : List Value), j_go (jmt 111) post cut (n + 1) 42 ls r w cb sb ↔ g_ld ls[0]? (fun v => t_a v ∧ j_k (jmt 111) post cut n 43 ls (v :: r) w cb sb)) ∧
  (∀ (r : List Value) (a : Nat), j_go (jmt 111) post cut (n + 1) 43 ls (.ref a :: r) w cb sb ↔ g_ob 8 (w a) (fun fs => g_v fs[24]? (fun v => j_k (jmt 111) post cut n 46 ls (v :: r) w cb sb))) ∧
  (∀ (r : List Value), j_go (jmt 111) post cut (n + 1) 46 ls r w cb sb ↔ g_ld ls[2]? (fun v => t_i v ∧ j_k (jmt 111) post cut n 47 ls (v :: r) w cb sb)) ∧
  (∀ (r : List Value) (a : Nat) (j : Int32), j_go (jmt 111) post cut (n + 1) 47 ls (.int j :: .ref a :: r) w cb sb ↔ g_ia 0 (w a) (fun m f => vp_in j m ∧ j_k (jmt 111) post cut n 48 ls (.int (f j.toNatClampNeg) :: r) w cb sb)) ∧
  (∀ (a : Int32), j_go (jmt 111) post cut (n + 1) 48 ls [.int a] w cb sb ↔ narrow .int (.int a) = .int a ∧ post (some (.int a)) w) := ⟨fun _ => (j_go_s rfl).trans e_iload_n,
  fun _ => (j_go_s rfl).trans e_iconst,
  fun _ => (j_go_s rfl).trans e_bipush,
  fun _ _ _ _ => (j_go_s rfl).trans e_calls,
  fun _ _ => (j_go_s rfl).trans e_if,
  fun _ => (j_go_s rfl).trans e_iload_n,
  fun _ => (j_go_s rfl).trans e_iconst,
  fun _ => (j_go_s rfl).trans e_bipush,
  fun _ _ _ _ => (j_go_s rfl).trans e_calls,
  fun _ _ => (j_go_s rfl).trans e_if,
  fun _ => (j_go_s rfl).trans e_iconst,
  fun _ => (j_go_s rfl).trans e_iret,
  fun _ => (j_go_s rfl).trans e_aload_n,
  fun _ => (j_go_s rfl).trans e_iload_n,
  fun _ => (j_go_s rfl).trans e_iload_n,
  fun _ _ _ _ => (j_go_s rfl).trans e_callv,
  fun _ => (j_go_s rfl).trans e_aload_n,
  fun _ _ => (j_go_s rfl).trans e_getf,
  fun _ => (j_go_s rfl).trans e_iload_n,
  fun _ _ _ => (j_go_s rfl).trans e_iald,
  fun _ _ => (j_go_s rfl).trans e_if,
  fun _ => (j_go_s rfl).trans e_bipush,
  fun _ => (j_go_s rfl).trans e_goto,
  fun _ => (j_go_s rfl).trans e_aload_n,
  fun _ _ => (j_go_s rfl).trans e_getf,
  fun _ => (j_go_s rfl).trans e_iload_n,
  fun _ _ _ => (j_go_s rfl).trans e_iald,
  fun _ => (j_go_s rfl).trans e_iret⟩
set_option maxRecDepth 100000 in
set_option maxHeartbeats 4000000 in
theorem st_Ref_held {post : Option Value → jW → Prop} {cut : List Nat} {n : Nat} {ls : jL} {w : jW} {cb sb : Nat} : (∀ (r : List Value), j_go (jmt 112) post cut (n + 1) 0 ls r w cb sb ↔ g_ld ls[1]? (fun v => t_i v ∧ j_k (jmt 112) post cut n 1 ls (v :: r) w cb sb)) ∧
  (∀ (r : List Value), j_go (jmt 112) post cut (n + 1) 1 ls r w cb sb ↔ j_k (jmt 112) post cut n 2 ls (.int (Int32.ofInt 0) :: r) w cb sb) ∧
  (∀ (r : List Value), j_go (jmt 112) post cut (n + 1) 2 ls r w cb sb ↔ j_k (jmt 112) post cut n 4 ls (.int (Int8.ofInt 7).toInt32 :: r) w cb sb) ∧
  (∀ (r : List Value) (a0 a1 a2 : Value), j_go (jmt 112) post cut (n + 1) 4 ls (a2 :: a1 :: a0 :: r) w cb sb ↔ j_w8 r ∧ g_call (jmt 82) [a0, a1, a2] w cb sb (fun v w' c s => j_k (jmt 112) post cut n 7 ls (v.toList ++ r) w' c s)) ∧
  (∀ (r : List Value) (a : Int32), j_go (jmt 112) post cut (n + 1) 7 ls (.int a :: r) w cb sb ↔ (a = 0 → j_k (jmt 112) post cut n 20 ls r w cb sb) ∧ (¬ (a = 0) → j_k (jmt 112) post cut n 10 ls r w cb sb)) ∧
  (∀ (r : List Value), j_go (jmt 112) post cut (n + 1) 10 ls r w cb sb ↔ g_ld ls[2]? (fun v => t_i v ∧ j_k (jmt 112) post cut n 11 ls (v :: r) w cb sb)) ∧
  (∀ (r : List Value), j_go (jmt 112) post cut (n + 1) 11 ls r w cb sb ↔ j_k (jmt 112) post cut n 12 ls (.int (Int32.ofInt 0) :: r) w cb sb) ∧
  (∀ (r : List Value), j_go (jmt 112) post cut (n + 1) 12 ls r w cb sb ↔ j_k (jmt 112) post cut n 14 ls (.int (Int8.ofInt 7).toInt32 :: r) w cb sb) ∧
  (∀ (r : List Value) (a0 a1 a2 : Value), j_go (jmt 112) post cut (n + 1) 14 ls (a2 :: a1 :: a0 :: r) w cb sb ↔ j_w8 r ∧ g_call (jmt 82) [a0, a1, a2] w cb sb (fun v w' c s => j_k (jmt 112) post cut n 17 ls (v.toList ++ r) w' c s)) ∧
  (∀ (r : List Value) (a : Int32), j_go (jmt 112) post cut (n + 1) 17 ls (.int a :: r) w cb sb ↔ (¬ a = 0 → j_k (jmt 112) post cut n 22 ls r w cb sb) ∧ (¬ (¬ a = 0) → j_k (jmt 112) post cut n 20 ls r w cb sb)) ∧
  (∀ (r : List Value), j_go (jmt 112) post cut (n + 1) 20 ls r w cb sb ↔ j_k (jmt 112) post cut n 21 ls (.int (Int32.ofInt (-1)) :: r) w cb sb) ∧
  (∀ (a : Int32), j_go (jmt 112) post cut (n + 1) 21 ls [.int a] w cb sb ↔ narrow .int (.int a) = .int a ∧ post (some (.int a)) w) ∧
  (∀ (r : List Value), j_go (jmt 112) post cut (n + 1) 22 ls r w cb sb ↔ g_ld ls[0]? (fun v => t_a v ∧ j_k (jmt 112) post cut n 23 ls (v :: r) w cb sb)) ∧
  (∀ (r : List Value) (a : Nat), j_go (jmt 112) post cut (n + 1) 23 ls (.ref a :: r) w cb sb ↔ g_ob 8 (w a) (fun fs => g_v fs[15]? (fun v => j_k (jmt 112) post cut n 26 ls (v :: r) w cb sb))) ∧
  (∀ (r : List Value), j_go (jmt 112) post cut (n + 1) 26 ls r w cb sb ↔ j_k (jmt 112) post cut n 28 ls (.int (Int8.ofInt 8).toInt32 :: r) w cb sb) ∧
  (∀ (r : List Value), j_go (jmt 112) post cut (n + 1) 28 ls r w cb sb ↔ g_ld ls[1]? (fun v => t_i v ∧ j_k (jmt 112) post cut n 29 ls (v :: r) w cb sb)) ∧
  (∀ (r : List Value) (x y : Int32), j_go (jmt 112) post cut (n + 1) 29 ls (.int y :: .int x :: r) w cb sb ↔ j_k (jmt 112) post cut n 30 ls (.int (x * y) :: r) w cb sb) ∧
  (∀ (r : List Value), j_go (jmt 112) post cut (n + 1) 30 ls r w cb sb ↔ g_ld ls[2]? (fun v => t_i v ∧ j_k (jmt 112) post cut n 31 ls (v :: r) w cb sb)) ∧
  (∀ (r : List Value) (x y : Int32), j_go (jmt 112) post cut (n + 1) 31 ls (.int y :: .int x :: r) w cb sb ↔ j_k (jmt 112) post cut n 32 ls (.int (x + y) :: r) w cb sb) ∧
  (∀ (r : List Value) (a : Nat) (j : Int32), j_go (jmt 112) post cut (n + 1) 32 ls (.int j :: .ref a :: r) w cb sb ↔ g_ia 0 (w a) (fun m f => vp_in j m ∧ j_k (jmt 112) post cut n 33 ls (.int (f j.toNatClampNeg) :: r) w cb sb)) ∧
  (∀ (r : List Value) (x : Int32), j_go (jmt 112) post cut (n + 1) 33 ls (.int x :: r) w cb sb ↔ j_ok1 ls 3 = true ∧ j_k (jmt 112) post cut n 34 (ls.set 3 (some (.int x))) r w cb sb) ∧
  (∀ (r : List Value), j_go (jmt 112) post cut (n + 1) 34 ls r w cb sb ↔ g_ld ls[3]? (fun v => t_i v ∧ j_k (jmt 112) post cut n 35 ls (v :: r) w cb sb)) ∧
  (∀ (r : List Value) (a : Int32), j_go (jmt 112) post cut (n + 1) 35 ls (.int a :: r) w cb sb ↔ (¬ a = 0 → j_k (jmt 112) post cut n 42 ls r w cb sb) ∧ (¬ (¬ a = 0) → j_k (jmt 112) post cut n 38 ls r w cb sb)) ∧
  (∀ (r : List Value), j_go (jmt 112) post cut (n + 1) 38 ls r w cb sb ↔ j_k (jmt 112) post cut n 39 ls (.int (Int32.ofInt 0) :: r) w cb sb) ∧
  (∀ (r : List Value), j_go (jmt 112) post cut (n + 1) 39 ls r w cb sb ↔ j_k (jmt 112) post cut n 48 ls r w cb sb) ∧
  (∀ (r : List Value), j_go (jmt 112) post cut (n + 1) 42 ls r w cb sb ↔ g_ld ls[0]? (fun v => t_a v ∧ j_k (jmt 112) post cut n 43 ls (v :: r) w cb sb)) ∧
  (∀ (r : List Value) (a : Nat), j_go (jmt 112) post cut (n + 1) 43 ls (.ref a :: r) w cb sb ↔ g_ob 8 (w a) (fun fs => g_v fs[10]? (fun v => j_k (jmt 112) post cut n 46 ls (v :: r) w cb sb))) ∧
  (∀ (r : List Value), j_go (jmt 112) post cut (n + 1) 46 ls r w cb sb ↔ g_ld ls[3]? (fun v => t_i v ∧ j_k (jmt 112) post cut n 47 ls (v :: r) w cb sb)) ∧
  (∀ (r : List Value) (a : Nat) (j : Int32), j_go (jmt 112) post cut (n + 1) 47 ls (.int j :: .ref a :: r) w cb sb ↔ g_ia 0 (w a) (fun m f => vp_in j m ∧ j_k (jmt 112) post cut n 48 ls (.int (f j.toNatClampNeg) :: r) w cb sb)) ∧
  (∀ (a : Int32), j_go (jmt 112) post cut (n + 1) 48 ls [.int a] w cb sb ↔ narrow .int (.int a) = .int a ∧ post (some (.int a)) w) := ⟨fun _ => (j_go_s rfl).trans e_iload_n,
  fun _ => (j_go_s rfl).trans e_iconst,
  fun _ => (j_go_s rfl).trans e_bipush,
  fun _ _ _ _ => (j_go_s rfl).trans e_calls,
  fun _ _ => (j_go_s rfl).trans e_if,
  fun _ => (j_go_s rfl).trans e_iload_n,
  fun _ => (j_go_s rfl).trans e_iconst,
  fun _ => (j_go_s rfl).trans e_bipush,
  fun _ _ _ _ => (j_go_s rfl).trans e_calls,
  fun _ _ => (j_go_s rfl).trans e_if,
  fun _ => (j_go_s rfl).trans e_iconst,
  fun _ => (j_go_s rfl).trans e_iret,
  fun _ => (j_go_s rfl).trans e_aload_n,
  fun _ _ => (j_go_s rfl).trans e_getf,
  fun _ => (j_go_s rfl).trans e_bipush,
  fun _ => (j_go_s rfl).trans e_iload_n,
  fun _ _ _ => (j_go_s rfl).trans e_imul,
  fun _ => (j_go_s rfl).trans e_iload_n,
  fun _ _ _ => (j_go_s rfl).trans e_iadd,
  fun _ _ _ => (j_go_s rfl).trans e_iald,
  fun _ _ => (j_go_s rfl).trans e_istore_n,
  fun _ => (j_go_s rfl).trans e_iload_n,
  fun _ _ => (j_go_s rfl).trans e_if,
  fun _ => (j_go_s rfl).trans e_iconst,
  fun _ => (j_go_s rfl).trans e_goto,
  fun _ => (j_go_s rfl).trans e_aload_n,
  fun _ _ => (j_go_s rfl).trans e_getf,
  fun _ => (j_go_s rfl).trans e_iload_n,
  fun _ _ _ => (j_go_s rfl).trans e_iald,
  fun _ => (j_go_s rfl).trans e_iret⟩
set_option maxRecDepth 100000 in
set_option maxHeartbeats 4000000 in
theorem st_Ref_waiting {post : Option Value → jW → Prop} {cut : List Nat} {n : Nat} {ls : jL} {w : jW} {cb sb : Nat} : (∀ (r : List Value), j_go (jmt 113) post cut (n + 1) 0 ls r w cb sb ↔ g_ld ls[0]? (fun v => t_a v ∧ j_k (jmt 113) post cut n 1 ls (v :: r) w cb sb)) ∧
  (∀ (r : List Value), j_go (jmt 113) post cut (n + 1) 1 ls r w cb sb ↔ g_ld ls[1]? (fun v => t_i v ∧ j_k (jmt 113) post cut n 2 ls (v :: r) w cb sb)) ∧
  (∀ (r : List Value), j_go (jmt 113) post cut (n + 1) 2 ls r w cb sb ↔ g_ld ls[2]? (fun v => t_i v ∧ j_k (jmt 113) post cut n 3 ls (v :: r) w cb sb)) ∧
  (∀ (r : List Value) (a0 a1 : Value) (b : Nat), j_go (jmt 113) post cut (n + 1) 3 ls (a1 :: a0 :: .ref b :: r) w cb sb ↔ g_ob 8 (w b) (fun _ => True) ∧ j_w8 r ∧ g_call (jmt 95) [.ref b, a0, a1] w cb sb (fun v w' c s => j_k (jmt 113) post cut n 6 ls (v.toList ++ r) w' c s)) ∧
  (∀ (r : List Value) (a : Int32), j_go (jmt 113) post cut (n + 1) 6 ls (.int a :: r) w cb sb ↔ (a = 0 → j_k (jmt 113) post cut n 13 ls r w cb sb) ∧ (¬ (a = 0) → j_k (jmt 113) post cut n 9 ls r w cb sb)) ∧
  (∀ (r : List Value), j_go (jmt 113) post cut (n + 1) 9 ls r w cb sb ↔ j_k (jmt 113) post cut n 10 ls (.int (Int32.ofInt (-1)) :: r) w cb sb) ∧
  (∀ (r : List Value), j_go (jmt 113) post cut (n + 1) 10 ls r w cb sb ↔ j_k (jmt 113) post cut n 23 ls r w cb sb) ∧
  (∀ (r : List Value), j_go (jmt 113) post cut (n + 1) 13 ls r w cb sb ↔ g_ld ls[0]? (fun v => t_a v ∧ j_k (jmt 113) post cut n 14 ls (v :: r) w cb sb)) ∧
  (∀ (r : List Value) (a : Nat), j_go (jmt 113) post cut (n + 1) 14 ls (.ref a :: r) w cb sb ↔ g_ob 8 (w a) (fun fs => g_v fs[16]? (fun v => j_k (jmt 113) post cut n 17 ls (v :: r) w cb sb))) ∧
  (∀ (r : List Value), j_go (jmt 113) post cut (n + 1) 17 ls r w cb sb ↔ j_k (jmt 113) post cut n 18 ls (.int (Int32.ofInt 2) :: r) w cb sb) ∧
  (∀ (r : List Value), j_go (jmt 113) post cut (n + 1) 18 ls r w cb sb ↔ g_ld ls[1]? (fun v => t_i v ∧ j_k (jmt 113) post cut n 19 ls (v :: r) w cb sb)) ∧
  (∀ (r : List Value) (x y : Int32), j_go (jmt 113) post cut (n + 1) 19 ls (.int y :: .int x :: r) w cb sb ↔ j_k (jmt 113) post cut n 20 ls (.int (x * y) :: r) w cb sb) ∧
  (∀ (r : List Value), j_go (jmt 113) post cut (n + 1) 20 ls r w cb sb ↔ g_ld ls[2]? (fun v => t_i v ∧ j_k (jmt 113) post cut n 21 ls (v :: r) w cb sb)) ∧
  (∀ (r : List Value) (x y : Int32), j_go (jmt 113) post cut (n + 1) 21 ls (.int y :: .int x :: r) w cb sb ↔ j_k (jmt 113) post cut n 22 ls (.int (x + y) :: r) w cb sb) ∧
  (∀ (r : List Value) (a : Nat) (j : Int32), j_go (jmt 113) post cut (n + 1) 22 ls (.int j :: .ref a :: r) w cb sb ↔ g_ia 0 (w a) (fun m f => vp_in j m ∧ j_k (jmt 113) post cut n 23 ls (.int (f j.toNatClampNeg) :: r) w cb sb)) ∧
  (∀ (a : Int32), j_go (jmt 113) post cut (n + 1) 23 ls [.int a] w cb sb ↔ narrow .int (.int a) = .int a ∧ post (some (.int a)) w) := ⟨fun _ => (j_go_s rfl).trans e_aload_n,
  fun _ => (j_go_s rfl).trans e_iload_n,
  fun _ => (j_go_s rfl).trans e_iload_n,
  fun _ _ _ _ => (j_go_s rfl).trans e_callv,
  fun _ _ => (j_go_s rfl).trans e_if,
  fun _ => (j_go_s rfl).trans e_iconst,
  fun _ => (j_go_s rfl).trans e_goto,
  fun _ => (j_go_s rfl).trans e_aload_n,
  fun _ _ => (j_go_s rfl).trans e_getf,
  fun _ => (j_go_s rfl).trans e_iconst,
  fun _ => (j_go_s rfl).trans e_iload_n,
  fun _ _ _ => (j_go_s rfl).trans e_imul,
  fun _ => (j_go_s rfl).trans e_iload_n,
  fun _ _ _ => (j_go_s rfl).trans e_iadd,
  fun _ _ _ => (j_go_s rfl).trans e_iald,
  fun _ => (j_go_s rfl).trans e_iret⟩
set_option maxRecDepth 100000 in
set_option maxHeartbeats 4000000 in
theorem st_Ref_piece {post : Option Value → jW → Prop} {cut : List Nat} {n : Nat} {ls : jL} {w : jW} {cb sb : Nat} : (∀ (r : List Value), j_go (jmt 114) post cut (n + 1) 0 ls r w cb sb ↔ g_ld ls[1]? (fun v => t_i v ∧ j_k (jmt 114) post cut n 1 ls (v :: r) w cb sb)) ∧
  (∀ (r : List Value), j_go (jmt 114) post cut (n + 1) 1 ls r w cb sb ↔ j_k (jmt 114) post cut n 2 ls (.int (Int32.ofInt 1) :: r) w cb sb) ∧
  (∀ (r : List Value), j_go (jmt 114) post cut (n + 1) 2 ls r w cb sb ↔ g_ld ls[0]? (fun v => t_a v ∧ j_k (jmt 114) post cut n 3 ls (v :: r) w cb sb)) ∧
  (∀ (r : List Value) (a : Nat), j_go (jmt 114) post cut (n + 1) 3 ls (.ref a :: r) w cb sb ↔ g_ob 8 (w a) (fun fs => g_v fs[22]? (fun v => j_k (jmt 114) post cut n 6 ls (v :: r) w cb sb))) ∧
  (∀ (r : List Value) (a0 a1 a2 : Value), j_go (jmt 114) post cut (n + 1) 6 ls (a2 :: a1 :: a0 :: r) w cb sb ↔ j_w8 r ∧ g_call (jmt 82) [a0, a1, a2] w cb sb (fun v w' c s => j_k (jmt 114) post cut n 9 ls (v.toList ++ r) w' c s)) ∧
  (∀ (r : List Value) (a : Int32), j_go (jmt 114) post cut (n + 1) 9 ls (.int a :: r) w cb sb ↔ (a = 0 → j_k (jmt 114) post cut n 35 ls r w cb sb) ∧ (¬ (a = 0) → j_k (jmt 114) post cut n 12 ls r w cb sb)) ∧
  (∀ (r : List Value), j_go (jmt 114) post cut (n + 1) 12 ls r w cb sb ↔ g_ld ls[2]? (fun v => t_i v ∧ j_k (jmt 114) post cut n 13 ls (v :: r) w cb sb)) ∧
  (∀ (r : List Value), j_go (jmt 114) post cut (n + 1) 13 ls r w cb sb ↔ j_k (jmt 114) post cut n 14 ls (.int (Int32.ofInt 0) :: r) w cb sb) ∧
  (∀ (r : List Value), j_go (jmt 114) post cut (n + 1) 14 ls r w cb sb ↔ j_k (jmt 114) post cut n 15 ls (.int (Int32.ofInt 5) :: r) w cb sb) ∧
  (∀ (r : List Value) (a0 a1 a2 : Value), j_go (jmt 114) post cut (n + 1) 15 ls (a2 :: a1 :: a0 :: r) w cb sb ↔ j_w8 r ∧ g_call (jmt 82) [a0, a1, a2] w cb sb (fun v w' c s => j_k (jmt 114) post cut n 18 ls (v.toList ++ r) w' c s)) ∧
  (∀ (r : List Value) (a : Int32), j_go (jmt 114) post cut (n + 1) 18 ls (.int a :: r) w cb sb ↔ (a = 0 → j_k (jmt 114) post cut n 35 ls r w cb sb) ∧ (¬ (a = 0) → j_k (jmt 114) post cut n 21 ls r w cb sb)) ∧
  (∀ (r : List Value), j_go (jmt 114) post cut (n + 1) 21 ls r w cb sb ↔ g_ld ls[0]? (fun v => t_a v ∧ j_k (jmt 114) post cut n 22 ls (v :: r) w cb sb)) ∧
  (∀ (r : List Value) (a : Nat), j_go (jmt 114) post cut (n + 1) 22 ls (.ref a :: r) w cb sb ↔ g_ob 8 (w a) (fun fs => g_v fs[23]? (fun v => j_k (jmt 114) post cut n 25 ls (v :: r) w cb sb))) ∧
  (∀ (r : List Value), j_go (jmt 114) post cut (n + 1) 25 ls r w cb sb ↔ j_k (jmt 114) post cut n 27 ls (.int (Int8.ofInt 6).toInt32 :: r) w cb sb) ∧
  (∀ (r : List Value), j_go (jmt 114) post cut (n + 1) 27 ls r w cb sb ↔ g_ld ls[1]? (fun v => t_i v ∧ j_k (jmt 114) post cut n 28 ls (v :: r) w cb sb)) ∧
  (∀ (r : List Value) (x y : Int32), j_go (jmt 114) post cut (n + 1) 28 ls (.int y :: .int x :: r) w cb sb ↔ j_k (jmt 114) post cut n 29 ls (.int (x * y) :: r) w cb sb) ∧
  (∀ (r : List Value), j_go (jmt 114) post cut (n + 1) 29 ls r w cb sb ↔ g_ld ls[2]? (fun v => t_i v ∧ j_k (jmt 114) post cut n 30 ls (v :: r) w cb sb)) ∧
  (∀ (r : List Value) (x y : Int32), j_go (jmt 114) post cut (n + 1) 30 ls (.int y :: .int x :: r) w cb sb ↔ j_k (jmt 114) post cut n 31 ls (.int (x + y) :: r) w cb sb) ∧
  (∀ (r : List Value) (a : Nat) (j : Int32), j_go (jmt 114) post cut (n + 1) 31 ls (.int j :: .ref a :: r) w cb sb ↔ g_ia 0 (w a) (fun m f => vp_in j m ∧ j_k (jmt 114) post cut n 32 ls (.int (f j.toNatClampNeg) :: r) w cb sb)) ∧
  (∀ (r : List Value), j_go (jmt 114) post cut (n + 1) 32 ls r w cb sb ↔ j_k (jmt 114) post cut n 36 ls r w cb sb) ∧
  (∀ (r : List Value), j_go (jmt 114) post cut (n + 1) 35 ls r w cb sb ↔ j_k (jmt 114) post cut n 36 ls (.int (Int32.ofInt (-1)) :: r) w cb sb) ∧
  (∀ (a : Int32), j_go (jmt 114) post cut (n + 1) 36 ls [.int a] w cb sb ↔ narrow .int (.int a) = .int a ∧ post (some (.int a)) w) := ⟨fun _ => (j_go_s rfl).trans e_iload_n,
  fun _ => (j_go_s rfl).trans e_iconst,
  fun _ => (j_go_s rfl).trans e_aload_n,
  fun _ _ => (j_go_s rfl).trans e_getf,
  fun _ _ _ _ => (j_go_s rfl).trans e_calls,
  fun _ _ => (j_go_s rfl).trans e_if,
  fun _ => (j_go_s rfl).trans e_iload_n,
  fun _ => (j_go_s rfl).trans e_iconst,
  fun _ => (j_go_s rfl).trans e_iconst,
  fun _ _ _ _ => (j_go_s rfl).trans e_calls,
  fun _ _ => (j_go_s rfl).trans e_if,
  fun _ => (j_go_s rfl).trans e_aload_n,
  fun _ _ => (j_go_s rfl).trans e_getf,
  fun _ => (j_go_s rfl).trans e_bipush,
  fun _ => (j_go_s rfl).trans e_iload_n,
  fun _ _ _ => (j_go_s rfl).trans e_imul,
  fun _ => (j_go_s rfl).trans e_iload_n,
  fun _ _ _ => (j_go_s rfl).trans e_iadd,
  fun _ _ _ => (j_go_s rfl).trans e_iald,
  fun _ => (j_go_s rfl).trans e_goto,
  fun _ => (j_go_s rfl).trans e_iconst,
  fun _ => (j_go_s rfl).trans e_iret⟩
set_option maxRecDepth 100000 in
set_option maxHeartbeats 4000000 in
theorem st_Ref_arrived {post : Option Value → jW → Prop} {cut : List Nat} {n : Nat} {ls : jL} {w : jW} {cb sb : Nat} : (∀ (r : List Value), j_go (jmt 115) post cut (n + 1) 0 ls r w cb sb ↔ j_k (jmt 115) post cut n 1 ls (.int (Int32.ofInt 1) :: r) w cb sb) ∧
  (∀ (r : List Value) (x : Int32), j_go (jmt 115) post cut (n + 1) 1 ls (.int x :: r) w cb sb ↔ j_ok1 ls 4 = true ∧ j_k (jmt 115) post cut n 3 (ls.set 4 (some (.int x))) r w cb sb) ∧
  (∀ (r : List Value), j_go (jmt 115) post cut (n + 1) 3 ls r w cb sb ↔ g_ld ls[4]? (fun v => t_i v ∧ j_k (jmt 115) post cut n 5 ls (v :: r) w cb sb)) ∧
  (∀ (r : List Value), j_go (jmt 115) post cut (n + 1) 5 ls r w cb sb ↔ g_ld ls[0]? (fun v => t_a v ∧ j_k (jmt 115) post cut n 6 ls (v :: r) w cb sb)) ∧
  (∀ (r : List Value) (a : Nat), j_go (jmt 115) post cut (n + 1) 6 ls (.ref a :: r) w cb sb ↔ g_ob 8 (w a) (fun fs => g_v fs[22]? (fun v => j_k (jmt 115) post cut n 9 ls (v :: r) w cb sb))) ∧
  (∀ (r : List Value) (a b : Int32), j_go (jmt 115) post cut (n + 1) 9 ls (.int b :: .int a :: r) w cb sb ↔ (b < a → j_k (jmt 115) post cut n 112 ls r w cb sb) ∧ (¬ (b < a) → j_k (jmt 115) post cut n 12 ls r w cb sb)) ∧
  (∀ (r : List Value), j_go (jmt 115) post cut (n + 1) 12 ls r w cb sb ↔ j_k (jmt 115) post cut n 14 ls (.int (Int8.ofInt 6).toInt32 :: r) w cb sb) ∧
  (∀ (r : List Value), j_go (jmt 115) post cut (n + 1) 14 ls r w cb sb ↔ g_ld ls[4]? (fun v => t_i v ∧ j_k (jmt 115) post cut n 16 ls (v :: r) w cb sb)) ∧
  (∀ (r : List Value) (x y : Int32), j_go (jmt 115) post cut (n + 1) 16 ls (.int y :: .int x :: r) w cb sb ↔ j_k (jmt 115) post cut n 17 ls (.int (x * y) :: r) w cb sb) ∧
  (∀ (r : List Value) (x : Int32), j_go (jmt 115) post cut (n + 1) 17 ls (.int x :: r) w cb sb ↔ j_ok1 ls 5 = true ∧ j_k (jmt 115) post cut n 19 (ls.set 5 (some (.int x))) r w cb sb) ∧
  (∀ (r : List Value), j_go (jmt 115) post cut (n + 1) 19 ls r w cb sb ↔ g_ld ls[0]? (fun v => t_a v ∧ j_k (jmt 115) post cut n 20 ls (v :: r) w cb sb)) ∧
  (∀ (r : List Value) (a : Nat), j_go (jmt 115) post cut (n + 1) 20 ls (.ref a :: r) w cb sb ↔ g_ob 8 (w a) (fun fs => g_v fs[23]? (fun v => j_k (jmt 115) post cut n 23 ls (v :: r) w cb sb))) ∧
  (∀ (r : List Value), j_go (jmt 115) post cut (n + 1) 23 ls r w cb sb ↔ g_ld ls[5]? (fun v => t_i v ∧ j_k (jmt 115) post cut n 25 ls (v :: r) w cb sb)) ∧
  (∀ (r : List Value) (a : Nat) (j : Int32), j_go (jmt 115) post cut (n + 1) 25 ls (.int j :: .ref a :: r) w cb sb ↔ g_ia 0 (w a) (fun m f => vp_in j m ∧ j_k (jmt 115) post cut n 26 ls (.int (f j.toNatClampNeg) :: r) w cb sb)) ∧
  (∀ (r : List Value), j_go (jmt 115) post cut (n + 1) 26 ls r w cb sb ↔ g_ld ls[1]? (fun v => t_i v ∧ j_k (jmt 115) post cut n 27 ls (v :: r) w cb sb)) ∧
  (∀ (r : List Value) (a b : Int32), j_go (jmt 115) post cut (n + 1) 27 ls (.int b :: .int a :: r) w cb sb ↔ (¬ a = b → j_k (jmt 115) post cut n 60 ls r w cb sb) ∧ (¬ (¬ a = b) → j_k (jmt 115) post cut n 30 ls r w cb sb)) ∧
  (∀ (r : List Value), j_go (jmt 115) post cut (n + 1) 30 ls r w cb sb ↔ g_ld ls[0]? (fun v => t_a v ∧ j_k (jmt 115) post cut n 31 ls (v :: r) w cb sb)) ∧
  (∀ (r : List Value) (a : Nat), j_go (jmt 115) post cut (n + 1) 31 ls (.ref a :: r) w cb sb ↔ g_ob 8 (w a) (fun fs => g_v fs[23]? (fun v => j_k (jmt 115) post cut n 34 ls (v :: r) w cb sb))) ∧
  (∀ (r : List Value), j_go (jmt 115) post cut (n + 1) 34 ls r w cb sb ↔ g_ld ls[5]? (fun v => t_i v ∧ j_k (jmt 115) post cut n 36 ls (v :: r) w cb sb)) ∧
  (∀ (r : List Value), j_go (jmt 115) post cut (n + 1) 36 ls r w cb sb ↔ j_k (jmt 115) post cut n 37 ls (.int (Int32.ofInt 4) :: r) w cb sb) ∧
  (∀ (r : List Value) (x y : Int32), j_go (jmt 115) post cut (n + 1) 37 ls (.int y :: .int x :: r) w cb sb ↔ j_k (jmt 115) post cut n 38 ls (.int (x + y) :: r) w cb sb) ∧
  (∀ (r : List Value) (a : Nat) (j : Int32), j_go (jmt 115) post cut (n + 1) 38 ls (.int j :: .ref a :: r) w cb sb ↔ g_ia 0 (w a) (fun m f => vp_in j m ∧ j_k (jmt 115) post cut n 39 ls (.int (f j.toNatClampNeg) :: r) w cb sb)) ∧
  (∀ (r : List Value), j_go (jmt 115) post cut (n + 1) 39 ls r w cb sb ↔ g_ld ls[2]? (fun v => t_i v ∧ j_k (jmt 115) post cut n 40 ls (v :: r) w cb sb)) ∧
  (∀ (r : List Value) (a b : Int32), j_go (jmt 115) post cut (n + 1) 40 ls (.int b :: .int a :: r) w cb sb ↔ (¬ a = b → j_k (jmt 115) post cut n 60 ls r w cb sb) ∧ (¬ (¬ a = b) → j_k (jmt 115) post cut n 43 ls r w cb sb)) ∧
  (∀ (r : List Value), j_go (jmt 115) post cut (n + 1) 43 ls r w cb sb ↔ g_ld ls[0]? (fun v => t_a v ∧ j_k (jmt 115) post cut n 44 ls (v :: r) w cb sb)) ∧
  (∀ (r : List Value) (a : Nat), j_go (jmt 115) post cut (n + 1) 44 ls (.ref a :: r) w cb sb ↔ g_ob 8 (w a) (fun fs => g_v fs[23]? (fun v => j_k (jmt 115) post cut n 47 ls (v :: r) w cb sb))) ∧
  (∀ (r : List Value), j_go (jmt 115) post cut (n + 1) 47 ls r w cb sb ↔ g_ld ls[5]? (fun v => t_i v ∧ j_k (jmt 115) post cut n 49 ls (v :: r) w cb sb)) ∧
  (∀ (r : List Value), j_go (jmt 115) post cut (n + 1) 49 ls r w cb sb ↔ j_k (jmt 115) post cut n 50 ls (.int (Int32.ofInt 5) :: r) w cb sb) ∧
  (∀ (r : List Value) (x y : Int32), j_go (jmt 115) post cut (n + 1) 50 ls (.int y :: .int x :: r) w cb sb ↔ j_k (jmt 115) post cut n 51 ls (.int (x + y) :: r) w cb sb) ∧
  (∀ (r : List Value) (a : Nat) (j : Int32), j_go (jmt 115) post cut (n + 1) 51 ls (.int j :: .ref a :: r) w cb sb ↔ g_ia 0 (w a) (fun m f => vp_in j m ∧ j_k (jmt 115) post cut n 52 ls (.int (f j.toNatClampNeg) :: r) w cb sb)) ∧
  (∀ (r : List Value), j_go (jmt 115) post cut (n + 1) 52 ls r w cb sb ↔ j_k (jmt 115) post cut n 53 ls (.int (Int32.ofInt 1) :: r) w cb sb) ∧
  (∀ (r : List Value) (a b : Int32), j_go (jmt 115) post cut (n + 1) 53 ls (.int b :: .int a :: r) w cb sb ↔ (¬ a = b → j_k (jmt 115) post cut n 60 ls r w cb sb) ∧ (¬ (¬ a = b) → j_k (jmt 115) post cut n 56 ls r w cb sb)) ∧
  (∀ (r : List Value), j_go (jmt 115) post cut (n + 1) 56 ls r w cb sb ↔ j_k (jmt 115) post cut n 57 ls (.int (Int32.ofInt 1) :: r) w cb sb) ∧
  (∀ (r : List Value), j_go (jmt 115) post cut (n + 1) 57 ls r w cb sb ↔ j_k (jmt 115) post cut n 61 ls r w cb sb) ∧
  (∀ (r : List Value), j_go (jmt 115) post cut (n + 1) 60 ls r w cb sb ↔ j_k (jmt 115) post cut n 61 ls (.int (Int32.ofInt 0) :: r) w cb sb) ∧
  (∀ (r : List Value) (x : Int32), j_go (jmt 115) post cut (n + 1) 61 ls (.int x :: r) w cb sb ↔ j_ok1 ls 6 = true ∧ j_k (jmt 115) post cut n 63 (ls.set 6 (some (.int x))) r w cb sb) ∧
  (∀ (r : List Value), j_go (jmt 115) post cut (n + 1) 63 ls r w cb sb ↔ g_ld ls[6]? (fun v => t_i v ∧ j_k (jmt 115) post cut n 65 ls (v :: r) w cb sb)) ∧
  (∀ (r : List Value) (a : Int32), j_go (jmt 115) post cut (n + 1) 65 ls (.int a :: r) w cb sb ↔ (a = 0 → j_k (jmt 115) post cut n 106 ls r w cb sb) ∧ (¬ (a = 0) → j_k (jmt 115) post cut n 68 ls r w cb sb)) ∧
  (∀ (r : List Value), j_go (jmt 115) post cut (n + 1) 68 ls r w cb sb ↔ g_ld ls[3]? (fun v => t_i v ∧ j_k (jmt 115) post cut n 69 ls (v :: r) w cb sb)) ∧
  (∀ (r : List Value), j_go (jmt 115) post cut (n + 1) 69 ls r w cb sb ↔ g_ld ls[0]? (fun v => t_a v ∧ j_k (jmt 115) post cut n 70 ls (v :: r) w cb sb)) ∧
  (∀ (r : List Value) (a : Nat), j_go (jmt 115) post cut (n + 1) 70 ls (.ref a :: r) w cb sb ↔ g_ob 8 (w a) (fun fs => g_v fs[23]? (fun v => j_k (jmt 115) post cut n 73 ls (v :: r) w cb sb))) ∧
  (∀ (r : List Value), j_go (jmt 115) post cut (n + 1) 73 ls r w cb sb ↔ g_ld ls[5]? (fun v => t_i v ∧ j_k (jmt 115) post cut n 75 ls (v :: r) w cb sb)) ∧
  (∀ (r : List Value), j_go (jmt 115) post cut (n + 1) 75 ls r w cb sb ↔ j_k (jmt 115) post cut n 76 ls (.int (Int32.ofInt 1) :: r) w cb sb) ∧
  (∀ (r : List Value) (x y : Int32), j_go (jmt 115) post cut (n + 1) 76 ls (.int y :: .int x :: r) w cb sb ↔ j_k (jmt 115) post cut n 77 ls (.int (x + y) :: r) w cb sb) ∧
  (∀ (r : List Value) (a : Nat) (j : Int32), j_go (jmt 115) post cut (n + 1) 77 ls (.int j :: .ref a :: r) w cb sb ↔ g_ia 0 (w a) (fun m f => vp_in j m ∧ j_k (jmt 115) post cut n 78 ls (.int (f j.toNatClampNeg) :: r) w cb sb)) ∧
  (∀ (r : List Value) (a b : Int32), j_go (jmt 115) post cut (n + 1) 78 ls (.int b :: .int a :: r) w cb sb ↔ (a < b → j_k (jmt 115) post cut n 106 ls r w cb sb) ∧ (¬ (a < b) → j_k (jmt 115) post cut n 81 ls r w cb sb)) ∧
  (∀ (r : List Value), j_go (jmt 115) post cut (n + 1) 81 ls r w cb sb ↔ g_ld ls[3]? (fun v => t_i v ∧ j_k (jmt 115) post cut n 82 ls (v :: r) w cb sb)) ∧
  (∀ (r : List Value), j_go (jmt 115) post cut (n + 1) 82 ls r w cb sb ↔ g_ld ls[0]? (fun v => t_a v ∧ j_k (jmt 115) post cut n 83 ls (v :: r) w cb sb)) ∧
  (∀ (r : List Value) (a : Nat), j_go (jmt 115) post cut (n + 1) 83 ls (.ref a :: r) w cb sb ↔ g_ob 8 (w a) (fun fs => g_v fs[23]? (fun v => j_k (jmt 115) post cut n 86 ls (v :: r) w cb sb))) ∧
  (∀ (r : List Value), j_go (jmt 115) post cut (n + 1) 86 ls r w cb sb ↔ g_ld ls[5]? (fun v => t_i v ∧ j_k (jmt 115) post cut n 88 ls (v :: r) w cb sb)) ∧
  (∀ (r : List Value), j_go (jmt 115) post cut (n + 1) 88 ls r w cb sb ↔ j_k (jmt 115) post cut n 89 ls (.int (Int32.ofInt 1) :: r) w cb sb) ∧
  (∀ (r : List Value) (x y : Int32), j_go (jmt 115) post cut (n + 1) 89 ls (.int y :: .int x :: r) w cb sb ↔ j_k (jmt 115) post cut n 90 ls (.int (x + y) :: r) w cb sb) ∧
  (∀ (r : List Value) (a : Nat) (j : Int32), j_go (jmt 115) post cut (n + 1) 90 ls (.int j :: .ref a :: r) w cb sb ↔ g_ia 0 (w a) (fun m f => vp_in j m ∧ j_k (jmt 115) post cut n 91 ls (.int (f j.toNatClampNeg) :: r) w cb sb)) ∧
  (∀ (r : List Value), j_go (jmt 115) post cut (n + 1) 91 ls r w cb sb ↔ g_ld ls[0]? (fun v => t_a v ∧ j_k (jmt 115) post cut n 92 ls (v :: r) w cb sb)) ∧
  (∀ (r : List Value) (a : Nat), j_go (jmt 115) post cut (n + 1) 92 ls (.ref a :: r) w cb sb ↔ g_ob 8 (w a) (fun fs => g_v fs[23]? (fun v => j_k (jmt 115) post cut n 95 ls (v :: r) w cb sb))) ∧
  (∀ (r : List Value), j_go (jmt 115) post cut (n + 1) 95 ls r w cb sb ↔ g_ld ls[5]? (fun v => t_i v ∧ j_k (jmt 115) post cut n 97 ls (v :: r) w cb sb)) ∧
  (∀ (r : List Value), j_go (jmt 115) post cut (n + 1) 97 ls r w cb sb ↔ j_k (jmt 115) post cut n 98 ls (.int (Int32.ofInt 2) :: r) w cb sb) ∧
  (∀ (r : List Value) (x y : Int32), j_go (jmt 115) post cut (n + 1) 98 ls (.int y :: .int x :: r) w cb sb ↔ j_k (jmt 115) post cut n 99 ls (.int (x + y) :: r) w cb sb) ∧
  (∀ (r : List Value) (a : Nat) (j : Int32), j_go (jmt 115) post cut (n + 1) 99 ls (.int j :: .ref a :: r) w cb sb ↔ g_ia 0 (w a) (fun m f => vp_in j m ∧ j_k (jmt 115) post cut n 100 ls (.int (f j.toNatClampNeg) :: r) w cb sb)) ∧
  (∀ (r : List Value) (x y : Int32), j_go (jmt 115) post cut (n + 1) 100 ls (.int y :: .int x :: r) w cb sb ↔ j_k (jmt 115) post cut n 101 ls (.int (x + y) :: r) w cb sb) ∧
  (∀ (r : List Value) (a b : Int32), j_go (jmt 115) post cut (n + 1) 101 ls (.int b :: .int a :: r) w cb sb ↔ (b ≤ a → j_k (jmt 115) post cut n 106 ls r w cb sb) ∧ (¬ (b ≤ a) → j_k (jmt 115) post cut n 104 ls r w cb sb)) ∧
  (∀ (r : List Value), j_go (jmt 115) post cut (n + 1) 104 ls r w cb sb ↔ j_k (jmt 115) post cut n 105 ls (.int (Int32.ofInt 1) :: r) w cb sb) ∧
  (∀ (a : Int32), j_go (jmt 115) post cut (n + 1) 105 ls [.int a] w cb sb ↔ narrow .boolean (.int a) = .int a ∧ post (some (.int a)) w) ∧
  (∀ (r : List Value), j_go (jmt 115) post cut (n + 1) 106 ls r w cb sb ↔ g_ld ls[4]? (fun v => (match v with
      | .int x => j_ok1 ls 4 = true ∧ j_k (jmt 115) post cut n 109 (ls.set 4 (some (.int (x + Int32.ofInt 1)))) r w cb sb
      | _ => False))) ∧
  (∀ (r : List Value), j_go (jmt 115) post cut (n + 1) 109 ls r w cb sb ↔ j_k (jmt 115) post cut n 3 ls r w cb sb) ∧
  (∀ (r : List Value), j_go (jmt 115) post cut (n + 1) 112 ls r w cb sb ↔ j_k (jmt 115) post cut n 113 ls (.int (Int32.ofInt 0) :: r) w cb sb) ∧
  (∀ (a : Int32), j_go (jmt 115) post cut (n + 1) 113 ls [.int a] w cb sb ↔ narrow .boolean (.int a) = .int a ∧ post (some (.int a)) w) := ⟨fun _ => (j_go_s rfl).trans e_iconst,
  fun _ _ => (j_go_s rfl).trans e_istore,
  fun _ => (j_go_s rfl).trans e_iload,
  fun _ => (j_go_s rfl).trans e_aload_n,
  fun _ _ => (j_go_s rfl).trans e_getf,
  fun _ _ _ => (j_go_s rfl).trans e_icmp,
  fun _ => (j_go_s rfl).trans e_bipush,
  fun _ => (j_go_s rfl).trans e_iload,
  fun _ _ _ => (j_go_s rfl).trans e_imul,
  fun _ _ => (j_go_s rfl).trans e_istore,
  fun _ => (j_go_s rfl).trans e_aload_n,
  fun _ _ => (j_go_s rfl).trans e_getf,
  fun _ => (j_go_s rfl).trans e_iload,
  fun _ _ _ => (j_go_s rfl).trans e_iald,
  fun _ => (j_go_s rfl).trans e_iload_n,
  fun _ _ _ => (j_go_s rfl).trans e_icmp,
  fun _ => (j_go_s rfl).trans e_aload_n,
  fun _ _ => (j_go_s rfl).trans e_getf,
  fun _ => (j_go_s rfl).trans e_iload,
  fun _ => (j_go_s rfl).trans e_iconst,
  fun _ _ _ => (j_go_s rfl).trans e_iadd,
  fun _ _ _ => (j_go_s rfl).trans e_iald,
  fun _ => (j_go_s rfl).trans e_iload_n,
  fun _ _ _ => (j_go_s rfl).trans e_icmp,
  fun _ => (j_go_s rfl).trans e_aload_n,
  fun _ _ => (j_go_s rfl).trans e_getf,
  fun _ => (j_go_s rfl).trans e_iload,
  fun _ => (j_go_s rfl).trans e_iconst,
  fun _ _ _ => (j_go_s rfl).trans e_iadd,
  fun _ _ _ => (j_go_s rfl).trans e_iald,
  fun _ => (j_go_s rfl).trans e_iconst,
  fun _ _ _ => (j_go_s rfl).trans e_icmp,
  fun _ => (j_go_s rfl).trans e_iconst,
  fun _ => (j_go_s rfl).trans e_goto,
  fun _ => (j_go_s rfl).trans e_iconst,
  fun _ _ => (j_go_s rfl).trans e_istore,
  fun _ => (j_go_s rfl).trans e_iload,
  fun _ _ => (j_go_s rfl).trans e_if,
  fun _ => (j_go_s rfl).trans e_iload_n,
  fun _ => (j_go_s rfl).trans e_aload_n,
  fun _ _ => (j_go_s rfl).trans e_getf,
  fun _ => (j_go_s rfl).trans e_iload,
  fun _ => (j_go_s rfl).trans e_iconst,
  fun _ _ _ => (j_go_s rfl).trans e_iadd,
  fun _ _ _ => (j_go_s rfl).trans e_iald,
  fun _ _ _ => (j_go_s rfl).trans e_icmp,
  fun _ => (j_go_s rfl).trans e_iload_n,
  fun _ => (j_go_s rfl).trans e_aload_n,
  fun _ _ => (j_go_s rfl).trans e_getf,
  fun _ => (j_go_s rfl).trans e_iload,
  fun _ => (j_go_s rfl).trans e_iconst,
  fun _ _ _ => (j_go_s rfl).trans e_iadd,
  fun _ _ _ => (j_go_s rfl).trans e_iald,
  fun _ => (j_go_s rfl).trans e_aload_n,
  fun _ _ => (j_go_s rfl).trans e_getf,
  fun _ => (j_go_s rfl).trans e_iload,
  fun _ => (j_go_s rfl).trans e_iconst,
  fun _ _ _ => (j_go_s rfl).trans e_iadd,
  fun _ _ _ => (j_go_s rfl).trans e_iald,
  fun _ _ _ => (j_go_s rfl).trans e_iadd,
  fun _ _ _ => (j_go_s rfl).trans e_icmp,
  fun _ => (j_go_s rfl).trans e_iconst,
  fun _ => (j_go_s rfl).trans e_iret,
  fun _ => (j_go_s rfl).trans e_iinc,
  fun _ => (j_go_s rfl).trans e_goto,
  fun _ => (j_go_s rfl).trans e_iconst,
  fun _ => (j_go_s rfl).trans e_iret⟩
set_option maxRecDepth 100000 in
set_option maxHeartbeats 4000000 in
theorem st_Ref_ended {post : Option Value → jW → Prop} {cut : List Nat} {n : Nat} {ls : jL} {w : jW} {cb sb : Nat} : (∀ (r : List Value), j_go (jmt 116) post cut (n + 1) 0 ls r w cb sb ↔ g_ld ls[1]? (fun v => t_i v ∧ j_k (jmt 116) post cut n 1 ls (v :: r) w cb sb)) ∧
  (∀ (r : List Value), j_go (jmt 116) post cut (n + 1) 1 ls r w cb sb ↔ j_k (jmt 116) post cut n 2 ls (.int (Int32.ofInt 1) :: r) w cb sb) ∧
  (∀ (r : List Value), j_go (jmt 116) post cut (n + 1) 2 ls r w cb sb ↔ g_ld ls[0]? (fun v => t_a v ∧ j_k (jmt 116) post cut n 3 ls (v :: r) w cb sb)) ∧
  (∀ (r : List Value) (a : Nat), j_go (jmt 116) post cut (n + 1) 3 ls (.ref a :: r) w cb sb ↔ g_ob 8 (w a) (fun fs => g_v fs[18]? (fun v => j_k (jmt 116) post cut n 6 ls (v :: r) w cb sb))) ∧
  (∀ (r : List Value) (a0 a1 a2 : Value), j_go (jmt 116) post cut (n + 1) 6 ls (a2 :: a1 :: a0 :: r) w cb sb ↔ j_w8 r ∧ g_call (jmt 82) [a0, a1, a2] w cb sb (fun v w' c s => j_k (jmt 116) post cut n 9 ls (v.toList ++ r) w' c s)) ∧
  (∀ (r : List Value) (a : Int32), j_go (jmt 116) post cut (n + 1) 9 ls (.int a :: r) w cb sb ↔ (a = 0 → j_k (jmt 116) post cut n 22 ls r w cb sb) ∧ (¬ (a = 0) → j_k (jmt 116) post cut n 12 ls r w cb sb)) ∧
  (∀ (r : List Value), j_go (jmt 116) post cut (n + 1) 12 ls r w cb sb ↔ g_ld ls[2]? (fun v => t_i v ∧ j_k (jmt 116) post cut n 13 ls (v :: r) w cb sb)) ∧
  (∀ (r : List Value), j_go (jmt 116) post cut (n + 1) 13 ls r w cb sb ↔ j_k (jmt 116) post cut n 14 ls (.int (Int32.ofInt 0) :: r) w cb sb) ∧
  (∀ (r : List Value), j_go (jmt 116) post cut (n + 1) 14 ls r w cb sb ↔ j_k (jmt 116) post cut n 16 ls (.int (Int8.ofInt 7).toInt32 :: r) w cb sb) ∧
  (∀ (r : List Value) (a0 a1 a2 : Value), j_go (jmt 116) post cut (n + 1) 16 ls (a2 :: a1 :: a0 :: r) w cb sb ↔ j_w8 r ∧ g_call (jmt 82) [a0, a1, a2] w cb sb (fun v w' c s => j_k (jmt 116) post cut n 19 ls (v.toList ++ r) w' c s)) ∧
  (∀ (r : List Value) (a : Int32), j_go (jmt 116) post cut (n + 1) 19 ls (.int a :: r) w cb sb ↔ (¬ a = 0 → j_k (jmt 116) post cut n 24 ls r w cb sb) ∧ (¬ (¬ a = 0) → j_k (jmt 116) post cut n 22 ls r w cb sb)) ∧
  (∀ (r : List Value), j_go (jmt 116) post cut (n + 1) 22 ls r w cb sb ↔ j_k (jmt 116) post cut n 23 ls (.int (Int32.ofInt (-1)) :: r) w cb sb) ∧
  (∀ (a : Int32), j_go (jmt 116) post cut (n + 1) 23 ls [.int a] w cb sb ↔ narrow .int (.int a) = .int a ∧ post (some (.int a)) w) ∧
  (∀ (r : List Value), j_go (jmt 116) post cut (n + 1) 24 ls r w cb sb ↔ j_k (jmt 116) post cut n 25 ls (.int (Int32.ofInt 0) :: r) w cb sb) ∧
  (∀ (r : List Value) (x : Int32), j_go (jmt 116) post cut (n + 1) 25 ls (.int x :: r) w cb sb ↔ j_ok1 ls 3 = true ∧ j_k (jmt 116) post cut n 26 (ls.set 3 (some (.int x))) r w cb sb) ∧
  (∀ (r : List Value), j_go (jmt 116) post cut (n + 1) 26 ls r w cb sb ↔ j_k (jmt 116) post cut n 27 ls (.int (Int32.ofInt 0) :: r) w cb sb) ∧
  (∀ (r : List Value) (x : Int32), j_go (jmt 116) post cut (n + 1) 27 ls (.int x :: r) w cb sb ↔ j_ok1 ls 4 = true ∧ j_k (jmt 116) post cut n 29 (ls.set 4 (some (.int x))) r w cb sb) ∧
  (∀ (r : List Value), j_go (jmt 116) post cut (n + 1) 29 ls r w cb sb ↔ g_ld ls[4]? (fun v => t_i v ∧ j_k (jmt 116) post cut n 31 ls (v :: r) w cb sb)) ∧
  (∀ (r : List Value), j_go (jmt 116) post cut (n + 1) 31 ls r w cb sb ↔ g_ld ls[0]? (fun v => t_a v ∧ j_k (jmt 116) post cut n 32 ls (v :: r) w cb sb)) ∧
  (∀ (r : List Value) (a : Nat), j_go (jmt 116) post cut (n + 1) 32 ls (.ref a :: r) w cb sb ↔ g_ob 8 (w a) (fun fs => g_v fs[19]? (fun v => j_k (jmt 116) post cut n 35 ls (v :: r) w cb sb))) ∧
  (∀ (r : List Value), j_go (jmt 116) post cut (n + 1) 35 ls r w cb sb ↔ g_ld ls[1]? (fun v => t_i v ∧ j_k (jmt 116) post cut n 36 ls (v :: r) w cb sb)) ∧
  (∀ (r : List Value) (a : Nat) (j : Int32), j_go (jmt 116) post cut (n + 1) 36 ls (.int j :: .ref a :: r) w cb sb ↔ g_ia 0 (w a) (fun m f => vp_in j m ∧ j_k (jmt 116) post cut n 37 ls (.int (f j.toNatClampNeg) :: r) w cb sb)) ∧
  (∀ (r : List Value) (a b : Int32), j_go (jmt 116) post cut (n + 1) 37 ls (.int b :: .int a :: r) w cb sb ↔ (b ≤ a → j_k (jmt 116) post cut n 60 ls r w cb sb) ∧ (¬ (b ≤ a) → j_k (jmt 116) post cut n 40 ls r w cb sb)) ∧
  (∀ (r : List Value), j_go (jmt 116) post cut (n + 1) 40 ls r w cb sb ↔ g_ld ls[0]? (fun v => t_a v ∧ j_k (jmt 116) post cut n 41 ls (v :: r) w cb sb)) ∧
  (∀ (r : List Value), j_go (jmt 116) post cut (n + 1) 41 ls r w cb sb ↔ g_ld ls[1]? (fun v => t_i v ∧ j_k (jmt 116) post cut n 42 ls (v :: r) w cb sb)) ∧
  (∀ (r : List Value), j_go (jmt 116) post cut (n + 1) 42 ls r w cb sb ↔ g_ld ls[2]? (fun v => t_i v ∧ j_k (jmt 116) post cut n 43 ls (v :: r) w cb sb)) ∧
  (∀ (r : List Value), j_go (jmt 116) post cut (n + 1) 43 ls r w cb sb ↔ g_ld ls[4]? (fun v => t_i v ∧ j_k (jmt 116) post cut n 45 ls (v :: r) w cb sb)) ∧
  (∀ (r : List Value) (a0 a1 a2 : Value) (b : Nat), j_go (jmt 116) post cut (n + 1) 45 ls (a2 :: a1 :: a0 :: .ref b :: r) w cb sb ↔ g_ob 8 (w b) (fun _ => True) ∧ j_w8 r ∧ g_call (jmt 115) [.ref b, a0, a1, a2] w cb sb (fun v w' c s => j_k (jmt 116) post cut n 48 ls (v.toList ++ r) w' c s)) ∧
  (∀ (r : List Value) (a : Int32), j_go (jmt 116) post cut (n + 1) 48 ls (.int a :: r) w cb sb ↔ (a = 0 → j_k (jmt 116) post cut n 54 ls r w cb sb) ∧ (¬ (a = 0) → j_k (jmt 116) post cut n 51 ls r w cb sb)) ∧
  (∀ (r : List Value), j_go (jmt 116) post cut (n + 1) 51 ls r w cb sb ↔ g_ld ls[3]? (fun v => (match v with
      | .int x => j_ok1 ls 3 = true ∧ j_k (jmt 116) post cut n 54 (ls.set 3 (some (.int (x + Int32.ofInt 1)))) r w cb sb
      | _ => False))) ∧
  (∀ (r : List Value), j_go (jmt 116) post cut (n + 1) 54 ls r w cb sb ↔ g_ld ls[4]? (fun v => (match v with
      | .int x => j_ok1 ls 4 = true ∧ j_k (jmt 116) post cut n 57 (ls.set 4 (some (.int (x + Int32.ofInt 1)))) r w cb sb
      | _ => False))) ∧
  (∀ (r : List Value), j_go (jmt 116) post cut (n + 1) 57 ls r w cb sb ↔ j_k (jmt 116) post cut n 29 ls r w cb sb) ∧
  (∀ (r : List Value), j_go (jmt 116) post cut (n + 1) 60 ls r w cb sb ↔ g_ld ls[3]? (fun v => t_i v ∧ j_k (jmt 116) post cut n 61 ls (v :: r) w cb sb)) ∧
  (∀ (a : Int32), j_go (jmt 116) post cut (n + 1) 61 ls [.int a] w cb sb ↔ narrow .int (.int a) = .int a ∧ post (some (.int a)) w) := ⟨fun _ => (j_go_s rfl).trans e_iload_n,
  fun _ => (j_go_s rfl).trans e_iconst,
  fun _ => (j_go_s rfl).trans e_aload_n,
  fun _ _ => (j_go_s rfl).trans e_getf,
  fun _ _ _ _ => (j_go_s rfl).trans e_calls,
  fun _ _ => (j_go_s rfl).trans e_if,
  fun _ => (j_go_s rfl).trans e_iload_n,
  fun _ => (j_go_s rfl).trans e_iconst,
  fun _ => (j_go_s rfl).trans e_bipush,
  fun _ _ _ _ => (j_go_s rfl).trans e_calls,
  fun _ _ => (j_go_s rfl).trans e_if,
  fun _ => (j_go_s rfl).trans e_iconst,
  fun _ => (j_go_s rfl).trans e_iret,
  fun _ => (j_go_s rfl).trans e_iconst,
  fun _ _ => (j_go_s rfl).trans e_istore_n,
  fun _ => (j_go_s rfl).trans e_iconst,
  fun _ _ => (j_go_s rfl).trans e_istore,
  fun _ => (j_go_s rfl).trans e_iload,
  fun _ => (j_go_s rfl).trans e_aload_n,
  fun _ _ => (j_go_s rfl).trans e_getf,
  fun _ => (j_go_s rfl).trans e_iload_n,
  fun _ _ _ => (j_go_s rfl).trans e_iald,
  fun _ _ _ => (j_go_s rfl).trans e_icmp,
  fun _ => (j_go_s rfl).trans e_aload_n,
  fun _ => (j_go_s rfl).trans e_iload_n,
  fun _ => (j_go_s rfl).trans e_iload_n,
  fun _ => (j_go_s rfl).trans e_iload,
  fun _ _ _ _ _ => (j_go_s rfl).trans e_callv,
  fun _ _ => (j_go_s rfl).trans e_if,
  fun _ => (j_go_s rfl).trans e_iinc,
  fun _ => (j_go_s rfl).trans e_iinc,
  fun _ => (j_go_s rfl).trans e_goto,
  fun _ => (j_go_s rfl).trans e_iload_n,
  fun _ => (j_go_s rfl).trans e_iret⟩
