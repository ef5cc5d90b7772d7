set_option maxRecDepth 100000 in
set_option maxHeartbeats 4000000 in
theorem st_Ref_addPiece {post : Option Value → jW → Prop} {cut : List Nat} {n : Nat} {ls : jL} {w : jW} {cb sb : Nat} : (∀ (r : List Value), j_go (jmt 99) post cut (n + 1) 0 ls r w cb sb ↔ g_ld ls[0]? (fun v => t_a v ∧ j_k (jmt 99) post cut n 1 ls (v :: r) w cb sb)) ∧
  (∀ (r : List Value) (v : Value), j_go (jmt 99) post cut (n + 1) 1 ls (v :: r) w cb sb ↔ v.category = 1 ∧ j_k (jmt 99) post cut n 2 ls (v :: v :: r) w cb sb) ∧
  (∀ (r : List Value) (a : Nat), j_go (jmt 99) post cut (n + 1) 2 ls (.ref a :: r) w cb sb ↔ g_ob 8 (w a) (fun fs => g_v fs[22]? (fun v => j_k (jmt 99) post cut n 5 ls (v :: r) w cb sb))) ∧
  (∀ (r : List Value), j_go (jmt 99) post cut (n + 1) 5 ls r w cb sb ↔ j_k (jmt 99) post cut n 6 ls (.int (Int32.ofInt 1) :: r) w cb sb) ∧
  (∀ (r : List Value) (x y : Int32), j_go (jmt 99) post cut (n + 1) 6 ls (.int y :: .int x :: r) w cb sb ↔ j_k (jmt 99) post cut n 7 ls (.int (x + y) :: r) w cb sb) ∧
  (∀ (r : List Value) (v : Value) (a : Nat), j_go (jmt 99) post cut (n + 1) 7 ls (v :: .ref a :: r) w cb sb ↔ g_ob 8 (w a) (fun fs => 22 < fs.length ∧ j_okv 0 v ∧ j_k (jmt 99) post cut n 10 ls r ((j_up w a (.inr (8, fs.set 22 v)))) cb sb)) ∧
  (∀ (r : List Value), j_go (jmt 99) post cut (n + 1) 10 ls r w cb sb ↔ j_k (jmt 99) post cut n 12 ls (.int (Int8.ofInt 6).toInt32 :: r) w cb sb) ∧
  (∀ (r : List Value), j_go (jmt 99) post cut (n + 1) 12 ls r w cb sb ↔ g_ld ls[0]? (fun v => t_a v ∧ j_k (jmt 99) post cut n 13 ls (v :: r) w cb sb)) ∧
  (∀ (r : List Value) (a : Nat), j_go (jmt 99) post cut (n + 1) 13 ls (.ref a :: r) w cb sb ↔ g_ob 8 (w a) (fun fs => g_v fs[22]? (fun v => j_k (jmt 99) post cut n 16 ls (v :: r) w cb sb))) ∧
  (∀ (r : List Value) (x y : Int32), j_go (jmt 99) post cut (n + 1) 16 ls (.int y :: .int x :: r) w cb sb ↔ j_k (jmt 99) post cut n 17 ls (.int (x * y) :: r) w cb sb) ∧
  (∀ (r : List Value) (x : Int32), j_go (jmt 99) post cut (n + 1) 17 ls (.int x :: r) w cb sb ↔ j_ok1 ls 6 = true ∧ j_k (jmt 99) post cut n 19 (ls.set 6 (some (.int x))) r w cb sb) ∧
  (∀ (r : List Value), j_go (jmt 99) post cut (n + 1) 19 ls r w cb sb ↔ g_ld ls[0]? (fun v => t_a v ∧ j_k (jmt 99) post cut n 20 ls (v :: r) w cb sb)) ∧
  (∀ (r : List Value) (a : Nat), j_go (jmt 99) post cut (n + 1) 20 ls (.ref a :: r) w cb sb ↔ g_ob 8 (w a) (fun fs => g_v fs[23]? (fun v => j_k (jmt 99) post cut n 23 ls (v :: r) w cb sb))) ∧
  (∀ (r : List Value), j_go (jmt 99) post cut (n + 1) 23 ls r w cb sb ↔ g_ld ls[6]? (fun v => t_i v ∧ j_k (jmt 99) post cut n 25 ls (v :: r) w cb sb)) ∧
  (∀ (r : List Value), j_go (jmt 99) post cut (n + 1) 25 ls r w cb sb ↔ g_ld ls[1]? (fun v => t_i v ∧ j_k (jmt 99) post cut n 26 ls (v :: r) w cb sb)) ∧
  (∀ (r : List Value) (a : Nat) (j v : Int32), j_go (jmt 99) post cut (n + 1) 26 ls (.int v :: .int j :: .ref a :: r) w cb sb ↔ g_ia 0 (w a) (fun m f => vp_in j m ∧ j_k (jmt 99) post cut n 27 ls r ((j_up w a (.inl (0, m, .inl (upd f j.toNatClampNeg v))))) cb sb)) ∧
  (∀ (r : List Value), j_go (jmt 99) post cut (n + 1) 27 ls r w cb sb ↔ g_ld ls[0]? (fun v => t_a v ∧ j_k (jmt 99) post cut n 28 ls (v :: r) w cb sb)) ∧
  (∀ (r : List Value) (a : Nat), j_go (jmt 99) post cut (n + 1) 28 ls (.ref a :: r) w cb sb ↔ g_ob 8 (w a) (fun fs => g_v fs[23]? (fun v => j_k (jmt 99) post cut n 31 ls (v :: r) w cb sb))) ∧
  (∀ (r : List Value), j_go (jmt 99) post cut (n + 1) 31 ls r w cb sb ↔ g_ld ls[6]? (fun v => t_i v ∧ j_k (jmt 99) post cut n 33 ls (v :: r) w cb sb)) ∧
  (∀ (r : List Value), j_go (jmt 99) post cut (n + 1) 33 ls r w cb sb ↔ j_k (jmt 99) post cut n 34 ls (.int (Int32.ofInt 1) :: r) w cb sb) ∧
  (∀ (r : List Value) (x y : Int32), j_go (jmt 99) post cut (n + 1) 34 ls (.int y :: .int x :: r) w cb sb ↔ j_k (jmt 99) post cut n 35 ls (.int (x + y) :: r) w cb sb) ∧
  (∀ (r : List Value), j_go (jmt 99) post cut (n + 1) 35 ls r w cb sb ↔ g_ld ls[2]? (fun v => t_i v ∧ j_k (jmt 99) post cut n 36 ls (v :: r) w cb sb)) ∧
  (∀ (r : List Value) (a : Nat) (j v : Int32), j_go (jmt 99) post cut (n + 1) 36 ls (.int v :: .int j :: .ref a :: r) w cb sb ↔ g_ia 0 (w a) (fun m f => vp_in j m ∧ j_k (jmt 99) post cut n 37 ls r ((j_up w a (.inl (0, m, .inl (upd f j.toNatClampNeg v))))) cb sb)) ∧
  (∀ (r : List Value), j_go (jmt 99) post cut (n + 1) 37 ls r w cb sb ↔ g_ld ls[0]? (fun v => t_a v ∧ j_k (jmt 99) post cut n 38 ls (v :: r) w cb sb)) ∧
  (∀ (r : List Value) (a : Nat), j_go (jmt 99) post cut (n + 1) 38 ls (.ref a :: r) w cb sb ↔ g_ob 8 (w a) (fun fs => g_v fs[23]? (fun v => j_k (jmt 99) post cut n 41 ls (v :: r) w cb sb))) ∧
  (∀ (r : List Value), j_go (jmt 99) post cut (n + 1) 41 ls r w cb sb ↔ g_ld ls[6]? (fun v => t_i v ∧ j_k (jmt 99) post cut n 43 ls (v :: r) w cb sb)) ∧
  (∀ (r : List Value), j_go (jmt 99) post cut (n + 1) 43 ls r w cb sb ↔ j_k (jmt 99) post cut n 44 ls (.int (Int32.ofInt 2) :: r) w cb sb) ∧
  (∀ (r : List Value) (x y : Int32), j_go (jmt 99) post cut (n + 1) 44 ls (.int y :: .int x :: r) w cb sb ↔ j_k (jmt 99) post cut n 45 ls (.int (x + y) :: r) w cb sb) ∧
  (∀ (r : List Value), j_go (jmt 99) post cut (n + 1) 45 ls r w cb sb ↔ g_ld ls[3]? (fun v => t_i v ∧ j_k (jmt 99) post cut n 46 ls (v :: r) w cb sb)) ∧
  (∀ (r : List Value) (a : Nat) (j v : Int32), j_go (jmt 99) post cut (n + 1) 46 ls (.int v :: .int j :: .ref a :: r) w cb sb ↔ g_ia 0 (w a) (fun m f => vp_in j m ∧ j_k (jmt 99) post cut n 47 ls r ((j_up w a (.inl (0, m, .inl (upd f j.toNatClampNeg v))))) cb sb)) ∧
  (∀ (r : List Value), j_go (jmt 99) post cut (n + 1) 47 ls r w cb sb ↔ g_ld ls[0]? (fun v => t_a v ∧ j_k (jmt 99) post cut n 48 ls (v :: r) w cb sb)) ∧
  (∀ (r : List Value) (a : Nat), j_go (jmt 99) post cut (n + 1) 48 ls (.ref a :: r) w cb sb ↔ g_ob 8 (w a) (fun fs => g_v fs[23]? (fun v => j_k (jmt 99) post cut n 51 ls (v :: r) w cb sb))) ∧
  (∀ (r : List Value), j_go (jmt 99) post cut (n + 1) 51 ls r w cb sb ↔ g_ld ls[6]? (fun v => t_i v ∧ j_k (jmt 99) post cut n 53 ls (v :: r) w cb sb)) ∧
  (∀ (r : List Value), j_go (jmt 99) post cut (n + 1) 53 ls r w cb sb ↔ j_k (jmt 99) post cut n 54 ls (.int (Int32.ofInt 3) :: r) w cb sb) ∧
  (∀ (r : List Value) (x y : Int32), j_go (jmt 99) post cut (n + 1) 54 ls (.int y :: .int x :: r) w cb sb ↔ j_k (jmt 99) post cut n 55 ls (.int (x + y) :: r) w cb sb) ∧
  (∀ (r : List Value), j_go (jmt 99) post cut (n + 1) 55 ls r w cb sb ↔ g_ld ls[4]? (fun v => t_i v ∧ j_k (jmt 99) post cut n 57 ls (v :: r) w cb sb)) ∧
  (∀ (r : List Value) (a : Nat) (j v : Int32), j_go (jmt 99) post cut (n + 1) 57 ls (.int v :: .int j :: .ref a :: r) w cb sb ↔ g_ia 0 (w a) (fun m f => vp_in j m ∧ j_k (jmt 99) post cut n 58 ls r ((j_up w a (.inl (0, m, .inl (upd f j.toNatClampNeg v))))) cb sb)) ∧
  (∀ (r : List Value), j_go (jmt 99) post cut (n + 1) 58 ls r w cb sb ↔ g_ld ls[0]? (fun v => t_a v ∧ j_k (jmt 99) post cut n 59 ls (v :: r) w cb sb)) ∧
  (∀ (r : List Value) (a : Nat), j_go (jmt 99) post cut (n + 1) 59 ls (.ref a :: r) w cb sb ↔ g_ob 8 (w a) (fun fs => g_v fs[23]? (fun v => j_k (jmt 99) post cut n 62 ls (v :: r) w cb sb))) ∧
  (∀ (r : List Value), j_go (jmt 99) post cut (n + 1) 62 ls r w cb sb ↔ g_ld ls[6]? (fun v => t_i v ∧ j_k (jmt 99) post cut n 64 ls (v :: r) w cb sb)) ∧
  (∀ (r : List Value), j_go (jmt 99) post cut (n + 1) 64 ls r w cb sb ↔ j_k (jmt 99) post cut n 65 ls (.int (Int32.ofInt 4) :: r) w cb sb) ∧
  (∀ (r : List Value) (x y : Int32), j_go (jmt 99) post cut (n + 1) 65 ls (.int y :: .int x :: r) w cb sb ↔ j_k (jmt 99) post cut n 66 ls (.int (x + y) :: r) w cb sb) ∧
  (∀ (r : List Value), j_go (jmt 99) post cut (n + 1) 66 ls r w cb sb ↔ g_ld ls[5]? (fun v => t_i v ∧ j_k (jmt 99) post cut n 68 ls (v :: r) w cb sb)) ∧
  (∀ (r : List Value) (a : Nat) (j v : Int32), j_go (jmt 99) post cut (n + 1) 68 ls (.int v :: .int j :: .ref a :: r) w cb sb ↔ g_ia 0 (w a) (fun m f => vp_in j m ∧ j_k (jmt 99) post cut n 69 ls r ((j_up w a (.inl (0, m, .inl (upd f j.toNatClampNeg v))))) cb sb)) ∧
  (∀ (r : List Value), j_go (jmt 99) post cut (n + 1) 69 ls r w cb sb ↔ g_ld ls[0]? (fun v => t_a v ∧ j_k (jmt 99) post cut n 70 ls (v :: r) w cb sb)) ∧
  (∀ (r : List Value) (a : Nat), j_go (jmt 99) post cut (n + 1) 70 ls (.ref a :: r) w cb sb ↔ g_ob 8 (w a) (fun fs => g_v fs[22]? (fun v => j_k (jmt 99) post cut n 73 ls (v :: r) w cb sb))) ∧
  (∀ (a : Int32), j_go (jmt 99) post cut (n + 1) 73 ls [.int a] w cb sb ↔ narrow .int (.int a) = .int a ∧ post (some (.int a)) w) := ⟨fun _ => (j_go_s rfl).trans e_aload_n,
  fun _ _ => (j_go_s rfl).trans e_dup,
  fun _ _ => (j_go_s rfl).trans e_getf,
  fun _ => (j_go_s rfl).trans e_iconst,
  fun _ _ _ => (j_go_s rfl).trans e_iadd,
  fun _ _ _ => (j_go_s rfl).trans e_putf,
  fun _ => (j_go_s rfl).trans e_bipush,
  fun _ => (j_go_s rfl).trans e_aload_n,
  fun _ _ => (j_go_s rfl).trans e_getf,
  fun _ _ _ => (j_go_s rfl).trans e_imul,
  fun _ _ => (j_go_s rfl).trans e_istore,
  fun _ => (j_go_s rfl).trans e_aload_n,
  fun _ _ => (j_go_s rfl).trans e_getf,
  fun _ => (j_go_s rfl).trans e_iload,
  fun _ => (j_go_s rfl).trans e_iload_n,
  fun _ _ _ _ => (j_go_s rfl).trans e_iast,
  fun _ => (j_go_s rfl).trans e_aload_n,
  fun _ _ => (j_go_s rfl).trans e_getf,
  fun _ => (j_go_s rfl).trans e_iload,
  fun _ => (j_go_s rfl).trans e_iconst,
  fun _ _ _ => (j_go_s rfl).trans e_iadd,
  fun _ => (j_go_s rfl).trans e_iload_n,
  fun _ _ _ _ => (j_go_s rfl).trans e_iast,
  fun _ => (j_go_s rfl).trans e_aload_n,
  fun _ _ => (j_go_s rfl).trans e_getf,
  fun _ => (j_go_s rfl).trans e_iload,
  fun _ => (j_go_s rfl).trans e_iconst,
  fun _ _ _ => (j_go_s rfl).trans e_iadd,
  fun _ => (j_go_s rfl).trans e_iload_n,
  fun _ _ _ _ => (j_go_s rfl).trans e_iast,
  fun _ => (j_go_s rfl).trans e_aload_n,
  fun _ _ => (j_go_s rfl).trans e_getf,
  fun _ => (j_go_s rfl).trans e_iload,
  fun _ => (j_go_s rfl).trans e_iconst,
  fun _ _ _ => (j_go_s rfl).trans e_iadd,
  fun _ => (j_go_s rfl).trans e_iload,
  fun _ _ _ _ => (j_go_s rfl).trans e_iast,
  fun _ => (j_go_s rfl).trans e_aload_n,
  fun _ _ => (j_go_s rfl).trans e_getf,
  fun _ => (j_go_s rfl).trans e_iload,
  fun _ => (j_go_s rfl).trans e_iconst,
  fun _ _ _ => (j_go_s rfl).trans e_iadd,
  fun _ => (j_go_s rfl).trans e_iload,
  fun _ _ _ _ => (j_go_s rfl).trans e_iast,
  fun _ => (j_go_s rfl).trans e_aload_n,
  fun _ _ => (j_go_s rfl).trans e_getf,
  fun _ => (j_go_s rfl).trans e_iret⟩
set_option maxRecDepth 100000 in
set_option maxHeartbeats 4000000 in
theorem st_Ref_go {post : Option Value → jW → Prop} {cut : List Nat} {n : Nat} {ls : jL} {w : jW} {cb sb : Nat} : (∀ (r : List Value), j_go (jmt 100) post cut (n + 1) 0 ls r w cb sb ↔ g_ld ls[0]? (fun v => t_a v ∧ j_k (jmt 100) post cut n 1 ls (v :: r) w cb sb)) ∧
  (∀ (r : List Value), j_go (jmt 100) post cut (n + 1) 1 ls r w cb sb ↔ g_ld ls[1]? (fun v => t_i v ∧ j_k (jmt 100) post cut n 2 ls (v :: r) w cb sb)) ∧
  (∀ (r : List Value) (a0 : Value) (b : Nat), j_go (jmt 100) post cut (n + 1) 2 ls (a0 :: .ref b :: r) w cb sb ↔ g_ob 8 (w b) (fun _ => True) ∧ j_w8 r ∧ g_call (jmt 101) [.ref b, a0] w cb sb (fun v w' c s => j_k (jmt 100) post cut n 5 ls (v.toList ++ r) w' c s)) ∧
  (∀ (r : List Value) (a : Int32), j_go (jmt 100) post cut (n + 1) 5 ls (.int a :: r) w cb sb ↔ (a = 0 → j_k (jmt 100) post cut n 10 ls r w cb sb) ∧ (¬ (a = 0) → j_k (jmt 100) post cut n 8 ls r w cb sb)) ∧
  (∀ (r : List Value), j_go (jmt 100) post cut (n + 1) 8 ls r w cb sb ↔ j_k (jmt 100) post cut n 9 ls (.int (Int32.ofInt (-1)) :: r) w cb sb) ∧
  (∀ (a : Int32), j_go (jmt 100) post cut (n + 1) 9 ls [.int a] w cb sb ↔ narrow .int (.int a) = .int a ∧ post (some (.int a)) w) ∧
  (∀ (r : List Value), j_go (jmt 100) post cut (n + 1) 10 ls r w cb sb ↔ j_k (jmt 100) post cut n 12 ls (.int (Int8.ofInt 6).toInt32 :: r) w cb sb) ∧
  (∀ (r : List Value), j_go (jmt 100) post cut (n + 1) 12 ls r w cb sb ↔ g_ld ls[1]? (fun v => t_i v ∧ j_k (jmt 100) post cut n 13 ls (v :: r) w cb sb)) ∧
  (∀ (r : List Value) (x y : Int32), j_go (jmt 100) post cut (n + 1) 13 ls (.int y :: .int x :: r) w cb sb ↔ j_k (jmt 100) post cut n 14 ls (.int (x * y) :: r) w cb sb) ∧
  (∀ (r : List Value) (x : Int32), j_go (jmt 100) post cut (n + 1) 14 ls (.int x :: r) w cb sb ↔ j_ok1 ls 2 = true ∧ j_k (jmt 100) post cut n 15 (ls.set 2 (some (.int x))) r w cb sb) ∧
  (∀ (r : List Value), j_go (jmt 100) post cut (n + 1) 15 ls r w cb sb ↔ g_ld ls[0]? (fun v => t_a v ∧ j_k (jmt 100) post cut n 16 ls (v :: r) w cb sb)) ∧
  (∀ (r : List Value), j_go (jmt 100) post cut (n + 1) 16 ls r w cb sb ↔ g_ld ls[0]? (fun v => t_a v ∧ j_k (jmt 100) post cut n 17 ls (v :: r) w cb sb)) ∧
  (∀ (r : List Value) (a : Nat), j_go (jmt 100) post cut (n + 1) 17 ls (.ref a :: r) w cb sb ↔ g_ob 8 (w a) (fun fs => g_v fs[23]? (fun v => j_k (jmt 100) post cut n 20 ls (v :: r) w cb sb))) ∧
  (∀ (r : List Value), j_go (jmt 100) post cut (n + 1) 20 ls r w cb sb ↔ g_ld ls[2]? (fun v => t_i v ∧ j_k (jmt 100) post cut n 21 ls (v :: r) w cb sb)) ∧
  (∀ (r : List Value), j_go (jmt 100) post cut (n + 1) 21 ls r w cb sb ↔ j_k (jmt 100) post cut n 22 ls (.int (Int32.ofInt 4) :: r) w cb sb) ∧
  (∀ (r : List Value) (x y : Int32), j_go (jmt 100) post cut (n + 1) 22 ls (.int y :: .int x :: r) w cb sb ↔ j_k (jmt 100) post cut n 23 ls (.int (x + y) :: r) w cb sb) ∧
  (∀ (r : List Value) (a : Nat) (j : Int32), j_go (jmt 100) post cut (n + 1) 23 ls (.int j :: .ref a :: r) w cb sb ↔ g_ia 0 (w a) (fun m f => vp_in j m ∧ j_k (jmt 100) post cut n 24 ls (.int (f j.toNatClampNeg) :: r) w cb sb)) ∧
  (∀ (r : List Value), j_go (jmt 100) post cut (n + 1) 24 ls r w cb sb ↔ g_ld ls[0]? (fun v => t_a v ∧ j_k (jmt 100) post cut n 25 ls (v :: r) w cb sb)) ∧
  (∀ (r : List Value) (a : Nat), j_go (jmt 100) post cut (n + 1) 25 ls (.ref a :: r) w cb sb ↔ g_ob 8 (w a) (fun fs => g_v fs[20]? (fun v => j_k (jmt 100) post cut n 28 ls (v :: r) w cb sb))) ∧
  (∀ (r : List Value), j_go (jmt 100) post cut (n + 1) 28 ls r w cb sb ↔ g_ld ls[0]? (fun v => t_a v ∧ j_k (jmt 100) post cut n 29 ls (v :: r) w cb sb)) ∧
  (∀ (r : List Value) (a : Nat), j_go (jmt 100) post cut (n + 1) 29 ls (.ref a :: r) w cb sb ↔ g_ob 8 (w a) (fun fs => g_v fs[23]? (fun v => j_k (jmt 100) post cut n 32 ls (v :: r) w cb sb))) ∧
  (∀ (r : List Value), j_go (jmt 100) post cut (n + 1) 32 ls r w cb sb ↔ g_ld ls[2]? (fun v => t_i v ∧ j_k (jmt 100) post cut n 33 ls (v :: r) w cb sb)) ∧
  (∀ (r : List Value) (a : Nat) (j : Int32), j_go (jmt 100) post cut (n + 1) 33 ls (.int j :: .ref a :: r) w cb sb ↔ g_ia 0 (w a) (fun m f => vp_in j m ∧ j_k (jmt 100) post cut n 34 ls (.int (f j.toNatClampNeg) :: r) w cb sb)) ∧
  (∀ (r : List Value) (a : Nat) (j : Int32), j_go (jmt 100) post cut (n + 1) 34 ls (.int j :: .ref a :: r) w cb sb ↔ g_ia 0 (w a) (fun m f => vp_in j m ∧ j_k (jmt 100) post cut n 35 ls (.int (f j.toNatClampNeg) :: r) w cb sb)) ∧
  (∀ (r : List Value) (a0 a1 : Value) (b : Nat), j_go (jmt 100) post cut (n + 1) 35 ls (a1 :: a0 :: .ref b :: r) w cb sb ↔ g_ob 8 (w b) (fun _ => True) ∧ j_w8 r ∧ g_call (jmt 102) [.ref b, a0, a1] w cb sb (fun v w' c s => j_k (jmt 100) post cut n 38 ls (v.toList ++ r) w' c s)) ∧
  (∀ (r : List Value) (x : Int32), j_go (jmt 100) post cut (n + 1) 38 ls (.int x :: r) w cb sb ↔ j_ok1 ls 3 = true ∧ j_k (jmt 100) post cut n 39 (ls.set 3 (some (.int x))) r w cb sb) ∧
  (∀ (r : List Value), j_go (jmt 100) post cut (n + 1) 39 ls r w cb sb ↔ g_ld ls[0]? (fun v => t_a v ∧ j_k (jmt 100) post cut n 40 ls (v :: r) w cb sb)) ∧
  (∀ (r : List Value), j_go (jmt 100) post cut (n + 1) 40 ls r w cb sb ↔ g_ld ls[2]? (fun v => t_i v ∧ j_k (jmt 100) post cut n 41 ls (v :: r) w cb sb)) ∧
  (∀ (r : List Value), j_go (jmt 100) post cut (n + 1) 41 ls r w cb sb ↔ g_ld ls[3]? (fun v => t_i v ∧ j_k (jmt 100) post cut n 42 ls (v :: r) w cb sb)) ∧
  (∀ (r : List Value) (a0 a1 : Value) (b : Nat), j_go (jmt 100) post cut (n + 1) 42 ls (a1 :: a0 :: .ref b :: r) w cb sb ↔ g_ob 8 (w b) (fun _ => True) ∧ j_w8 r ∧ g_call (jmt 107) [.ref b, a0, a1] w cb sb (fun v w' c s => j_k (jmt 100) post cut n 45 ls (v.toList ++ r) w' c s)) ∧
  (∀ (r : List Value) (x : Int32), j_go (jmt 100) post cut (n + 1) 45 ls (.int x :: r) w cb sb ↔ j_ok1 ls 4 = true ∧ j_k (jmt 100) post cut n 47 (ls.set 4 (some (.int x))) r w cb sb) ∧
  (∀ (r : List Value), j_go (jmt 100) post cut (n + 1) 47 ls r w cb sb ↔ g_ld ls[4]? (fun v => t_i v ∧ j_k (jmt 100) post cut n 49 ls (v :: r) w cb sb)) ∧
  (∀ (r : List Value) (a : Int32), j_go (jmt 100) post cut (n + 1) 49 ls (.int a :: r) w cb sb ↔ (a = 0 → j_k (jmt 100) post cut n 65 ls r w cb sb) ∧ (¬ (a = 0) → j_k (jmt 100) post cut n 52 ls r w cb sb)) ∧
  (∀ (r : List Value), j_go (jmt 100) post cut (n + 1) 52 ls r w cb sb ↔ g_ld ls[0]? (fun v => t_a v ∧ j_k (jmt 100) post cut n 53 ls (v :: r) w cb sb)) ∧
  (∀ (r : List Value) (a : Nat), j_go (jmt 100) post cut (n + 1) 53 ls (.ref a :: r) w cb sb ↔ g_ob 8 (w a) (fun fs => g_v fs[23]? (fun v => j_k (jmt 100) post cut n 56 ls (v :: r) w cb sb))) ∧
  (∀ (r : List Value), j_go (jmt 100) post cut (n + 1) 56 ls r w cb sb ↔ g_ld ls[2]? (fun v => t_i v ∧ j_k (jmt 100) post cut n 57 ls (v :: r) w cb sb)) ∧
  (∀ (r : List Value), j_go (jmt 100) post cut (n + 1) 57 ls r w cb sb ↔ j_k (jmt 100) post cut n 58 ls (.int (Int32.ofInt 5) :: r) w cb sb) ∧
  (∀ (r : List Value) (x y : Int32), j_go (jmt 100) post cut (n + 1) 58 ls (.int y :: .int x :: r) w cb sb ↔ j_k (jmt 100) post cut n 59 ls (.int (x + y) :: r) w cb sb) ∧
  (∀ (r : List Value), j_go (jmt 100) post cut (n + 1) 59 ls r w cb sb ↔ g_ld ls[4]? (fun v => t_i v ∧ j_k (jmt 100) post cut n 61 ls (v :: r) w cb sb)) ∧
  (∀ (r : List Value) (a : Nat) (j v : Int32), j_go (jmt 100) post cut (n + 1) 61 ls (.int v :: .int j :: .ref a :: r) w cb sb ↔ g_ia 0 (w a) (fun m f => vp_in j m ∧ j_k (jmt 100) post cut n 62 ls r ((j_up w a (.inl (0, m, .inl (upd f j.toNatClampNeg v))))) cb sb)) ∧
  (∀ (r : List Value), j_go (jmt 100) post cut (n + 1) 62 ls r w cb sb ↔ g_ld ls[4]? (fun v => t_i v ∧ j_k (jmt 100) post cut n 64 ls (v :: r) w cb sb)) ∧
  (∀ (a : Int32), j_go (jmt 100) post cut (n + 1) 64 ls [.int a] w cb sb ↔ narrow .int (.int a) = .int a ∧ post (some (.int a)) w) ∧
  (∀ (r : List Value), j_go (jmt 100) post cut (n + 1) 65 ls r w cb sb ↔ g_ld ls[0]? (fun v => t_a v ∧ j_k (jmt 100) post cut n 66 ls (v :: r) w cb sb)) ∧
  (∀ (r : List Value) (a : Nat), j_go (jmt 100) post cut (n + 1) 66 ls (.ref a :: r) w cb sb ↔ g_ob 8 (w a) (fun fs => g_v fs[23]? (fun v => j_k (jmt 100) post cut n 69 ls (v :: r) w cb sb))) ∧
  (∀ (r : List Value), j_go (jmt 100) post cut (n + 1) 69 ls r w cb sb ↔ g_ld ls[2]? (fun v => t_i v ∧ j_k (jmt 100) post cut n 70 ls (v :: r) w cb sb)) ∧
  (∀ (r : List Value), j_go (jmt 100) post cut (n + 1) 70 ls r w cb sb ↔ j_k (jmt 100) post cut n 71 ls (.int (Int32.ofInt 2) :: r) w cb sb) ∧
  (∀ (r : List Value) (x y : Int32), j_go (jmt 100) post cut (n + 1) 71 ls (.int y :: .int x :: r) w cb sb ↔ j_k (jmt 100) post cut n 72 ls (.int (x + y) :: r) w cb sb) ∧
  (∀ (r : List Value) (a : Nat) (j : Int32), j_go (jmt 100) post cut (n + 1) 72 ls (.int j :: .ref a :: r) w cb sb ↔ g_ia 0 (w a) (fun m f => vp_in j m ∧ j_k (jmt 100) post cut n 73 ls (.int (f j.toNatClampNeg) :: r) w cb sb)) ∧
  (∀ (r : List Value) (x : Int32), j_go (jmt 100) post cut (n + 1) 73 ls (.int x :: r) w cb sb ↔ j_ok1 ls 5 = true ∧ j_k (jmt 100) post cut n 75 (ls.set 5 (some (.int x))) r w cb sb) ∧
  (∀ (r : List Value), j_go (jmt 100) post cut (n + 1) 75 ls r w cb sb ↔ g_ld ls[0]? (fun v => t_a v ∧ j_k (jmt 100) post cut n 76 ls (v :: r) w cb sb)) ∧
  (∀ (r : List Value) (a : Nat), j_go (jmt 100) post cut (n + 1) 76 ls (.ref a :: r) w cb sb ↔ g_ob 8 (w a) (fun fs => g_v fs[4]? (fun v => j_k (jmt 100) post cut n 79 ls (v :: r) w cb sb))) ∧
  (∀ (r : List Value), j_go (jmt 100) post cut (n + 1) 79 ls r w cb sb ↔ g_ld ls[3]? (fun v => t_i v ∧ j_k (jmt 100) post cut n 80 ls (v :: r) w cb sb)) ∧
  (∀ (r : List Value) (a : Nat) (j : Int32), j_go (jmt 100) post cut (n + 1) 80 ls (.int j :: .ref a :: r) w cb sb ↔ g_ia 0 (w a) (fun m f => vp_in j m ∧ j_k (jmt 100) post cut n 81 ls (.int (f j.toNatClampNeg) :: r) w cb sb)) ∧
  (∀ (r : List Value), j_go (jmt 100) post cut (n + 1) 81 ls r w cb sb ↔ g_ld ls[5]? (fun v => t_i v ∧ j_k (jmt 100) post cut n 83 ls (v :: r) w cb sb)) ∧
  (∀ (r : List Value) (a b : Int32), j_go (jmt 100) post cut (n + 1) 83 ls (.int b :: .int a :: r) w cb sb ↔ (b ≤ a → j_k (jmt 100) post cut n 101 ls r w cb sb) ∧ (¬ (b ≤ a) → j_k (jmt 100) post cut n 86 ls r w cb sb)) ∧
  (∀ (r : List Value), j_go (jmt 100) post cut (n + 1) 86 ls r w cb sb ↔ g_ld ls[0]? (fun v => t_a v ∧ j_k (jmt 100) post cut n 87 ls (v :: r) w cb sb)) ∧
  (∀ (r : List Value) (a : Nat), j_go (jmt 100) post cut (n + 1) 87 ls (.ref a :: r) w cb sb ↔ g_ob 8 (w a) (fun fs => g_v fs[4]? (fun v => j_k (jmt 100) post cut n 90 ls (v :: r) w cb sb))) ∧
  (∀ (r : List Value), j_go (jmt 100) post cut (n + 1) 90 ls r w cb sb ↔ g_ld ls[3]? (fun v => t_i v ∧ j_k (jmt 100) post cut n 91 ls (v :: r) w cb sb)) ∧
  (∀ (r : List Value) (a : Nat) (j : Int32), j_go (jmt 100) post cut (n + 1) 91 ls (.int j :: .ref a :: r) w cb sb ↔ g_ia 0 (w a) (fun m f => vp_in j m ∧ j_k (jmt 100) post cut n 92 ls (.int (f j.toNatClampNeg) :: r) w cb sb)) ∧
  (∀ (r : List Value), j_go (jmt 100) post cut (n + 1) 92 ls r w cb sb ↔ j_k (jmt 100) post cut n 94 ls (.int (Int8.ofInt 8).toInt32 :: r) w cb sb) ∧
  (∀ (r : List Value) (a b : Int32), j_go (jmt 100) post cut (n + 1) 94 ls (.int b :: .int a :: r) w cb sb ↔ ¬ b = 0 ∧ j_k (jmt 100) post cut n 95 ls (.int (a / b) :: r) w cb sb) ∧
  (∀ (r : List Value), j_go (jmt 100) post cut (n + 1) 95 ls r w cb sb ↔ j_k (jmt 100) post cut n 97 ls (.int (Int8.ofInt 8).toInt32 :: r) w cb sb) ∧
  (∀ (r : List Value) (x y : Int32), j_go (jmt 100) post cut (n + 1) 97 ls (.int y :: .int x :: r) w cb sb ↔ j_k (jmt 100) post cut n 98 ls (.int (x * y) :: r) w cb sb) ∧
  (∀ (r : List Value), j_go (jmt 100) post cut (n + 1) 98 ls r w cb sb ↔ j_k (jmt 100) post cut n 103 ls r w cb sb) ∧
  (∀ (r : List Value), j_go (jmt 100) post cut (n + 1) 101 ls r w cb sb ↔ g_ld ls[5]? (fun v => t_i v ∧ j_k (jmt 100) post cut n 103 ls (v :: r) w cb sb)) ∧
  (∀ (r : List Value) (x : Int32), j_go (jmt 100) post cut (n + 1) 103 ls (.int x :: r) w cb sb ↔ j_ok1 ls 6 = true ∧ j_k (jmt 100) post cut n 105 (ls.set 6 (some (.int x))) r w cb sb) ∧
  (∀ (r : List Value), j_go (jmt 100) post cut (n + 1) 105 ls r w cb sb ↔ g_ld ls[0]? (fun v => t_a v ∧ j_k (jmt 100) post cut n 106 ls (v :: r) w cb sb)) ∧
  (∀ (r : List Value) (a : Nat), j_go (jmt 100) post cut (n + 1) 106 ls (.ref a :: r) w cb sb ↔ g_ob 8 (w a) (fun fs => g_v fs[22]? (fun v => j_k (jmt 100) post cut n 109 ls (v :: r) w cb sb))) ∧
  (∀ (r : List Value), j_go (jmt 100) post cut (n + 1) 109 ls r w cb sb ↔ g_ld ls[5]? (fun v => t_i v ∧ j_k (jmt 100) post cut n 111 ls (v :: r) w cb sb)) ∧
  (∀ (r : List Value), j_go (jmt 100) post cut (n + 1) 111 ls r w cb sb ↔ j_k (jmt 100) post cut n 112 ls (.int (Int32.ofInt 1) :: r) w cb sb) ∧
  (∀ (r : List Value) (x y : Int32), j_go (jmt 100) post cut (n + 1) 112 ls (.int y :: .int x :: r) w cb sb ↔ j_k (jmt 100) post cut n 113 ls (.int (x - y) :: r) w cb sb) ∧
  (∀ (r : List Value), j_go (jmt 100) post cut (n + 1) 113 ls r w cb sb ↔ g_ld ls[6]? (fun v => t_i v ∧ j_k (jmt 100) post cut n 115 ls (v :: r) w cb sb)) ∧
  (∀ (r : List Value) (a b : Int32), j_go (jmt 100) post cut (n + 1) 115 ls (.int b :: .int a :: r) w cb sb ↔ ¬ b = 0 ∧ j_k (jmt 100) post cut n 116 ls (.int (a / b) :: r) w cb sb) ∧
  (∀ (r : List Value) (x y : Int32), j_go (jmt 100) post cut (n + 1) 116 ls (.int y :: .int x :: r) w cb sb ↔ j_k (jmt 100) post cut n 117 ls (.int (x + y) :: r) w cb sb) ∧
  (∀ (r : List Value), j_go (jmt 100) post cut (n + 1) 117 ls r w cb sb ↔ j_k (jmt 100) post cut n 119 ls (.int (Int8.ofInt 80).toInt32 :: r) w cb sb) ∧
  (∀ (r : List Value) (a b : Int32), j_go (jmt 100) post cut (n + 1) 119 ls (.int b :: .int a :: r) w cb sb ↔ (a ≤ b → j_k (jmt 100) post cut n 125 ls r w cb sb) ∧ (¬ (a ≤ b) → j_k (jmt 100) post cut n 122 ls r w cb sb)) ∧
  (∀ (r : List Value), j_go (jmt 100) post cut (n + 1) 122 ls r w cb sb ↔ j_k (jmt 100) post cut n 124 ls (.int (Int8.ofInt (-2)).toInt32 :: r) w cb sb) ∧
  (∀ (a : Int32), j_go (jmt 100) post cut (n + 1) 124 ls [.int a] w cb sb ↔ narrow .int (.int a) = .int a ∧ post (some (.int a)) w) ∧
  (∀ (r : List Value), j_go (jmt 100) post cut (n + 1) 125 ls r w cb sb ↔ g_ld ls[0]? (fun v => t_a v ∧ j_k (jmt 100) post cut n 126 ls (v :: r) w cb sb)) ∧
  (∀ (r : List Value) (a : Nat), j_go (jmt 100) post cut (n + 1) 126 ls (.ref a :: r) w cb sb ↔ g_ob 8 (w a) (fun fs => g_v fs[2]? (fun v => j_k (jmt 100) post cut n 129 ls (v :: r) w cb sb))) ∧
  (∀ (r : List Value), j_go (jmt 100) post cut (n + 1) 129 ls r w cb sb ↔ j_k (jmt 100) post cut n 130 ls (.int (Int32.ofInt 2) :: r) w cb sb) ∧
  (∀ (r : List Value), j_go (jmt 100) post cut (n + 1) 130 ls r w cb sb ↔ g_ld ls[3]? (fun v => t_i v ∧ j_k (jmt 100) post cut n 131 ls (v :: r) w cb sb)) ∧
  (∀ (r : List Value) (x y : Int32), j_go (jmt 100) post cut (n + 1) 131 ls (.int y :: .int x :: r) w cb sb ↔ j_k (jmt 100) post cut n 132 ls (.int (x * y) :: r) w cb sb) ∧
  (∀ (r : List Value) (a : Nat) (j : Int32), j_go (jmt 100) post cut (n + 1) 132 ls (.int j :: .ref a :: r) w cb sb ↔ g_ia 0 (w a) (fun m f => vp_in j m ∧ j_k (jmt 100) post cut n 133 ls (.int (f j.toNatClampNeg) :: r) w cb sb)) ∧
  (∀ (r : List Value), j_go (jmt 100) post cut (n + 1) 133 ls r w cb sb ↔ g_ld ls[0]? (fun v => t_a v ∧ j_k (jmt 100) post cut n 134 ls (v :: r) w cb sb)) ∧
  (∀ (r : List Value) (a : Nat), j_go (jmt 100) post cut (n + 1) 134 ls (.ref a :: r) w cb sb ↔ g_ob 8 (w a) (fun fs => g_v fs[23]? (fun v => j_k (jmt 100) post cut n 137 ls (v :: r) w cb sb))) ∧
  (∀ (r : List Value), j_go (jmt 100) post cut (n + 1) 137 ls r w cb sb ↔ g_ld ls[2]? (fun v => t_i v ∧ j_k (jmt 100) post cut n 138 ls (v :: r) w cb sb)) ∧
  (∀ (r : List Value), j_go (jmt 100) post cut (n + 1) 138 ls r w cb sb ↔ j_k (jmt 100) post cut n 139 ls (.int (Int32.ofInt 4) :: r) w cb sb) ∧
  (∀ (r : List Value) (x y : Int32), j_go (jmt 100) post cut (n + 1) 139 ls (.int y :: .int x :: r) w cb sb ↔ j_k (jmt 100) post cut n 140 ls (.int (x + y) :: r) w cb sb) ∧
  (∀ (r : List Value) (a : Nat) (j : Int32), j_go (jmt 100) post cut (n + 1) 140 ls (.int j :: .ref a :: r) w cb sb ↔ g_ia 0 (w a) (fun m f => vp_in j m ∧ j_k (jmt 100) post cut n 141 ls (.int (f j.toNatClampNeg) :: r) w cb sb)) ∧
  (∀ (r : List Value) (a b : Int32), j_go (jmt 100) post cut (n + 1) 141 ls (.int b :: .int a :: r) w cb sb ↔ (¬ a = b → j_k (jmt 100) post cut n 157 ls r w cb sb) ∧ (¬ (¬ a = b) → j_k (jmt 100) post cut n 144 ls r w cb sb)) ∧
  (∀ (r : List Value), j_go (jmt 100) post cut (n + 1) 144 ls r w cb sb ↔ g_ld ls[0]? (fun v => t_a v ∧ j_k (jmt 100) post cut n 145 ls (v :: r) w cb sb)) ∧
  (∀ (r : List Value) (a : Nat), j_go (jmt 100) post cut (n + 1) 145 ls (.ref a :: r) w cb sb ↔ g_ob 8 (w a) (fun fs => g_v fs[2]? (fun v => j_k (jmt 100) post cut n 148 ls (v :: r) w cb sb))) ∧
  (∀ (r : List Value), j_go (jmt 100) post cut (n + 1) 148 ls r w cb sb ↔ j_k (jmt 100) post cut n 149 ls (.int (Int32.ofInt 2) :: r) w cb sb) ∧
  (∀ (r : List Value), j_go (jmt 100) post cut (n + 1) 149 ls r w cb sb ↔ g_ld ls[3]? (fun v => t_i v ∧ j_k (jmt 100) post cut n 150 ls (v :: r) w cb sb)) ∧
  (∀ (r : List Value) (x y : Int32), j_go (jmt 100) post cut (n + 1) 150 ls (.int y :: .int x :: r) w cb sb ↔ j_k (jmt 100) post cut n 151 ls (.int (x * y) :: r) w cb sb) ∧
  (∀ (r : List Value), j_go (jmt 100) post cut (n + 1) 151 ls r w cb sb ↔ j_k (jmt 100) post cut n 152 ls (.int (Int32.ofInt 1) :: r) w cb sb) ∧
  (∀ (r : List Value) (x y : Int32), j_go (jmt 100) post cut (n + 1) 152 ls (.int y :: .int x :: r) w cb sb ↔ j_k (jmt 100) post cut n 153 ls (.int (x + y) :: r) w cb sb) ∧
  (∀ (r : List Value) (a : Nat) (j : Int32), j_go (jmt 100) post cut (n + 1) 153 ls (.int j :: .ref a :: r) w cb sb ↔ g_ia 0 (w a) (fun m f => vp_in j m ∧ j_k (jmt 100) post cut n 154 ls (.int (f j.toNatClampNeg) :: r) w cb sb)) ∧
  (∀ (r : List Value), j_go (jmt 100) post cut (n + 1) 154 ls r w cb sb ↔ j_k (jmt 100) post cut n 165 ls r w cb sb) ∧
  (∀ (r : List Value), j_go (jmt 100) post cut (n + 1) 157 ls r w cb sb ↔ g_ld ls[0]? (fun v => t_a v ∧ j_k (jmt 100) post cut n 158 ls (v :: r) w cb sb)) ∧
  (∀ (r : List Value) (a : Nat), j_go (jmt 100) post cut (n + 1) 158 ls (.ref a :: r) w cb sb ↔ g_ob 8 (w a) (fun fs => g_v fs[2]? (fun v => j_k (jmt 100) post cut n 161 ls (v :: r) w cb sb))) ∧
  (∀ (r : List Value), j_go (jmt 100) post cut (n + 1) 161 ls r w cb sb ↔ j_k (jmt 100) post cut n 162 ls (.int (Int32.ofInt 2) :: r) w cb sb) ∧
  (∀ (r : List Value), j_go (jmt 100) post cut (n + 1) 162 ls r w cb sb ↔ g_ld ls[3]? (fun v => t_i v ∧ j_k (jmt 100) post cut n 163 ls (v :: r) w cb sb)) ∧
  (∀ (r : List Value) (x y : Int32), j_go (jmt 100) post cut (n + 1) 163 ls (.int y :: .int x :: r) w cb sb ↔ j_k (jmt 100) post cut n 164 ls (.int (x * y) :: r) w cb sb) ∧
  (∀ (r : List Value) (a : Nat) (j : Int32), j_go (jmt 100) post cut (n + 1) 164 ls (.int j :: .ref a :: r) w cb sb ↔ g_ia 0 (w a) (fun m f => vp_in j m ∧ j_k (jmt 100) post cut n 165 ls (.int (f j.toNatClampNeg) :: r) w cb sb)) ∧
  (∀ (r : List Value) (x : Int32), j_go (jmt 100) post cut (n + 1) 165 ls (.int x :: r) w cb sb ↔ j_ok1 ls 7 = true ∧ j_k (jmt 100) post cut n 167 (ls.set 7 (some (.int x))) r w cb sb) ∧
  (∀ (r : List Value), j_go (jmt 100) post cut (n + 1) 167 ls r w cb sb ↔ g_ld ls[0]? (fun v => t_a v ∧ j_k (jmt 100) post cut n 168 ls (v :: r) w cb sb)) ∧
  (∀ (r : List Value) (a : Nat), j_go (jmt 100) post cut (n + 1) 168 ls (.ref a :: r) w cb sb ↔ g_ob 8 (w a) (fun fs => g_v fs[23]? (fun v => j_k (jmt 100) post cut n 171 ls (v :: r) w cb sb))) ∧
  (∀ (r : List Value), j_go (jmt 100) post cut (n + 1) 171 ls r w cb sb ↔ g_ld ls[2]? (fun v => t_i v ∧ j_k (jmt 100) post cut n 172 ls (v :: r) w cb sb)) ∧
  (∀ (r : List Value), j_go (jmt 100) post cut (n + 1) 172 ls r w cb sb ↔ j_k (jmt 100) post cut n 173 ls (.int (Int32.ofInt 3) :: r) w cb sb) ∧
  (∀ (r : List Value) (x y : Int32), j_go (jmt 100) post cut (n + 1) 173 ls (.int y :: .int x :: r) w cb sb ↔ j_k (jmt 100) post cut n 174 ls (.int (x + y) :: r) w cb sb) ∧
  (∀ (r : List Value) (v u : Value), j_go (jmt 100) post cut (n + 1) 174 ls (v :: u :: r) w cb sb ↔ (v.category = 1 ∧ u.category = 1) ∧ j_k (jmt 100) post cut n 175 ls (v :: u :: v :: u :: r) w cb sb) ∧
  (∀ (r : List Value) (a : Nat) (j : Int32), j_go (jmt 100) post cut (n + 1) 175 ls (.int j :: .ref a :: r) w cb sb ↔ g_ia 0 (w a) (fun m f => vp_in j m ∧ j_k (jmt 100) post cut n 176 ls (.int (f j.toNatClampNeg) :: r) w cb sb)) ∧
  (∀ (r : List Value), j_go (jmt 100) post cut (n + 1) 176 ls r w cb sb ↔ j_k (jmt 100) post cut n 177 ls (.int (Int32.ofInt 1) :: r) w cb sb) ∧
  (∀ (r : List Value) (x y : Int32), j_go (jmt 100) post cut (n + 1) 177 ls (.int y :: .int x :: r) w cb sb ↔ j_k (jmt 100) post cut n 178 ls (.int (x - y) :: r) w cb sb) ∧
  (∀ (r : List Value) (a : Nat) (j v : Int32), j_go (jmt 100) post cut (n + 1) 178 ls (.int v :: .int j :: .ref a :: r) w cb sb ↔ g_ia 0 (w a) (fun m f => vp_in j m ∧ j_k (jmt 100) post cut n 179 ls r ((j_up w a (.inl (0, m, .inl (upd f j.toNatClampNeg v))))) cb sb)) ∧
  (∀ (r : List Value), j_go (jmt 100) post cut (n + 1) 179 ls r w cb sb ↔ g_ld ls[0]? (fun v => t_a v ∧ j_k (jmt 100) post cut n 180 ls (v :: r) w cb sb)) ∧
  (∀ (r : List Value) (a : Nat), j_go (jmt 100) post cut (n + 1) 180 ls (.ref a :: r) w cb sb ↔ g_ob 8 (w a) (fun fs => g_v fs[23]? (fun v => j_k (jmt 100) post cut n 183 ls (v :: r) w cb sb))) ∧
  (∀ (r : List Value), j_go (jmt 100) post cut (n + 1) 183 ls r w cb sb ↔ g_ld ls[2]? (fun v => t_i v ∧ j_k (jmt 100) post cut n 184 ls (v :: r) w cb sb)) ∧
  (∀ (r : List Value), j_go (jmt 100) post cut (n + 1) 184 ls r w cb sb ↔ j_k (jmt 100) post cut n 185 ls (.int (Int32.ofInt 4) :: r) w cb sb) ∧
  (∀ (r : List Value) (x y : Int32), j_go (jmt 100) post cut (n + 1) 185 ls (.int y :: .int x :: r) w cb sb ↔ j_k (jmt 100) post cut n 186 ls (.int (x + y) :: r) w cb sb) ∧
  (∀ (r : List Value), j_go (jmt 100) post cut (n + 1) 186 ls r w cb sb ↔ g_ld ls[7]? (fun v => t_i v ∧ j_k (jmt 100) post cut n 188 ls (v :: r) w cb sb)) ∧
  (∀ (r : List Value) (a : Nat) (j v : Int32), j_go (jmt 100) post cut (n + 1) 188 ls (.int v :: .int j :: .ref a :: r) w cb sb ↔ g_ia 0 (w a) (fun m f => vp_in j m ∧ j_k (jmt 100) post cut n 189 ls r ((j_up w a (.inl (0, m, .inl (upd f j.toNatClampNeg v))))) cb sb)) ∧
  (∀ (r : List Value), j_go (jmt 100) post cut (n + 1) 189 ls r w cb sb ↔ g_ld ls[0]? (fun v => t_a v ∧ j_k (jmt 100) post cut n 190 ls (v :: r) w cb sb)) ∧
  (∀ (r : List Value) (a : Nat), j_go (jmt 100) post cut (n + 1) 190 ls (.ref a :: r) w cb sb ↔ g_ob 8 (w a) (fun fs => g_v fs[23]? (fun v => j_k (jmt 100) post cut n 193 ls (v :: r) w cb sb))) ∧
  (∀ (r : List Value), j_go (jmt 100) post cut (n + 1) 193 ls r w cb sb ↔ g_ld ls[2]? (fun v => t_i v ∧ j_k (jmt 100) post cut n 194 ls (v :: r) w cb sb)) ∧
  (∀ (r : List Value), j_go (jmt 100) post cut (n + 1) 194 ls r w cb sb ↔ j_k (jmt 100) post cut n 195 ls (.int (Int32.ofInt 2) :: r) w cb sb) ∧
  (∀ (r : List Value) (x y : Int32), j_go (jmt 100) post cut (n + 1) 195 ls (.int y :: .int x :: r) w cb sb ↔ j_k (jmt 100) post cut n 196 ls (.int (x + y) :: r) w cb sb) ∧
  (∀ (r : List Value), j_go (jmt 100) post cut (n + 1) 196 ls r w cb sb ↔ g_ld ls[6]? (fun v => t_i v ∧ j_k (jmt 100) post cut n 198 ls (v :: r) w cb sb)) ∧
  (∀ (r : List Value) (a : Nat) (j v : Int32), j_go (jmt 100) post cut (n + 1) 198 ls (.int v :: .int j :: .ref a :: r) w cb sb ↔ g_ia 0 (w a) (fun m f => vp_in j m ∧ j_k (jmt 100) post cut n 199 ls r ((j_up w a (.inl (0, m, .inl (upd f j.toNatClampNeg v))))) cb sb)) ∧
  (∀ (r : List Value), j_go (jmt 100) post cut (n + 1) 199 ls r w cb sb ↔ j_k (jmt 100) post cut n 200 ls (.int (Int32.ofInt 0) :: r) w cb sb) ∧
  (∀ (r : List Value) (x : Int32), j_go (jmt 100) post cut (n + 1) 200 ls (.int x :: r) w cb sb ↔ j_ok1 ls 8 = true ∧ j_k (jmt 100) post cut n 202 (ls.set 8 (some (.int x))) r w cb sb) ∧
  (∀ (r : List Value), j_go (jmt 100) post cut (n + 1) 202 ls r w cb sb ↔ g_ld ls[6]? (fun v => t_i v ∧ j_k (jmt 100) post cut n 204 ls (v :: r) w cb sb)) ∧
  (∀ (r : List Value) (x : Int32), j_go (jmt 100) post cut (n + 1) 204 ls (.int x :: r) w cb sb ↔ j_ok1 ls 9 = true ∧ j_k (jmt 100) post cut n 206 (ls.set 9 (some (.int x))) r w cb sb) ∧
  (∀ (r : List Value), j_go (jmt 100) post cut (n + 1) 206 ls r w cb sb ↔ g_ld ls[9]? (fun v => t_i v ∧ j_k (jmt 100) post cut n 208 ls (v :: r) w cb sb)) ∧
  (∀ (r : List Value), j_go (jmt 100) post cut (n + 1) 208 ls r w cb sb ↔ g_ld ls[5]? (fun v => t_i v ∧ j_k (jmt 100) post cut n 210 ls (v :: r) w cb sb)) ∧
  (∀ (r : List Value) (a b : Int32), j_go (jmt 100) post cut (n + 1) 210 ls (.int b :: .int a :: r) w cb sb ↔ (b ≤ a → j_k (jmt 100) post cut n 280 ls r w cb sb) ∧ (¬ (b ≤ a) → j_k (jmt 100) post cut n 213 ls r w cb sb)) ∧
  (∀ (r : List Value), j_go (jmt 100) post cut (n + 1) 213 ls r w cb sb ↔ g_ld ls[5]? (fun v => t_i v ∧ j_k (jmt 100) post cut n 215 ls (v :: r) w cb sb)) ∧
  (∀ (r : List Value), j_go (jmt 100) post cut (n + 1) 215 ls r w cb sb ↔ g_ld ls[9]? (fun v => t_i v ∧ j_k (jmt 100) post cut n 217 ls (v :: r) w cb sb)) ∧
  (∀ (r : List Value) (x y : Int32), j_go (jmt 100) post cut (n + 1) 217 ls (.int y :: .int x :: r) w cb sb ↔ j_k (jmt 100) post cut n 218 ls (.int (x - y) :: r) w cb sb) ∧
  (∀ (r : List Value), j_go (jmt 100) post cut (n + 1) 218 ls r w cb sb ↔ g_ld ls[6]? (fun v => t_i v ∧ j_k (jmt 100) post cut n 220 ls (v :: r) w cb sb)) ∧
  (∀ (r : List Value) (a b : Int32), j_go (jmt 100) post cut (n + 1) 220 ls (.int b :: .int a :: r) w cb sb ↔ (b ≤ a → j_k (jmt 100) post cut n 231 ls r w cb sb) ∧ (¬ (b ≤ a) → j_k (jmt 100) post cut n 223 ls r w cb sb)) ∧
  (∀ (r : List Value), j_go (jmt 100) post cut (n + 1) 223 ls r w cb sb ↔ g_ld ls[5]? (fun v => t_i v ∧ j_k (jmt 100) post cut n 225 ls (v :: r) w cb sb)) ∧
  (∀ (r : List Value), j_go (jmt 100) post cut (n + 1) 225 ls r w cb sb ↔ g_ld ls[9]? (fun v => t_i v ∧ j_k (jmt 100) post cut n 227 ls (v :: r) w cb sb)) ∧
  (∀ (r : List Value) (x y : Int32), j_go (jmt 100) post cut (n + 1) 227 ls (.int y :: .int x :: r) w cb sb ↔ j_k (jmt 100) post cut n 228 ls (.int (x - y) :: r) w cb sb) ∧
  (∀ (r : List Value), j_go (jmt 100) post cut (n + 1) 228 ls r w cb sb ↔ j_k (jmt 100) post cut n 233 ls r w cb sb) ∧
  (∀ (r : List Value), j_go (jmt 100) post cut (n + 1) 231 ls r w cb sb ↔ g_ld ls[6]? (fun v => t_i v ∧ j_k (jmt 100) post cut n 233 ls (v :: r) w cb sb)) ∧
  (∀ (r : List Value) (x : Int32), j_go (jmt 100) post cut (n + 1) 233 ls (.int x :: r) w cb sb ↔ j_ok1 ls 10 = true ∧ j_k (jmt 100) post cut n 235 (ls.set 10 (some (.int x))) r w cb sb) ∧
  (∀ (r : List Value), j_go (jmt 100) post cut (n + 1) 235 ls r w cb sb ↔ g_ld ls[0]? (fun v => t_a v ∧ j_k (jmt 100) post cut n 236 ls (v :: r) w cb sb)) ∧
  (∀ (r : List Value), j_go (jmt 100) post cut (n + 1) 236 ls r w cb sb ↔ g_ld ls[0]? (fun v => t_a v ∧ j_k (jmt 100) post cut n 237 ls (v :: r) w cb sb)) ∧
  (∀ (r : List Value) (a : Nat), j_go (jmt 100) post cut (n + 1) 237 ls (.ref a :: r) w cb sb ↔ g_ob 8 (w a) (fun fs => g_v fs[23]? (fun v => j_k (jmt 100) post cut n 240 ls (v :: r) w cb sb))) ∧
  (∀ (r : List Value), j_go (jmt 100) post cut (n + 1) 240 ls r w cb sb ↔ g_ld ls[2]? (fun v => t_i v ∧ j_k (jmt 100) post cut n 241 ls (v :: r) w cb sb)) ∧
  (∀ (r : List Value) (a : Nat) (j : Int32), j_go (jmt 100) post cut (n + 1) 241 ls (.int j :: .ref a :: r) w cb sb ↔ g_ia 0 (w a) (fun m f => vp_in j m ∧ j_k (jmt 100) post cut n 242 ls (.int (f j.toNatClampNeg) :: r) w cb sb)) ∧
  (∀ (r : List Value), j_go (jmt 100) post cut (n + 1) 242 ls r w cb sb ↔ g_ld ls[0]? (fun v => t_a v ∧ j_k (jmt 100) post cut n 243 ls (v :: r) w cb sb)) ∧
  (∀ (r : List Value) (a : Nat), j_go (jmt 100) post cut (n + 1) 243 ls (.ref a :: r) w cb sb ↔ g_ob 8 (w a) (fun fs => g_v fs[23]? (fun v => j_k (jmt 100) post cut n 246 ls (v :: r) w cb sb))) ∧
  (∀ (r : List Value), j_go (jmt 100) post cut (n + 1) 246 ls r w cb sb ↔ g_ld ls[2]? (fun v => t_i v ∧ j_k (jmt 100) post cut n 247 ls (v :: r) w cb sb)) ∧
  (∀ (r : List Value), j_go (jmt 100) post cut (n + 1) 247 ls r w cb sb ↔ j_k (jmt 100) post cut n 248 ls (.int (Int32.ofInt 1) :: r) w cb sb) ∧
  (∀ (r : List Value) (x y : Int32), j_go (jmt 100) post cut (n + 1) 248 ls (.int y :: .int x :: r) w cb sb ↔ j_k (jmt 100) post cut n 249 ls (.int (x + y) :: r) w cb sb) ∧
  (∀ (r : List Value) (a : Nat) (j : Int32), j_go (jmt 100) post cut (n + 1) 249 ls (.int j :: .ref a :: r) w cb sb ↔ g_ia 0 (w a) (fun m f => vp_in j m ∧ j_k (jmt 100) post cut n 250 ls (.int (f j.toNatClampNeg) :: r) w cb sb)) ∧
  (∀ (r : List Value), j_go (jmt 100) post cut (n + 1) 250 ls r w cb sb ↔ g_ld ls[9]? (fun v => t_i v ∧ j_k (jmt 100) post cut n 252 ls (v :: r) w cb sb)) ∧
  (∀ (r : List Value) (x y : Int32), j_go (jmt 100) post cut (n + 1) 252 ls (.int y :: .int x :: r) w cb sb ↔ j_k (jmt 100) post cut n 253 ls (.int (x + y) :: r) w cb sb) ∧
  (∀ (r : List Value), j_go (jmt 100) post cut (n + 1) 253 ls r w cb sb ↔ g_ld ls[10]? (fun v => t_i v ∧ j_k (jmt 100) post cut n 255 ls (v :: r) w cb sb)) ∧
  (∀ (r : List Value), j_go (jmt 100) post cut (n + 1) 255 ls r w cb sb ↔ g_ld ls[0]? (fun v => t_a v ∧ j_k (jmt 100) post cut n 256 ls (v :: r) w cb sb)) ∧
  (∀ (r : List Value) (a : Nat), j_go (jmt 100) post cut (n + 1) 256 ls (.ref a :: r) w cb sb ↔ g_ob 8 (w a) (fun fs => g_v fs[23]? (fun v => j_k (jmt 100) post cut n 259 ls (v :: r) w cb sb))) ∧
  (∀ (r : List Value), j_go (jmt 100) post cut (n + 1) 259 ls r w cb sb ↔ g_ld ls[2]? (fun v => t_i v ∧ j_k (jmt 100) post cut n 260 ls (v :: r) w cb sb)) ∧
  (∀ (r : List Value), j_go (jmt 100) post cut (n + 1) 260 ls r w cb sb ↔ j_k (jmt 100) post cut n 261 ls (.int (Int32.ofInt 3) :: r) w cb sb) ∧
  (∀ (r : List Value) (x y : Int32), j_go (jmt 100) post cut (n + 1) 261 ls (.int y :: .int x :: r) w cb sb ↔ j_k (jmt 100) post cut n 262 ls (.int (x + y) :: r) w cb sb) ∧
  (∀ (r : List Value) (a : Nat) (j : Int32), j_go (jmt 100) post cut (n + 1) 262 ls (.int j :: .ref a :: r) w cb sb ↔ g_ia 0 (w a) (fun m f => vp_in j m ∧ j_k (jmt 100) post cut n 263 ls (.int (f j.toNatClampNeg) :: r) w cb sb)) ∧
  (∀ (r : List Value), j_go (jmt 100) post cut (n + 1) 263 ls r w cb sb ↔ g_ld ls[7]? (fun v => t_i v ∧ j_k (jmt 100) post cut n 265 ls (v :: r) w cb sb)) ∧
  (∀ (r : List Value) (a0 a1 a2 a3 a4 : Value) (b : Nat), j_go (jmt 100) post cut (n + 1) 265 ls (a4 :: a3 :: a2 :: a1 :: a0 :: .ref b :: r) w cb sb ↔ g_ob 8 (w b) (fun _ => True) ∧ j_w8 r ∧ g_call (jmt 99) [.ref b, a0, a1, a2, a3, a4] w cb sb (fun v w' c s => j_k (jmt 100) post cut n 268 ls (v.toList ++ r) w' c s)) ∧
  (∀ (r : List Value) (x : Int32), j_go (jmt 100) post cut (n + 1) 268 ls (.int x :: r) w cb sb ↔ j_ok1 ls 8 = true ∧ j_k (jmt 100) post cut n 270 (ls.set 8 (some (.int x))) r w cb sb) ∧
  (∀ (r : List Value), j_go (jmt 100) post cut (n + 1) 270 ls r w cb sb ↔ g_ld ls[9]? (fun v => t_i v ∧ j_k (jmt 100) post cut n 272 ls (v :: r) w cb sb)) ∧
  (∀ (r : List Value), j_go (jmt 100) post cut (n + 1) 272 ls r w cb sb ↔ g_ld ls[6]? (fun v => t_i v ∧ j_k (jmt 100) post cut n 274 ls (v :: r) w cb sb)) ∧
  (∀ (r : List Value) (x y : Int32), j_go (jmt 100) post cut (n + 1) 274 ls (.int y :: .int x :: r) w cb sb ↔ j_k (jmt 100) post cut n 275 ls (.int (x + y) :: r) w cb sb) ∧
  (∀ (r : List Value) (x : Int32), j_go (jmt 100) post cut (n + 1) 275 ls (.int x :: r) w cb sb ↔ j_ok1 ls 9 = true ∧ j_k (jmt 100) post cut n 277 (ls.set 9 (some (.int x))) r w cb sb) ∧
  (∀ (r : List Value), j_go (jmt 100) post cut (n + 1) 277 ls r w cb sb ↔ j_k (jmt 100) post cut n 206 ls r w cb sb) ∧
  (∀ (r : List Value), j_go (jmt 100) post cut (n + 1) 280 ls r w cb sb ↔ j_k (jmt 100) post cut n 281 ls (.int (Int32.ofInt 0) :: r) w cb sb) ∧
  (∀ (a : Int32), j_go (jmt 100) post cut (n + 1) 281 ls [.int a] w cb sb ↔ narrow .int (.int a) = .int a ∧ post (some (.int a)) w) := ⟨fun _ => (j_go_s rfl).trans e_aload_n,
  fun _ => (j_go_s rfl).trans e_iload_n,
  fun _ _ _ => (j_go_s rfl).trans e_callv,
  fun _ _ => (j_go_s rfl).trans e_if,
  fun _ => (j_go_s rfl).trans e_iconst,
  fun _ => (j_go_s rfl).trans e_iret,
  fun _ => (j_go_s rfl).trans e_bipush,
  fun _ => (j_go_s rfl).trans e_iload_n,
  fun _ _ _ => (j_go_s rfl).trans e_imul,
  fun _ _ => (j_go_s rfl).trans e_istore_n,
  fun _ => (j_go_s rfl).trans e_aload_n,
  fun _ => (j_go_s rfl).trans e_aload_n,
  fun _ _ => (j_go_s rfl).trans e_getf,
  fun _ => (j_go_s rfl).trans e_iload_n,
  fun _ => (j_go_s rfl).trans e_iconst,
  fun _ _ _ => (j_go_s rfl).trans e_iadd,
  fun _ _ _ => (j_go_s rfl).trans e_iald,
  fun _ => (j_go_s rfl).trans e_aload_n,
  fun _ _ => (j_go_s rfl).trans e_getf,
  fun _ => (j_go_s rfl).trans e_aload_n,
  fun _ _ => (j_go_s rfl).trans e_getf,
  fun _ => (j_go_s rfl).trans e_iload_n,
  fun _ _ _ => (j_go_s rfl).trans e_iald,
  fun _ _ _ => (j_go_s rfl).trans e_iald,
  fun _ _ _ _ => (j_go_s rfl).trans e_callv,
  fun _ _ => (j_go_s rfl).trans e_istore_n,
  fun _ => (j_go_s rfl).trans e_aload_n,
  fun _ => (j_go_s rfl).trans e_iload_n,
  fun _ => (j_go_s rfl).trans e_iload_n,
  fun _ _ _ _ => (j_go_s rfl).trans e_callv,
  fun _ _ => (j_go_s rfl).trans e_istore,
  fun _ => (j_go_s rfl).trans e_iload,
  fun _ _ => (j_go_s rfl).trans e_if,
  fun _ => (j_go_s rfl).trans e_aload_n,
  fun _ _ => (j_go_s rfl).trans e_getf,
  fun _ => (j_go_s rfl).trans e_iload_n,
  fun _ => (j_go_s rfl).trans e_iconst,
  fun _ _ _ => (j_go_s rfl).trans e_iadd,
  fun _ => (j_go_s rfl).trans e_iload,
  fun _ _ _ _ => (j_go_s rfl).trans e_iast,
  fun _ => (j_go_s rfl).trans e_iload,
  fun _ => (j_go_s rfl).trans e_iret,
  fun _ => (j_go_s rfl).trans e_aload_n,
  fun _ _ => (j_go_s rfl).trans e_getf,
  fun _ => (j_go_s rfl).trans e_iload_n,
  fun _ => (j_go_s rfl).trans e_iconst,
  fun _ _ _ => (j_go_s rfl).trans e_iadd,
  fun _ _ _ => (j_go_s rfl).trans e_iald,
  fun _ _ => (j_go_s rfl).trans e_istore,
  fun _ => (j_go_s rfl).trans e_aload_n,
  fun _ _ => (j_go_s rfl).trans e_getf,
  fun _ => (j_go_s rfl).trans e_iload_n,
  fun _ _ _ => (j_go_s rfl).trans e_iald,
  fun _ => (j_go_s rfl).trans e_iload,
  fun _ _ _ => (j_go_s rfl).trans e_icmp,
  fun _ => (j_go_s rfl).trans e_aload_n,
  fun _ _ => (j_go_s rfl).trans e_getf,
  fun _ => (j_go_s rfl).trans e_iload_n,
  fun _ _ _ => (j_go_s rfl).trans e_iald,
  fun _ => (j_go_s rfl).trans e_bipush,
  fun _ _ _ => (j_go_s rfl).trans e_idiv,
  fun _ => (j_go_s rfl).trans e_bipush,
  fun _ _ _ => (j_go_s rfl).trans e_imul,
  fun _ => (j_go_s rfl).trans e_goto,
  fun _ => (j_go_s rfl).trans e_iload,
  fun _ _ => (j_go_s rfl).trans e_istore,
  fun _ => (j_go_s rfl).trans e_aload_n,
  fun _ _ => (j_go_s rfl).trans e_getf,
  fun _ => (j_go_s rfl).trans e_iload,
  fun _ => (j_go_s rfl).trans e_iconst,
  fun _ _ _ => (j_go_s rfl).trans e_isub,
  fun _ => (j_go_s rfl).trans e_iload,
  fun _ _ _ => (j_go_s rfl).trans e_idiv,
  fun _ _ _ => (j_go_s rfl).trans e_iadd,
  fun _ => (j_go_s rfl).trans e_bipush,
  fun _ _ _ => (j_go_s rfl).trans e_icmp,
  fun _ => (j_go_s rfl).trans e_bipush,
  fun _ => (j_go_s rfl).trans e_iret,
  fun _ => (j_go_s rfl).trans e_aload_n,
  fun _ _ => (j_go_s rfl).trans e_getf,
  fun _ => (j_go_s rfl).trans e_iconst,
  fun _ => (j_go_s rfl).trans e_iload_n,
  fun _ _ _ => (j_go_s rfl).trans e_imul,
  fun _ _ _ => (j_go_s rfl).trans e_iald,
  fun _ => (j_go_s rfl).trans e_aload_n,
  fun _ _ => (j_go_s rfl).trans e_getf,
  fun _ => (j_go_s rfl).trans e_iload_n,
  fun _ => (j_go_s rfl).trans e_iconst,
  fun _ _ _ => (j_go_s rfl).trans e_iadd,
  fun _ _ _ => (j_go_s rfl).trans e_iald,
  fun _ _ _ => (j_go_s rfl).trans e_icmp,
  fun _ => (j_go_s rfl).trans e_aload_n,
  fun _ _ => (j_go_s rfl).trans e_getf,
  fun _ => (j_go_s rfl).trans e_iconst,
  fun _ => (j_go_s rfl).trans e_iload_n,
  fun _ _ _ => (j_go_s rfl).trans e_imul,
  fun _ => (j_go_s rfl).trans e_iconst,
  fun _ _ _ => (j_go_s rfl).trans e_iadd,
  fun _ _ _ => (j_go_s rfl).trans e_iald,
  fun _ => (j_go_s rfl).trans e_goto,
  fun _ => (j_go_s rfl).trans e_aload_n,
  fun _ _ => (j_go_s rfl).trans e_getf,
  fun _ => (j_go_s rfl).trans e_iconst,
  fun _ => (j_go_s rfl).trans e_iload_n,
  fun _ _ _ => (j_go_s rfl).trans e_imul,
  fun _ _ _ => (j_go_s rfl).trans e_iald,
  fun _ _ => (j_go_s rfl).trans e_istore,
  fun _ => (j_go_s rfl).trans e_aload_n,
  fun _ _ => (j_go_s rfl).trans e_getf,
  fun _ => (j_go_s rfl).trans e_iload_n,
  fun _ => (j_go_s rfl).trans e_iconst,
  fun _ _ _ => (j_go_s rfl).trans e_iadd,
  fun _ _ _ => (j_go_s rfl).trans e_dup2,
  fun _ _ _ => (j_go_s rfl).trans e_iald,
  fun _ => (j_go_s rfl).trans e_iconst,
  fun _ _ _ => (j_go_s rfl).trans e_isub,
  fun _ _ _ _ => (j_go_s rfl).trans e_iast,
  fun _ => (j_go_s rfl).trans e_aload_n,
  fun _ _ => (j_go_s rfl).trans e_getf,
  fun _ => (j_go_s rfl).trans e_iload_n,
  fun _ => (j_go_s rfl).trans e_iconst,
  fun _ _ _ => (j_go_s rfl).trans e_iadd,
  fun _ => (j_go_s rfl).trans e_iload,
  fun _ _ _ _ => (j_go_s rfl).trans e_iast,
  fun _ => (j_go_s rfl).trans e_aload_n,
  fun _ _ => (j_go_s rfl).trans e_getf,
  fun _ => (j_go_s rfl).trans e_iload_n,
  fun _ => (j_go_s rfl).trans e_iconst,
  fun _ _ _ => (j_go_s rfl).trans e_iadd,
  fun _ => (j_go_s rfl).trans e_iload,
  fun _ _ _ _ => (j_go_s rfl).trans e_iast,
  fun _ => (j_go_s rfl).trans e_iconst,
  fun _ _ => (j_go_s rfl).trans e_istore,
  fun _ => (j_go_s rfl).trans e_iload,
  fun _ _ => (j_go_s rfl).trans e_istore,
  fun _ => (j_go_s rfl).trans e_iload,
  fun _ => (j_go_s rfl).trans e_iload,
  fun _ _ _ => (j_go_s rfl).trans e_icmp,
  fun _ => (j_go_s rfl).trans e_iload,
  fun _ => (j_go_s rfl).trans e_iload,
  fun _ _ _ => (j_go_s rfl).trans e_isub,
  fun _ => (j_go_s rfl).trans e_iload,
  fun _ _ _ => (j_go_s rfl).trans e_icmp,
  fun _ => (j_go_s rfl).trans e_iload,
  fun _ => (j_go_s rfl).trans e_iload,
  fun _ _ _ => (j_go_s rfl).trans e_isub,
  fun _ => (j_go_s rfl).trans e_goto,
  fun _ => (j_go_s rfl).trans e_iload,
  fun _ _ => (j_go_s rfl).trans e_istore,
  fun _ => (j_go_s rfl).trans e_aload_n,
  fun _ => (j_go_s rfl).trans e_aload_n,
  fun _ _ => (j_go_s rfl).trans e_getf,
  fun _ => (j_go_s rfl).trans e_iload_n,
  fun _ _ _ => (j_go_s rfl).trans e_iald,
  fun _ => (j_go_s rfl).trans e_aload_n,
  fun _ _ => (j_go_s rfl).trans e_getf,
  fun _ => (j_go_s rfl).trans e_iload_n,
  fun _ => (j_go_s rfl).trans e_iconst,
  fun _ _ _ => (j_go_s rfl).trans e_iadd,
  fun _ _ _ => (j_go_s rfl).trans e_iald,
  fun _ => (j_go_s rfl).trans e_iload,
  fun _ _ _ => (j_go_s rfl).trans e_iadd,
  fun _ => (j_go_s rfl).trans e_iload,
  fun _ => (j_go_s rfl).trans e_aload_n,
  fun _ _ => (j_go_s rfl).trans e_getf,
  fun _ => (j_go_s rfl).trans e_iload_n,
  fun _ => (j_go_s rfl).trans e_iconst,
  fun _ _ _ => (j_go_s rfl).trans e_iadd,
  fun _ _ _ => (j_go_s rfl).trans e_iald,
  fun _ => (j_go_s rfl).trans e_iload,
  fun _ _ _ _ _ _ _ => (j_go_s rfl).trans e_callv,
  fun _ _ => (j_go_s rfl).trans e_istore,
  fun _ => (j_go_s rfl).trans e_iload,
  fun _ => (j_go_s rfl).trans e_iload,
  fun _ _ _ => (j_go_s rfl).trans e_iadd,
  fun _ _ => (j_go_s rfl).trans e_istore,
  fun _ => (j_go_s rfl).trans e_goto,
  fun _ => (j_go_s rfl).trans e_iconst,
  fun _ => (j_go_s rfl).trans e_iret⟩
set_option maxRecDepth 100000 in
set_option maxHeartbeats 4000000 in
theorem st_Ref_still {post : Option Value → jW → Prop} {cut : List Nat} {n : Nat} {ls : jL} {w : jW} {cb sb : Nat} : (∀ (r : List Value), j_go (jmt 101) post cut (n + 1) 0 ls r w cb sb ↔ g_ld ls[1]? (fun v => t_i v ∧ j_k (jmt 101) post cut n 1 ls (v :: r) w cb sb)) ∧
  (∀ (r : List Value), j_go (jmt 101) post cut (n + 1) 1 ls r w cb sb ↔ j_k (jmt 101) post cut n 2 ls (.int (Int32.ofInt 1) :: r) w cb sb) ∧
  (∀ (r : List Value), j_go (jmt 101) post cut (n + 1) 2 ls r w cb sb ↔ g_ld ls[0]? (fun v => t_a v ∧ j_k (jmt 101) post cut n 3 ls (v :: r) w cb sb)) ∧
  (∀ (r : List Value) (a : Nat), j_go (jmt 101) post cut (n + 1) 3 ls (.ref a :: r) w cb sb ↔ g_ob 8 (w a) (fun fs => g_v fs[22]? (fun v => j_k (jmt 101) post cut n 6 ls (v :: r) w cb sb))) ∧
  (∀ (r : List Value) (a0 a1 a2 : Value), j_go (jmt 101) post cut (n + 1) 6 ls (a2 :: a1 :: a0 :: r) w cb sb ↔ j_w8 r ∧ g_call (jmt 82) [a0, a1, a2] w cb sb (fun v w' c s => j_k (jmt 101) post cut n 9 ls (v.toList ++ r) w' c s)) ∧
  (∀ (r : List Value) (a : Int32), j_go (jmt 101) post cut (n + 1) 9 ls (.int a :: r) w cb sb ↔ (a = 0 → j_k (jmt 101) post cut n 26 ls r w cb sb) ∧ (¬ (a = 0) → j_k (jmt 101) post cut n 12 ls r w cb sb)) ∧
  (∀ (r : List Value), j_go (jmt 101) post cut (n + 1) 12 ls r w cb sb ↔ g_ld ls[0]? (fun v => t_a v ∧ j_k (jmt 101) post cut n 13 ls (v :: r) w cb sb)) ∧
  (∀ (r : List Value) (a : Nat), j_go (jmt 101) post cut (n + 1) 13 ls (.ref a :: r) w cb sb ↔ g_ob 8 (w a) (fun fs => g_v fs[23]? (fun v => j_k (jmt 101) post cut n 16 ls (v :: r) w cb sb))) ∧
  (∀ (r : List Value), j_go (jmt 101) post cut (n + 1) 16 ls r w cb sb ↔ j_k (jmt 101) post cut n 18 ls (.int (Int8.ofInt 6).toInt32 :: r) w cb sb) ∧
  (∀ (r : List Value), j_go (jmt 101) post cut (n + 1) 18 ls r w cb sb ↔ g_ld ls[1]? (fun v => t_i v ∧ j_k (jmt 101) post cut n 19 ls (v :: r) w cb sb)) ∧
  (∀ (r : List Value) (x y : Int32), j_go (jmt 101) post cut (n + 1) 19 ls (.int y :: .int x :: r) w cb sb ↔ j_k (jmt 101) post cut n 20 ls (.int (x * y) :: r) w cb sb) ∧
  (∀ (r : List Value), j_go (jmt 101) post cut (n + 1) 20 ls r w cb sb ↔ j_k (jmt 101) post cut n 21 ls (.int (Int32.ofInt 5) :: r) w cb sb) ∧
  (∀ (r : List Value) (x y : Int32), j_go (jmt 101) post cut (n + 1) 21 ls (.int y :: .int x :: r) w cb sb ↔ j_k (jmt 101) post cut n 22 ls (.int (x + y) :: r) w cb sb) ∧
  (∀ (r : List Value) (a : Nat) (j : Int32), j_go (jmt 101) post cut (n + 1) 22 ls (.int j :: .ref a :: r) w cb sb ↔ g_ia 0 (w a) (fun m f => vp_in j m ∧ j_k (jmt 101) post cut n 23 ls (.int (f j.toNatClampNeg) :: r) w cb sb)) ∧
  (∀ (r : List Value) (a : Int32), j_go (jmt 101) post cut (n + 1) 23 ls (.int a :: r) w cb sb ↔ (a = 0 → j_k (jmt 101) post cut n 30 ls r w cb sb) ∧ (¬ (a = 0) → j_k (jmt 101) post cut n 26 ls r w cb sb)) ∧
  (∀ (r : List Value), j_go (jmt 101) post cut (n + 1) 26 ls r w cb sb ↔ j_k (jmt 101) post cut n 27 ls (.int (Int32.ofInt 1) :: r) w cb sb) ∧
  (∀ (r : List Value), j_go (jmt 101) post cut (n + 1) 27 ls r w cb sb ↔ j_k (jmt 101) post cut n 31 ls r w cb sb) ∧
  (∀ (r : List Value), j_go (jmt 101) post cut (n + 1) 30 ls r w cb sb ↔ j_k (jmt 101) post cut n 31 ls (.int (Int32.ofInt 0) :: r) w cb sb) ∧
  (∀ (a : Int32), j_go (jmt 101) post cut (n + 1) 31 ls [.int a] w cb sb ↔ narrow .boolean (.int a) = .int a ∧ post (some (.int a)) w) := ⟨fun _ => (j_go_s rfl).trans e_iload_n,
  fun _ => (j_go_s rfl).trans e_iconst,
  fun _ => (j_go_s rfl).trans e_aload_n,
  fun _ _ => (j_go_s rfl).trans e_getf,
  fun _ _ _ _ => (j_go_s rfl).trans e_calls,
  fun _ _ => (j_go_s rfl).trans e_if,
  fun _ => (j_go_s rfl).trans e_aload_n,
  fun _ _ => (j_go_s rfl).trans e_getf,
  fun _ => (j_go_s rfl).trans e_bipush,
  fun _ => (j_go_s rfl).trans e_iload_n,
  fun _ _ _ => (j_go_s rfl).trans e_imul,
  fun _ => (j_go_s rfl).trans e_iconst,
  fun _ _ _ => (j_go_s rfl).trans e_iadd,
  fun _ _ _ => (j_go_s rfl).trans e_iald,
  fun _ _ => (j_go_s rfl).trans e_if,
  fun _ => (j_go_s rfl).trans e_iconst,
  fun _ => (j_go_s rfl).trans e_goto,
  fun _ => (j_go_s rfl).trans e_iconst,
  fun _ => (j_go_s rfl).trans e_iret⟩
set_option maxRecDepth 100000 in
set_option maxHeartbeats 4000000 in
theorem st_Ref_routeOf {post : Option Value → jW → Prop} {cut : List Nat} {n : Nat} {ls : jL} {w : jW} {cb sb : Nat} : (∀ (r : List Value), j_go (jmt 102) post cut (n + 1) 0 ls r w cb sb ↔ g_ld ls[0]? (fun v => t_a v ∧ j_k (jmt 102) post cut n 1 ls (v :: r) w cb sb)) ∧
  (∀ (r : List Value), j_go (jmt 102) post cut (n + 1) 1 ls r w cb sb ↔ g_ld ls[1]? (fun v => t_i v ∧ j_k (jmt 102) post cut n 2 ls (v :: r) w cb sb)) ∧
  (∀ (r : List Value), j_go (jmt 102) post cut (n + 1) 2 ls r w cb sb ↔ g_ld ls[2]? (fun v => t_i v ∧ j_k (jmt 102) post cut n 3 ls (v :: r) w cb sb)) ∧
  (∀ (r : List Value) (a0 a1 : Value) (b : Nat), j_go (jmt 102) post cut (n + 1) 3 ls (a1 :: a0 :: .ref b :: r) w cb sb ↔ g_ob 8 (w b) (fun _ => True) ∧ j_w8 r ∧ g_call (jmt 103) [.ref b, a0, a1] w cb sb (fun v w' c s => j_k (jmt 102) post cut n 6 ls (v.toList ++ r) w' c s)) ∧
  (∀ (r : List Value) (x : Int32), j_go (jmt 102) post cut (n + 1) 6 ls (.int x :: r) w cb sb ↔ j_ok1 ls 3 = true ∧ j_k (jmt 102) post cut n 7 (ls.set 3 (some (.int x))) r w cb sb) ∧
  (∀ (r : List Value), j_go (jmt 102) post cut (n + 1) 7 ls r w cb sb ↔ g_ld ls[3]? (fun v => t_i v ∧ j_k (jmt 102) post cut n 8 ls (v :: r) w cb sb)) ∧
  (∀ (r : List Value) (a : Int32), j_go (jmt 102) post cut (n + 1) 8 ls (.int a :: r) w cb sb ↔ (0 ≤ a → j_k (jmt 102) post cut n 14 ls r w cb sb) ∧ (¬ (0 ≤ a) → j_k (jmt 102) post cut n 11 ls r w cb sb)) ∧
  (∀ (r : List Value), j_go (jmt 102) post cut (n + 1) 11 ls r w cb sb ↔ j_k (jmt 102) post cut n 13 ls (.int (Int8.ofInt (-3)).toInt32 :: r) w cb sb) ∧
  (∀ (a : Int32), j_go (jmt 102) post cut (n + 1) 13 ls [.int a] w cb sb ↔ narrow .int (.int a) = .int a ∧ post (some (.int a)) w) ∧
  (∀ (r : List Value), j_go (jmt 102) post cut (n + 1) 14 ls r w cb sb ↔ g_ld ls[3]? (fun v => t_i v ∧ j_k (jmt 102) post cut n 15 ls (v :: r) w cb sb)) ∧
  (∀ (r : List Value), j_go (jmt 102) post cut (n + 1) 15 ls r w cb sb ↔ g_ld ls[1]? (fun v => t_i v ∧ j_k (jmt 102) post cut n 16 ls (v :: r) w cb sb)) ∧
  (∀ (r : List Value) (a b : Int32), j_go (jmt 102) post cut (n + 1) 16 ls (.int b :: .int a :: r) w cb sb ↔ (¬ a = b → j_k (jmt 102) post cut n 22 ls r w cb sb) ∧ (¬ (¬ a = b) → j_k (jmt 102) post cut n 19 ls r w cb sb)) ∧
  (∀ (r : List Value), j_go (jmt 102) post cut (n + 1) 19 ls r w cb sb ↔ j_k (jmt 102) post cut n 21 ls (.int (Int8.ofInt (-4)).toInt32 :: r) w cb sb) ∧
  (∀ (a : Int32), j_go (jmt 102) post cut (n + 1) 21 ls [.int a] w cb sb ↔ narrow .int (.int a) = .int a ∧ post (some (.int a)) w) ∧
  (∀ (r : List Value), j_go (jmt 102) post cut (n + 1) 22 ls r w cb sb ↔ g_ld ls[0]? (fun v => t_a v ∧ j_k (jmt 102) post cut n 23 ls (v :: r) w cb sb)) ∧
  (∀ (r : List Value), j_go (jmt 102) post cut (n + 1) 23 ls r w cb sb ↔ g_ld ls[1]? (fun v => t_i v ∧ j_k (jmt 102) post cut n 24 ls (v :: r) w cb sb)) ∧
  (∀ (r : List Value), j_go (jmt 102) post cut (n + 1) 24 ls r w cb sb ↔ g_ld ls[3]? (fun v => t_i v ∧ j_k (jmt 102) post cut n 25 ls (v :: r) w cb sb)) ∧
  (∀ (r : List Value) (a0 a1 : Value) (b : Nat), j_go (jmt 102) post cut (n + 1) 25 ls (a1 :: a0 :: .ref b :: r) w cb sb ↔ g_ob 8 (w b) (fun _ => True) ∧ j_w8 r ∧ g_call (jmt 104) [.ref b, a0, a1] w cb sb (fun v w' c s => j_k (jmt 102) post cut n 28 ls (v.toList ++ r) w' c s)) ∧
  (∀ (r : List Value), j_go (jmt 102) post cut (n + 1) 28 ls r w cb sb ↔ j_k (jmt 102) post cut n 29 ls (.int (Int32.ofInt 0) :: r) w cb sb) ∧
  (∀ (r : List Value) (x : Int32), j_go (jmt 102) post cut (n + 1) 29 ls (.int x :: r) w cb sb ↔ j_ok1 ls 4 = true ∧ j_k (jmt 102) post cut n 31 (ls.set 4 (some (.int x))) r w cb sb) ∧
  (∀ (r : List Value), j_go (jmt 102) post cut (n + 1) 31 ls r w cb sb ↔ g_ld ls[4]? (fun v => t_i v ∧ j_k (jmt 102) post cut n 33 ls (v :: r) w cb sb)) ∧
  (∀ (r : List Value), j_go (jmt 102) post cut (n + 1) 33 ls r w cb sb ↔ g_ld ls[0]? (fun v => t_a v ∧ j_k (jmt 102) post cut n 34 ls (v :: r) w cb sb)) ∧
  (∀ (r : List Value) (a : Nat), j_go (jmt 102) post cut (n + 1) 34 ls (.ref a :: r) w cb sb ↔ g_ob 8 (w a) (fun fs => g_v fs[1]? (fun v => j_k (jmt 102) post cut n 37 ls (v :: r) w cb sb))) ∧
  (∀ (r : List Value) (a b : Int32), j_go (jmt 102) post cut (n + 1) 37 ls (.int b :: .int a :: r) w cb sb ↔ (b ≤ a → j_k (jmt 102) post cut n 161 ls r w cb sb) ∧ (¬ (b ≤ a) → j_k (jmt 102) post cut n 40 ls r w cb sb)) ∧
  (∀ (r : List Value), j_go (jmt 102) post cut (n + 1) 40 ls r w cb sb ↔ g_ld ls[0]? (fun v => t_a v ∧ j_k (jmt 102) post cut n 41 ls (v :: r) w cb sb)) ∧
  (∀ (r : List Value) (a : Nat), j_go (jmt 102) post cut (n + 1) 41 ls (.ref a :: r) w cb sb ↔ g_ob 8 (w a) (fun fs => g_v fs[2]? (fun v => j_k (jmt 102) post cut n 44 ls (v :: r) w cb sb))) ∧
  (∀ (r : List Value), j_go (jmt 102) post cut (n + 1) 44 ls r w cb sb ↔ j_k (jmt 102) post cut n 45 ls (.int (Int32.ofInt 2) :: r) w cb sb) ∧
  (∀ (r : List Value), j_go (jmt 102) post cut (n + 1) 45 ls r w cb sb ↔ g_ld ls[4]? (fun v => t_i v ∧ j_k (jmt 102) post cut n 47 ls (v :: r) w cb sb)) ∧
  (∀ (r : List Value) (x y : Int32), j_go (jmt 102) post cut (n + 1) 47 ls (.int y :: .int x :: r) w cb sb ↔ j_k (jmt 102) post cut n 48 ls (.int (x * y) :: r) w cb sb) ∧
  (∀ (r : List Value) (a : Nat) (j : Int32), j_go (jmt 102) post cut (n + 1) 48 ls (.int j :: .ref a :: r) w cb sb ↔ g_ia 0 (w a) (fun m f => vp_in j m ∧ j_k (jmt 102) post cut n 49 ls (.int (f j.toNatClampNeg) :: r) w cb sb)) ∧
  (∀ (r : List Value), j_go (jmt 102) post cut (n + 1) 49 ls r w cb sb ↔ g_ld ls[1]? (fun v => t_i v ∧ j_k (jmt 102) post cut n 50 ls (v :: r) w cb sb)) ∧
  (∀ (r : List Value) (a b : Int32), j_go (jmt 102) post cut (n + 1) 50 ls (.int b :: .int a :: r) w cb sb ↔ (¬ a = b → j_k (jmt 102) post cut n 67 ls r w cb sb) ∧ (¬ (¬ a = b) → j_k (jmt 102) post cut n 53 ls r w cb sb)) ∧
  (∀ (r : List Value), j_go (jmt 102) post cut (n + 1) 53 ls r w cb sb ↔ g_ld ls[0]? (fun v => t_a v ∧ j_k (jmt 102) post cut n 54 ls (v :: r) w cb sb)) ∧
  (∀ (r : List Value) (a : Nat), j_go (jmt 102) post cut (n + 1) 54 ls (.ref a :: r) w cb sb ↔ g_ob 8 (w a) (fun fs => g_v fs[2]? (fun v => j_k (jmt 102) post cut n 57 ls (v :: r) w cb sb))) ∧
  (∀ (r : List Value), j_go (jmt 102) post cut (n + 1) 57 ls r w cb sb ↔ j_k (jmt 102) post cut n 58 ls (.int (Int32.ofInt 2) :: r) w cb sb) ∧
  (∀ (r : List Value), j_go (jmt 102) post cut (n + 1) 58 ls r w cb sb ↔ g_ld ls[4]? (fun v => t_i v ∧ j_k (jmt 102) post cut n 60 ls (v :: r) w cb sb)) ∧
  (∀ (r : List Value) (x y : Int32), j_go (jmt 102) post cut (n + 1) 60 ls (.int y :: .int x :: r) w cb sb ↔ j_k (jmt 102) post cut n 61 ls (.int (x * y) :: r) w cb sb) ∧
  (∀ (r : List Value), j_go (jmt 102) post cut (n + 1) 61 ls r w cb sb ↔ j_k (jmt 102) post cut n 62 ls (.int (Int32.ofInt 1) :: r) w cb sb) ∧
  (∀ (r : List Value) (x y : Int32), j_go (jmt 102) post cut (n + 1) 62 ls (.int y :: .int x :: r) w cb sb ↔ j_k (jmt 102) post cut n 63 ls (.int (x + y) :: r) w cb sb) ∧
  (∀ (r : List Value) (a : Nat) (j : Int32), j_go (jmt 102) post cut (n + 1) 63 ls (.int j :: .ref a :: r) w cb sb ↔ g_ia 0 (w a) (fun m f => vp_in j m ∧ j_k (jmt 102) post cut n 64 ls (.int (f j.toNatClampNeg) :: r) w cb sb)) ∧
  (∀ (r : List Value), j_go (jmt 102) post cut (n + 1) 64 ls r w cb sb ↔ j_k (jmt 102) post cut n 76 ls r w cb sb) ∧
  (∀ (r : List Value), j_go (jmt 102) post cut (n + 1) 67 ls r w cb sb ↔ g_ld ls[0]? (fun v => t_a v ∧ j_k (jmt 102) post cut n 68 ls (v :: r) w cb sb)) ∧
  (∀ (r : List Value) (a : Nat), j_go (jmt 102) post cut (n + 1) 68 ls (.ref a :: r) w cb sb ↔ g_ob 8 (w a) (fun fs => g_v fs[2]? (fun v => j_k (jmt 102) post cut n 71 ls (v :: r) w cb sb))) ∧
  (∀ (r : List Value), j_go (jmt 102) post cut (n + 1) 71 ls r w cb sb ↔ j_k (jmt 102) post cut n 72 ls (.int (Int32.ofInt 2) :: r) w cb sb) ∧
  (∀ (r : List Value), j_go (jmt 102) post cut (n + 1) 72 ls r w cb sb ↔ g_ld ls[4]? (fun v => t_i v ∧ j_k (jmt 102) post cut n 74 ls (v :: r) w cb sb)) ∧
  (∀ (r : List Value) (x y : Int32), j_go (jmt 102) post cut (n + 1) 74 ls (.int y :: .int x :: r) w cb sb ↔ j_k (jmt 102) post cut n 75 ls (.int (x * y) :: r) w cb sb) ∧
  (∀ (r : List Value) (a : Nat) (j : Int32), j_go (jmt 102) post cut (n + 1) 75 ls (.int j :: .ref a :: r) w cb sb ↔ g_ia 0 (w a) (fun m f => vp_in j m ∧ j_k (jmt 102) post cut n 76 ls (.int (f j.toNatClampNeg) :: r) w cb sb)) ∧
  (∀ (r : List Value) (x : Int32), j_go (jmt 102) post cut (n + 1) 76 ls (.int x :: r) w cb sb ↔ j_ok1 ls 5 = true ∧ j_k (jmt 102) post cut n 78 (ls.set 5 (some (.int x))) r w cb sb) ∧
  (∀ (r : List Value), j_go (jmt 102) post cut (n + 1) 78 ls r w cb sb ↔ g_ld ls[0]? (fun v => t_a v ∧ j_k (jmt 102) post cut n 79 ls (v :: r) w cb sb)) ∧
  (∀ (r : List Value) (a : Nat), j_go (jmt 102) post cut (n + 1) 79 ls (.ref a :: r) w cb sb ↔ g_ob 8 (w a) (fun fs => g_v fs[2]? (fun v => j_k (jmt 102) post cut n 82 ls (v :: r) w cb sb))) ∧
  (∀ (r : List Value), j_go (jmt 102) post cut (n + 1) 82 ls r w cb sb ↔ j_k (jmt 102) post cut n 83 ls (.int (Int32.ofInt 2) :: r) w cb sb) ∧
  (∀ (r : List Value), j_go (jmt 102) post cut (n + 1) 83 ls r w cb sb ↔ g_ld ls[4]? (fun v => t_i v ∧ j_k (jmt 102) post cut n 85 ls (v :: r) w cb sb)) ∧
  (∀ (r : List Value) (x y : Int32), j_go (jmt 102) post cut (n + 1) 85 ls (.int y :: .int x :: r) w cb sb ↔ j_k (jmt 102) post cut n 86 ls (.int (x * y) :: r) w cb sb) ∧
  (∀ (r : List Value) (a : Nat) (j : Int32), j_go (jmt 102) post cut (n + 1) 86 ls (.int j :: .ref a :: r) w cb sb ↔ g_ia 0 (w a) (fun m f => vp_in j m ∧ j_k (jmt 102) post cut n 87 ls (.int (f j.toNatClampNeg) :: r) w cb sb)) ∧
  (∀ (r : List Value), j_go (jmt 102) post cut (n + 1) 87 ls r w cb sb ↔ g_ld ls[1]? (fun v => t_i v ∧ j_k (jmt 102) post cut n 88 ls (v :: r) w cb sb)) ∧
  (∀ (r : List Value) (a b : Int32), j_go (jmt 102) post cut (n + 1) 88 ls (.int b :: .int a :: r) w cb sb ↔ (a = b → j_k (jmt 102) post cut n 106 ls r w cb sb) ∧ (¬ (a = b) → j_k (jmt 102) post cut n 91 ls r w cb sb)) ∧
  (∀ (r : List Value), j_go (jmt 102) post cut (n + 1) 91 ls r w cb sb ↔ g_ld ls[0]? (fun v => t_a v ∧ j_k (jmt 102) post cut n 92 ls (v :: r) w cb sb)) ∧
  (∀ (r : List Value) (a : Nat), j_go (jmt 102) post cut (n + 1) 92 ls (.ref a :: r) w cb sb ↔ g_ob 8 (w a) (fun fs => g_v fs[2]? (fun v => j_k (jmt 102) post cut n 95 ls (v :: r) w cb sb))) ∧
  (∀ (r : List Value), j_go (jmt 102) post cut (n + 1) 95 ls r w cb sb ↔ j_k (jmt 102) post cut n 96 ls (.int (Int32.ofInt 2) :: r) w cb sb) ∧
  (∀ (r : List Value), j_go (jmt 102) post cut (n + 1) 96 ls r w cb sb ↔ g_ld ls[4]? (fun v => t_i v ∧ j_k (jmt 102) post cut n 98 ls (v :: r) w cb sb)) ∧
  (∀ (r : List Value) (x y : Int32), j_go (jmt 102) post cut (n + 1) 98 ls (.int y :: .int x :: r) w cb sb ↔ j_k (jmt 102) post cut n 99 ls (.int (x * y) :: r) w cb sb) ∧
  (∀ (r : List Value), j_go (jmt 102) post cut (n + 1) 99 ls r w cb sb ↔ j_k (jmt 102) post cut n 100 ls (.int (Int32.ofInt 1) :: r) w cb sb) ∧
  (∀ (r : List Value) (x y : Int32), j_go (jmt 102) post cut (n + 1) 100 ls (.int y :: .int x :: r) w cb sb ↔ j_k (jmt 102) post cut n 101 ls (.int (x + y) :: r) w cb sb) ∧
  (∀ (r : List Value) (a : Nat) (j : Int32), j_go (jmt 102) post cut (n + 1) 101 ls (.int j :: .ref a :: r) w cb sb ↔ g_ia 0 (w a) (fun m f => vp_in j m ∧ j_k (jmt 102) post cut n 102 ls (.int (f j.toNatClampNeg) :: r) w cb sb)) ∧
  (∀ (r : List Value), j_go (jmt 102) post cut (n + 1) 102 ls r w cb sb ↔ g_ld ls[1]? (fun v => t_i v ∧ j_k (jmt 102) post cut n 103 ls (v :: r) w cb sb)) ∧
  (∀ (r : List Value) (a b : Int32), j_go (jmt 102) post cut (n + 1) 103 ls (.int b :: .int a :: r) w cb sb ↔ (¬ a = b → j_k (jmt 102) post cut n 110 ls r w cb sb) ∧ (¬ (¬ a = b) → j_k (jmt 102) post cut n 106 ls r w cb sb)) ∧
  (∀ (r : List Value), j_go (jmt 102) post cut (n + 1) 106 ls r w cb sb ↔ j_k (jmt 102) post cut n 107 ls (.int (Int32.ofInt 1) :: r) w cb sb) ∧
  (∀ (r : List Value), j_go (jmt 102) post cut (n + 1) 107 ls r w cb sb ↔ j_k (jmt 102) post cut n 111 ls r w cb sb) ∧
  (∀ (r : List Value), j_go (jmt 102) post cut (n + 1) 110 ls r w cb sb ↔ j_k (jmt 102) post cut n 111 ls (.int (Int32.ofInt 0) :: r) w cb sb) ∧
  (∀ (r : List Value) (x : Int32), j_go (jmt 102) post cut (n + 1) 111 ls (.int x :: r) w cb sb ↔ j_ok1 ls 6 = true ∧ j_k (jmt 102) post cut n 113 (ls.set 6 (some (.int x))) r w cb sb) ∧
  (∀ (r : List Value), j_go (jmt 102) post cut (n + 1) 113 ls r w cb sb ↔ g_ld ls[6]? (fun v => t_i v ∧ j_k (jmt 102) post cut n 115 ls (v :: r) w cb sb)) ∧
  (∀ (r : List Value) (a : Int32), j_go (jmt 102) post cut (n + 1) 115 ls (.int a :: r) w cb sb ↔ (a = 0 → j_k (jmt 102) post cut n 155 ls r w cb sb) ∧ (¬ (a = 0) → j_k (jmt 102) post cut n 118 ls r w cb sb)) ∧
  (∀ (r : List Value), j_go (jmt 102) post cut (n + 1) 118 ls r w cb sb ↔ g_ld ls[0]? (fun v => t_a v ∧ j_k (jmt 102) post cut n 119 ls (v :: r) w cb sb)) ∧
  (∀ (r : List Value), j_go (jmt 102) post cut (n + 1) 119 ls r w cb sb ↔ g_ld ls[1]? (fun v => t_i v ∧ j_k (jmt 102) post cut n 120 ls (v :: r) w cb sb)) ∧
  (∀ (r : List Value), j_go (jmt 102) post cut (n + 1) 120 ls r w cb sb ↔ g_ld ls[4]? (fun v => t_i v ∧ j_k (jmt 102) post cut n 122 ls (v :: r) w cb sb)) ∧
  (∀ (r : List Value) (a0 a1 : Value) (b : Nat), j_go (jmt 102) post cut (n + 1) 122 ls (a1 :: a0 :: .ref b :: r) w cb sb ↔ g_ob 8 (w b) (fun _ => True) ∧ j_w8 r ∧ g_call (jmt 105) [.ref b, a0, a1] w cb sb (fun v w' c s => j_k (jmt 102) post cut n 125 ls (v.toList ++ r) w' c s)) ∧
  (∀ (r : List Value) (a : Int32), j_go (jmt 102) post cut (n + 1) 125 ls (.int a :: r) w cb sb ↔ (a = 0 → j_k (jmt 102) post cut n 155 ls r w cb sb) ∧ (¬ (a = 0) → j_k (jmt 102) post cut n 128 ls r w cb sb)) ∧
  (∀ (r : List Value), j_go (jmt 102) post cut (n + 1) 128 ls r w cb sb ↔ g_ld ls[0]? (fun v => t_a v ∧ j_k (jmt 102) post cut n 129 ls (v :: r) w cb sb)) ∧
  (∀ (r : List Value) (a : Nat), j_go (jmt 102) post cut (n + 1) 129 ls (.ref a :: r) w cb sb ↔ g_ob 8 (w a) (fun fs => g_v fs[3]? (fun v => j_k (jmt 102) post cut n 132 ls (v :: r) w cb sb))) ∧
  (∀ (r : List Value), j_go (jmt 102) post cut (n + 1) 132 ls r w cb sb ↔ g_ld ls[4]? (fun v => t_i v ∧ j_k (jmt 102) post cut n 134 ls (v :: r) w cb sb)) ∧
  (∀ (r : List Value) (a : Nat) (j : Int32), j_go (jmt 102) post cut (n + 1) 134 ls (.int j :: .ref a :: r) w cb sb ↔ g_ia 0 (w a) (fun m f => vp_in j m ∧ j_k (jmt 102) post cut n 135 ls (.int (f j.toNatClampNeg) :: r) w cb sb)) ∧
  (∀ (r : List Value), j_go (jmt 102) post cut (n + 1) 135 ls r w cb sb ↔ g_ld ls[0]? (fun v => t_a v ∧ j_k (jmt 102) post cut n 136 ls (v :: r) w cb sb)) ∧
  (∀ (r : List Value) (a : Nat), j_go (jmt 102) post cut (n + 1) 136 ls (.ref a :: r) w cb sb ↔ g_ob 8 (w a) (fun fs => g_v fs[24]? (fun v => j_k (jmt 102) post cut n 139 ls (v :: r) w cb sb))) ∧
  (∀ (r : List Value), j_go (jmt 102) post cut (n + 1) 139 ls r w cb sb ↔ g_ld ls[5]? (fun v => t_i v ∧ j_k (jmt 102) post cut n 141 ls (v :: r) w cb sb)) ∧
  (∀ (r : List Value) (a : Nat) (j : Int32), j_go (jmt 102) post cut (n + 1) 141 ls (.int j :: .ref a :: r) w cb sb ↔ g_ia 0 (w a) (fun m f => vp_in j m ∧ j_k (jmt 102) post cut n 142 ls (.int (f j.toNatClampNeg) :: r) w cb sb)) ∧
  (∀ (r : List Value) (x y : Int32), j_go (jmt 102) post cut (n + 1) 142 ls (.int y :: .int x :: r) w cb sb ↔ j_k (jmt 102) post cut n 143 ls (.int (x + y) :: r) w cb sb) ∧
  (∀ (r : List Value), j_go (jmt 102) post cut (n + 1) 143 ls r w cb sb ↔ g_ld ls[0]? (fun v => t_a v ∧ j_k (jmt 102) post cut n 144 ls (v :: r) w cb sb)) ∧
  (∀ (r : List Value) (a : Nat), j_go (jmt 102) post cut (n + 1) 144 ls (.ref a :: r) w cb sb ↔ g_ob 8 (w a) (fun fs => g_v fs[24]? (fun v => j_k (jmt 102) post cut n 147 ls (v :: r) w cb sb))) ∧
  (∀ (r : List Value), j_go (jmt 102) post cut (n + 1) 147 ls r w cb sb ↔ g_ld ls[1]? (fun v => t_i v ∧ j_k (jmt 102) post cut n 148 ls (v :: r) w cb sb)) ∧
  (∀ (r : List Value) (a : Nat) (j : Int32), j_go (jmt 102) post cut (n + 1) 148 ls (.int j :: .ref a :: r) w cb sb ↔ g_ia 0 (w a) (fun m f => vp_in j m ∧ j_k (jmt 102) post cut n 149 ls (.int (f j.toNatClampNeg) :: r) w cb sb)) ∧
  (∀ (r : List Value) (a b : Int32), j_go (jmt 102) post cut (n + 1) 149 ls (.int b :: .int a :: r) w cb sb ↔ (¬ a = b → j_k (jmt 102) post cut n 155 ls r w cb sb) ∧ (¬ (¬ a = b) → j_k (jmt 102) post cut n 152 ls r w cb sb)) ∧
  (∀ (r : List Value), j_go (jmt 102) post cut (n + 1) 152 ls r w cb sb ↔ g_ld ls[4]? (fun v => t_i v ∧ j_k (jmt 102) post cut n 154 ls (v :: r) w cb sb)) ∧
  (∀ (a : Int32), j_go (jmt 102) post cut (n + 1) 154 ls [.int a] w cb sb ↔ narrow .int (.int a) = .int a ∧ post (some (.int a)) w) ∧
  (∀ (r : List Value), j_go (jmt 102) post cut (n + 1) 155 ls r w cb sb ↔ g_ld ls[4]? (fun v => (match v with
      | .int x => j_ok1 ls 4 = true ∧ j_k (jmt 102) post cut n 158 (ls.set 4 (some (.int (x + Int32.ofInt 1)))) r w cb sb
      | _ => False))) ∧
  (∀ (r : List Value), j_go (jmt 102) post cut (n + 1) 158 ls r w cb sb ↔ j_k (jmt 102) post cut n 31 ls r w cb sb) ∧
  (∀ (r : List Value), j_go (jmt 102) post cut (n + 1) 161 ls r w cb sb ↔ j_k (jmt 102) post cut n 163 ls (.int (Int8.ofInt (-3)).toInt32 :: r) w cb sb) ∧
  (∀ (a : Int32), j_go (jmt 102) post cut (n + 1) 163 ls [.int a] w cb sb ↔ narrow .int (.int a) = .int a ∧ post (some (.int a)) w) := ⟨fun _ => (j_go_s rfl).trans e_aload_n,
  fun _ => (j_go_s rfl).trans e_iload_n,
  fun _ => (j_go_s rfl).trans e_iload_n,
  fun _ _ _ _ => (j_go_s rfl).trans e_callv,
  fun _ _ => (j_go_s rfl).trans e_istore_n,
  fun _ => (j_go_s rfl).trans e_iload_n,
  fun _ _ => (j_go_s rfl).trans e_if,
  fun _ => (j_go_s rfl).trans e_bipush,
  fun _ => (j_go_s rfl).trans e_iret,
  fun _ => (j_go_s rfl).trans e_iload_n,
  fun _ => (j_go_s rfl).trans e_iload_n,
  fun _ _ _ => (j_go_s rfl).trans e_icmp,
  fun _ => (j_go_s rfl).trans e_bipush,
  fun _ => (j_go_s rfl).trans e_iret,
  fun _ => (j_go_s rfl).trans e_aload_n,
  fun _ => (j_go_s rfl).trans e_iload_n,
  fun _ => (j_go_s rfl).trans e_iload_n,
  fun _ _ _ _ => (j_go_s rfl).trans e_callv,
  fun _ => (j_go_s rfl).trans e_iconst,
  fun _ _ => (j_go_s rfl).trans e_istore,
  fun _ => (j_go_s rfl).trans e_iload,
  fun _ => (j_go_s rfl).trans e_aload_n,
  fun _ _ => (j_go_s rfl).trans e_getf,
  fun _ _ _ => (j_go_s rfl).trans e_icmp,
  fun _ => (j_go_s rfl).trans e_aload_n,
  fun _ _ => (j_go_s rfl).trans e_getf,
  fun _ => (j_go_s rfl).trans e_iconst,
  fun _ => (j_go_s rfl).trans e_iload,
  fun _ _ _ => (j_go_s rfl).trans e_imul,
  fun _ _ _ => (j_go_s rfl).trans e_iald,
  fun _ => (j_go_s rfl).trans e_iload_n,
  fun _ _ _ => (j_go_s rfl).trans e_icmp,
  fun _ => (j_go_s rfl).trans e_aload_n,
  fun _ _ => (j_go_s rfl).trans e_getf,
  fun _ => (j_go_s rfl).trans e_iconst,
  fun _ => (j_go_s rfl).trans e_iload,
  fun _ _ _ => (j_go_s rfl).trans e_imul,
  fun _ => (j_go_s rfl).trans e_iconst,
  fun _ _ _ => (j_go_s rfl).trans e_iadd,
  fun _ _ _ => (j_go_s rfl).trans e_iald,
  fun _ => (j_go_s rfl).trans e_goto,
  fun _ => (j_go_s rfl).trans e_aload_n,
  fun _ _ => (j_go_s rfl).trans e_getf,
  fun _ => (j_go_s rfl).trans e_iconst,
  fun _ => (j_go_s rfl).trans e_iload,
  fun _ _ _ => (j_go_s rfl).trans e_imul,
  fun _ _ _ => (j_go_s rfl).trans e_iald,
  fun _ _ => (j_go_s rfl).trans e_istore,
  fun _ => (j_go_s rfl).trans e_aload_n,
  fun _ _ => (j_go_s rfl).trans e_getf,
  fun _ => (j_go_s rfl).trans e_iconst,
  fun _ => (j_go_s rfl).trans e_iload,
  fun _ _ _ => (j_go_s rfl).trans e_imul,
  fun _ _ _ => (j_go_s rfl).trans e_iald,
  fun _ => (j_go_s rfl).trans e_iload_n,
  fun _ _ _ => (j_go_s rfl).trans e_icmp,
  fun _ => (j_go_s rfl).trans e_aload_n,
  fun _ _ => (j_go_s rfl).trans e_getf,
  fun _ => (j_go_s rfl).trans e_iconst,
  fun _ => (j_go_s rfl).trans e_iload,
  fun _ _ _ => (j_go_s rfl).trans e_imul,
  fun _ => (j_go_s rfl).trans e_iconst,
  fun _ _ _ => (j_go_s rfl).trans e_iadd,
  fun _ _ _ => (j_go_s rfl).trans e_iald,
  fun _ => (j_go_s rfl).trans e_iload_n,
  fun _ _ _ => (j_go_s rfl).trans e_icmp,
  fun _ => (j_go_s rfl).trans e_iconst,
  fun _ => (j_go_s rfl).trans e_goto,
  fun _ => (j_go_s rfl).trans e_iconst,
  fun _ _ => (j_go_s rfl).trans e_istore,
  fun _ => (j_go_s rfl).trans e_iload,
  fun _ _ => (j_go_s rfl).trans e_if,
  fun _ => (j_go_s rfl).trans e_aload_n,
  fun _ => (j_go_s rfl).trans e_iload_n,
  fun _ => (j_go_s rfl).trans e_iload,
  fun _ _ _ _ => (j_go_s rfl).trans e_callv,
  fun _ _ => (j_go_s rfl).trans e_if,
  fun _ => (j_go_s rfl).trans e_aload_n,
  fun _ _ => (j_go_s rfl).trans e_getf,
  fun _ => (j_go_s rfl).trans e_iload,
  fun _ _ _ => (j_go_s rfl).trans e_iald,
  fun _ => (j_go_s rfl).trans e_aload_n,
  fun _ _ => (j_go_s rfl).trans e_getf,
  fun _ => (j_go_s rfl).trans e_iload,
  fun _ _ _ => (j_go_s rfl).trans e_iald,
  fun _ _ _ => (j_go_s rfl).trans e_iadd,
  fun _ => (j_go_s rfl).trans e_aload_n,
  fun _ _ => (j_go_s rfl).trans e_getf,
  fun _ => (j_go_s rfl).trans e_iload_n,
  fun _ _ _ => (j_go_s rfl).trans e_iald,
  fun _ _ _ => (j_go_s rfl).trans e_icmp,
  fun _ => (j_go_s rfl).trans e_iload,
  fun _ => (j_go_s rfl).trans e_iret,
  fun _ => (j_go_s rfl).trans e_iinc,
  fun _ => (j_go_s rfl).trans e_goto,
  fun _ => (j_go_s rfl).trans e_bipush,
  fun _ => (j_go_s rfl).trans e_iret⟩
