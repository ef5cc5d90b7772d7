set_option maxRecDepth 100000 in
set_option maxHeartbeats 4000000 in
theorem st_Net_addPiece {post : Option Value → jW → Prop} {cut : List Nat} {n : Nat} {ls : jL} {w : jW} {cb sb : Nat} : (∀ (r : List Value), j_go (jmt 44) post cut (n + 1) 0 ls r w cb sb ↔ g_ld ls[0]? (fun v => t_a v ∧ j_k (jmt 44) post cut n 1 ls (v :: r) w cb sb)) ∧
  (∀ (r : List Value) (a : Nat), j_go (jmt 44) post cut (n + 1) 1 ls (.ref a :: r) w cb sb ↔ g_ob 0 (w a) (fun fs => g_v fs[4]? (fun v => j_k (jmt 44) post cut n 4 ls (v :: r) w cb sb))) ∧
  (∀ (r : List Value), j_go (jmt 44) post cut (n + 1) 4 ls r w cb sb ↔ g_ld ls[0]? (fun v => t_a v ∧ j_k (jmt 44) post cut n 5 ls (v :: r) w cb sb)) ∧
  (∀ (r : List Value) (a : Nat), j_go (jmt 44) post cut (n + 1) 5 ls (.ref a :: r) w cb sb ↔ g_ob 0 (w a) (fun fs => g_v fs[8]? (fun v => j_k (jmt 44) post cut n 8 ls (v :: r) w cb sb))) ∧
  (∀ (r : List Value), j_go (jmt 44) post cut (n + 1) 8 ls r w cb sb ↔ g_ld ls[1]? (fun v => t_a v ∧ j_k (jmt 44) post cut n 9 ls (v :: r) w cb sb)) ∧
  (∀ (r : List Value) (a v : Nat) (j : Int32), j_go (jmt 44) post cut (n + 1) 9 ls (.ref v :: .int j :: .ref a :: r) w cb sb ↔ g_qa 6 (w a) (fun m f => vp_in j m ∧ g_ob 7 (w v) (fun _ => j_k (jmt 44) post cut n 10 ls r ((j_up w a (.inl (6, m, .inr (.inr (.inr (.inr (va_up f j.toNatClampNeg (some v))))))))) cb sb))) ∧
  (∀ (r : List Value), j_go (jmt 44) post cut (n + 1) 10 ls r w cb sb ↔ g_ld ls[0]? (fun v => t_a v ∧ j_k (jmt 44) post cut n 11 ls (v :: r) w cb sb)) ∧
  (∀ (r : List Value) (v : Value), j_go (jmt 44) post cut (n + 1) 11 ls (v :: r) w cb sb ↔ v.category = 1 ∧ j_k (jmt 44) post cut n 12 ls (v :: v :: r) w cb sb) ∧
  (∀ (r : List Value) (a : Nat), j_go (jmt 44) post cut (n + 1) 12 ls (.ref a :: r) w cb sb ↔ g_ob 0 (w a) (fun fs => g_v fs[8]? (fun v => j_k (jmt 44) post cut n 15 ls (v :: r) w cb sb))) ∧
  (∀ (r : List Value), j_go (jmt 44) post cut (n + 1) 15 ls r w cb sb ↔ j_k (jmt 44) post cut n 16 ls (.int (Int32.ofInt 1) :: r) w cb sb) ∧
  (∀ (r : List Value) (x y : Int32), j_go (jmt 44) post cut (n + 1) 16 ls (.int y :: .int x :: r) w cb sb ↔ j_k (jmt 44) post cut n 17 ls (.int (x + y) :: r) w cb sb) ∧
  (∀ (r : List Value) (v : Value) (a : Nat), j_go (jmt 44) post cut (n + 1) 17 ls (v :: .ref a :: r) w cb sb ↔ g_ob 0 (w a) (fun fs => 8 < fs.length ∧ j_okv 0 v ∧ j_k (jmt 44) post cut n 20 ls r ((j_up w a (.inr (0, fs.set 8 v)))) cb sb)) ∧
  (j_go (jmt 44) post cut (n + 1) 20 ls [] w cb sb ↔ post none w) := ⟨fun _ => (j_go_s rfl).trans e_aload_n,
  fun _ _ => (j_go_s rfl).trans e_getf,
  fun _ => (j_go_s rfl).trans e_aload_n,
  fun _ _ => (j_go_s rfl).trans e_getf,
  fun _ => (j_go_s rfl).trans e_aload_n,
  fun _ _ _ _ => (j_go_s rfl).trans e_aast,
  fun _ => (j_go_s rfl).trans e_aload_n,
  fun _ _ => (j_go_s rfl).trans e_dup,
  fun _ _ => (j_go_s rfl).trans e_getf,
  fun _ => (j_go_s rfl).trans e_iconst,
  fun _ _ _ => (j_go_s rfl).trans e_iadd,
  fun _ _ _ => (j_go_s rfl).trans e_putf,
  (j_go_s rfl).trans e_vret⟩
set_option maxRecDepth 100000 in
set_option maxHeartbeats 4000000 in
theorem st_Net_go {post : Option Value → jW → Prop} {cut : List Nat} {n : Nat} {ls : jL} {w : jW} {cb sb : Nat} : (∀ (r : List Value), j_go (jmt 45) post cut (n + 1) 0 ls r w cb sb ↔ g_ld ls[0]? (fun v => t_a v ∧ j_k (jmt 45) post cut n 1 ls (v :: r) w cb sb)) ∧
  (∀ (r : List Value), j_go (jmt 45) post cut (n + 1) 1 ls r w cb sb ↔ g_ld ls[1]? (fun v => t_i v ∧ j_k (jmt 45) post cut n 2 ls (v :: r) w cb sb)) ∧
  (∀ (r : List Value) (a0 : Value) (b : Nat), j_go (jmt 45) post cut (n + 1) 2 ls (a0 :: .ref b :: r) w cb sb ↔ g_ob 0 (w b) (fun _ => True) ∧ j_w8 r ∧ g_call (jmt 46) [.ref b, a0] w cb sb (fun v w' c s => j_k (jmt 45) post cut n 5 ls (v.toList ++ r) w' c s)) ∧
  (∀ (r : List Value) (a : Int32), j_go (jmt 45) post cut (n + 1) 5 ls (.int a :: r) w cb sb ↔ (¬ a = 0 → j_k (jmt 45) post cut n 10 ls r w cb sb) ∧ (¬ (¬ a = 0) → j_k (jmt 45) post cut n 8 ls r w cb sb)) ∧
  (∀ (r : List Value), j_go (jmt 45) post cut (n + 1) 8 ls r w cb sb ↔ j_k (jmt 45) post cut n 9 ls (.int (Int32.ofInt (-1)) :: r) w cb sb) ∧
  (∀ (a : Int32), j_go (jmt 45) post cut (n + 1) 9 ls [.int a] w cb sb ↔ narrow .int (.int a) = .int a ∧ post (some (.int a)) w) ∧
  (∀ (r : List Value), j_go (jmt 45) post cut (n + 1) 10 ls r w cb sb ↔ g_ld ls[0]? (fun v => t_a v ∧ j_k (jmt 45) post cut n 11 ls (v :: r) w cb sb)) ∧
  (∀ (r : List Value) (a : Nat), j_go (jmt 45) post cut (n + 1) 11 ls (.ref a :: r) w cb sb ↔ g_ob 0 (w a) (fun fs => g_v fs[4]? (fun v => j_k (jmt 45) post cut n 14 ls (v :: r) w cb sb))) ∧
  (∀ (r : List Value), j_go (jmt 45) post cut (n + 1) 14 ls r w cb sb ↔ g_ld ls[1]? (fun v => t_i v ∧ j_k (jmt 45) post cut n 15 ls (v :: r) w cb sb)) ∧
  (∀ (r : List Value), j_go (jmt 45) post cut (n + 1) 15 ls r w cb sb ↔ j_k (jmt 45) post cut n 16 ls (.int (Int32.ofInt 1) :: r) w cb sb) ∧
  (∀ (r : List Value) (x y : Int32), j_go (jmt 45) post cut (n + 1) 16 ls (.int y :: .int x :: r) w cb sb ↔ j_k (jmt 45) post cut n 17 ls (.int (x - y) :: r) w cb sb) ∧
  (∀ (r : List Value) (a : Nat) (j : Int32), j_go (jmt 45) post cut (n + 1) 17 ls (.int j :: .ref a :: r) w cb sb ↔ g_qa 6 (w a) (fun m f => vp_in j m ∧ j_k (jmt 45) post cut n 18 ls (va_rf (f j.toNatClampNeg) :: r) w cb sb)) ∧
  (∀ (r : List Value) (v : Value), j_go (jmt 45) post cut (n + 1) 18 ls (v :: r) w cb sb ↔ (t_a v ∧ j_ok1 ls 2 = true) ∧ j_k (jmt 45) post cut n 19 (ls.set 2 (some v)) r w cb sb) ∧
  (∀ (r : List Value), j_go (jmt 45) post cut (n + 1) 19 ls r w cb sb ↔ g_ld ls[0]? (fun v => t_a v ∧ j_k (jmt 45) post cut n 20 ls (v :: r) w cb sb)) ∧
  (∀ (r : List Value) (a : Nat), j_go (jmt 45) post cut (n + 1) 20 ls (.ref a :: r) w cb sb ↔ g_ob 0 (w a) (fun fs => g_v fs[3]? (fun v => j_k (jmt 45) post cut n 23 ls (v :: r) w cb sb))) ∧
  (∀ (r : List Value), j_go (jmt 45) post cut (n + 1) 23 ls r w cb sb ↔ g_ld ls[2]? (fun v => t_a v ∧ j_k (jmt 45) post cut n 24 ls (v :: r) w cb sb)) ∧
  (∀ (r : List Value) (a : Nat), j_go (jmt 45) post cut (n + 1) 24 ls (.ref a :: r) w cb sb ↔ g_ob 7 (w a) (fun fs => g_v fs[0]? (fun v => j_k (jmt 45) post cut n 27 ls (v :: r) w cb sb))) ∧
  (∀ (r : List Value), j_go (jmt 45) post cut (n + 1) 27 ls r w cb sb ↔ j_k (jmt 45) post cut n 28 ls (.int (Int32.ofInt 1) :: r) w cb sb) ∧
  (∀ (r : List Value) (x y : Int32), j_go (jmt 45) post cut (n + 1) 28 ls (.int y :: .int x :: r) w cb sb ↔ j_k (jmt 45) post cut n 29 ls (.int (x - y) :: r) w cb sb) ∧
  (∀ (r : List Value) (a : Nat) (j : Int32), j_go (jmt 45) post cut (n + 1) 29 ls (.int j :: .ref a :: r) w cb sb ↔ g_qa 5 (w a) (fun m f => vp_in j m ∧ j_k (jmt 45) post cut n 30 ls (va_rf (f j.toNatClampNeg) :: r) w cb sb)) ∧
  (∀ (r : List Value) (v : Value), j_go (jmt 45) post cut (n + 1) 30 ls (v :: r) w cb sb ↔ (t_a v ∧ j_ok1 ls 3 = true) ∧ j_k (jmt 45) post cut n 31 (ls.set 3 (some v)) r w cb sb) ∧
  (∀ (r : List Value), j_go (jmt 45) post cut (n + 1) 31 ls r w cb sb ↔ g_ld ls[0]? (fun v => t_a v ∧ j_k (jmt 45) post cut n 32 ls (v :: r) w cb sb)) ∧
  (∀ (r : List Value), j_go (jmt 45) post cut (n + 1) 32 ls r w cb sb ↔ g_ld ls[2]? (fun v => t_a v ∧ j_k (jmt 45) post cut n 33 ls (v :: r) w cb sb)) ∧
  (∀ (r : List Value) (a : Nat), j_go (jmt 45) post cut (n + 1) 33 ls (.ref a :: r) w cb sb ↔ g_ob 7 (w a) (fun fs => g_v fs[4]? (fun v => j_k (jmt 45) post cut n 36 ls (v :: r) w cb sb))) ∧
  (∀ (r : List Value), j_go (jmt 45) post cut (n + 1) 36 ls r w cb sb ↔ g_ld ls[3]? (fun v => t_a v ∧ j_k (jmt 45) post cut n 37 ls (v :: r) w cb sb)) ∧
  (∀ (r : List Value) (a : Nat), j_go (jmt 45) post cut (n + 1) 37 ls (.ref a :: r) w cb sb ↔ g_ob 6 (w a) (fun fs => g_v fs[0]? (fun v => j_k (jmt 45) post cut n 40 ls (v :: r) w cb sb))) ∧
  (∀ (r : List Value) (a0 a1 : Value) (b : Nat), j_go (jmt 45) post cut (n + 1) 40 ls (a1 :: a0 :: .ref b :: r) w cb sb ↔ g_ob 0 (w b) (fun _ => True) ∧ j_w8 r ∧ g_call (jmt 48) [.ref b, a0, a1] w cb sb (fun v w' c s => j_k (jmt 45) post cut n 43 ls (v.toList ++ r) w' c s)) ∧
  (∀ (r : List Value) (x : Int32), j_go (jmt 45) post cut (n + 1) 43 ls (.int x :: r) w cb sb ↔ j_ok1 ls 4 = true ∧ j_k (jmt 45) post cut n 45 (ls.set 4 (some (.int x))) r w cb sb) ∧
  (∀ (r : List Value), j_go (jmt 45) post cut (n + 1) 45 ls r w cb sb ↔ g_ld ls[4]? (fun v => t_i v ∧ j_k (jmt 45) post cut n 47 ls (v :: r) w cb sb)) ∧
  (∀ (r : List Value), j_go (jmt 45) post cut (n + 1) 47 ls r w cb sb ↔ j_k (jmt 45) post cut n 49 ls (.int (Int8.ofInt (-4)).toInt32 :: r) w cb sb) ∧
  (∀ (r : List Value) (a b : Int32), j_go (jmt 45) post cut (n + 1) 49 ls (.int b :: .int a :: r) w cb sb ↔ (¬ a = b → j_k (jmt 45) post cut n 74 ls r w cb sb) ∧ (¬ (¬ a = b) → j_k (jmt 45) post cut n 52 ls r w cb sb)) ∧
  (∀ (r : List Value), j_go (jmt 45) post cut (n + 1) 52 ls r w cb sb ↔ g_ld ls[3]? (fun v => t_a v ∧ j_k (jmt 45) post cut n 53 ls (v :: r) w cb sb)) ∧
  (∀ (r : List Value), j_go (jmt 45) post cut (n + 1) 53 ls r w cb sb ↔ g_ld ls[2]? (fun v => t_a v ∧ j_k (jmt 45) post cut n 54 ls (v :: r) w cb sb)) ∧
  (∀ (r : List Value) (a : Nat), j_go (jmt 45) post cut (n + 1) 54 ls (.ref a :: r) w cb sb ↔ g_ob 7 (w a) (fun fs => g_v fs[4]? (fun v => j_k (jmt 45) post cut n 57 ls (v :: r) w cb sb))) ∧
  (∀ (r : List Value), j_go (jmt 45) post cut (n + 1) 57 ls r w cb sb ↔ g_ld ls[2]? (fun v => t_a v ∧ j_k (jmt 45) post cut n 58 ls (v :: r) w cb sb)) ∧
  (∀ (r : List Value) (a : Nat), j_go (jmt 45) post cut (n + 1) 58 ls (.ref a :: r) w cb sb ↔ g_ob 7 (w a) (fun fs => g_v fs[1]? (fun v => j_k (jmt 45) post cut n 61 ls (v :: r) w cb sb))) ∧
  (∀ (r : List Value), j_go (jmt 45) post cut (n + 1) 61 ls r w cb sb ↔ g_ld ls[2]? (fun v => t_a v ∧ j_k (jmt 45) post cut n 62 ls (v :: r) w cb sb)) ∧
  (∀ (r : List Value) (a : Nat), j_go (jmt 45) post cut (n + 1) 62 ls (.ref a :: r) w cb sb ↔ g_ob 7 (w a) (fun fs => g_v fs[2]? (fun v => j_k (jmt 45) post cut n 65 ls (v :: r) w cb sb))) ∧
  (∀ (r : List Value) (a0 a1 a2 : Value) (b : Nat), j_go (jmt 45) post cut (n + 1) 65 ls (a2 :: a1 :: a0 :: .ref b :: r) w cb sb ↔ g_ob 6 (w b) (fun _ => True) ∧ j_w8 r ∧ g_call (jmt 60) [.ref b, a0, a1, a2] w cb sb (fun v w' c s => j_k (jmt 45) post cut n 68 ls (v.toList ++ r) w' c s)) ∧
  (∀ (r : List Value), j_go (jmt 45) post cut (n + 1) 68 ls r w cb sb ↔ g_ld ls[2]? (fun v => t_a v ∧ j_k (jmt 45) post cut n 69 ls (v :: r) w cb sb)) ∧
  (∀ (r : List Value), j_go (jmt 45) post cut (n + 1) 69 ls r w cb sb ↔ j_k (jmt 45) post cut n 70 ls (.int (Int32.ofInt 1) :: r) w cb sb) ∧
  (∀ (r : List Value) (a0 a1 : Value), j_go (jmt 45) post cut (n + 1) 70 ls (a1 :: a0 :: r) w cb sb ↔ j_w8 r ∧ g_call (jmt 62) [a0, a1] w cb sb (fun v w' c s => j_k (jmt 45) post cut n 73 ls (v.toList ++ r) w' c s)) ∧
  (∀ (a : Int32), j_go (jmt 45) post cut (n + 1) 73 ls [.int a] w cb sb ↔ narrow .int (.int a) = .int a ∧ post (some (.int a)) w) ∧
  (∀ (r : List Value), j_go (jmt 45) post cut (n + 1) 74 ls r w cb sb ↔ g_ld ls[2]? (fun v => t_a v ∧ j_k (jmt 45) post cut n 75 ls (v :: r) w cb sb)) ∧
  (∀ (r : List Value) (a : Nat), j_go (jmt 45) post cut (n + 1) 75 ls (.ref a :: r) w cb sb ↔ g_ob 7 (w a) (fun fs => g_v fs[3]? (fun v => j_k (jmt 45) post cut n 78 ls (v :: r) w cb sb))) ∧
  (∀ (r : List Value) (a : Int32), j_go (jmt 45) post cut (n + 1) 78 ls (.int a :: r) w cb sb ↔ (¬ a = 0 → j_k (jmt 45) post cut n 87 ls r w cb sb) ∧ (¬ (¬ a = 0) → j_k (jmt 45) post cut n 81 ls r w cb sb)) ∧
  (∀ (r : List Value), j_go (jmt 45) post cut (n + 1) 81 ls r w cb sb ↔ g_ld ls[2]? (fun v => t_a v ∧ j_k (jmt 45) post cut n 82 ls (v :: r) w cb sb)) ∧
  (∀ (r : List Value), j_go (jmt 45) post cut (n + 1) 82 ls r w cb sb ↔ j_k (jmt 45) post cut n 83 ls (.int (Int32.ofInt 3) :: r) w cb sb) ∧
  (∀ (r : List Value) (a0 a1 : Value), j_go (jmt 45) post cut (n + 1) 83 ls (a1 :: a0 :: r) w cb sb ↔ j_w8 r ∧ g_call (jmt 62) [a0, a1] w cb sb (fun v w' c s => j_k (jmt 45) post cut n 86 ls (v.toList ++ r) w' c s)) ∧
  (∀ (a : Int32), j_go (jmt 45) post cut (n + 1) 86 ls [.int a] w cb sb ↔ narrow .int (.int a) = .int a ∧ post (some (.int a)) w) ∧
  (∀ (r : List Value), j_go (jmt 45) post cut (n + 1) 87 ls r w cb sb ↔ g_ld ls[4]? (fun v => t_i v ∧ j_k (jmt 45) post cut n 89 ls (v :: r) w cb sb)) ∧
  (∀ (r : List Value), j_go (jmt 45) post cut (n + 1) 89 ls r w cb sb ↔ j_k (jmt 45) post cut n 91 ls (.int (Int8.ofInt (-3)).toInt32 :: r) w cb sb) ∧
  (∀ (r : List Value) (a b : Int32), j_go (jmt 45) post cut (n + 1) 91 ls (.int b :: .int a :: r) w cb sb ↔ (¬ a = b → j_k (jmt 45) post cut n 100 ls r w cb sb) ∧ (¬ (¬ a = b) → j_k (jmt 45) post cut n 94 ls r w cb sb)) ∧
  (∀ (r : List Value), j_go (jmt 45) post cut (n + 1) 94 ls r w cb sb ↔ g_ld ls[2]? (fun v => t_a v ∧ j_k (jmt 45) post cut n 95 ls (v :: r) w cb sb)) ∧
  (∀ (r : List Value), j_go (jmt 45) post cut (n + 1) 95 ls r w cb sb ↔ j_k (jmt 45) post cut n 96 ls (.int (Int32.ofInt 2) :: r) w cb sb) ∧
  (∀ (r : List Value) (a0 a1 : Value), j_go (jmt 45) post cut (n + 1) 96 ls (a1 :: a0 :: r) w cb sb ↔ j_w8 r ∧ g_call (jmt 62) [a0, a1] w cb sb (fun v w' c s => j_k (jmt 45) post cut n 99 ls (v.toList ++ r) w' c s)) ∧
  (∀ (a : Int32), j_go (jmt 45) post cut (n + 1) 99 ls [.int a] w cb sb ↔ narrow .int (.int a) = .int a ∧ post (some (.int a)) w) ∧
  (∀ (r : List Value), j_go (jmt 45) post cut (n + 1) 100 ls r w cb sb ↔ g_ld ls[0]? (fun v => t_a v ∧ j_k (jmt 45) post cut n 101 ls (v :: r) w cb sb)) ∧
  (∀ (r : List Value) (a : Nat), j_go (jmt 45) post cut (n + 1) 101 ls (.ref a :: r) w cb sb ↔ g_ob 0 (w a) (fun fs => g_v fs[2]? (fun v => j_k (jmt 45) post cut n 104 ls (v :: r) w cb sb))) ∧
  (∀ (r : List Value), j_go (jmt 45) post cut (n + 1) 104 ls r w cb sb ↔ g_ld ls[4]? (fun v => t_i v ∧ j_k (jmt 45) post cut n 106 ls (v :: r) w cb sb)) ∧
  (∀ (r : List Value) (a : Nat) (j : Int32), j_go (jmt 45) post cut (n + 1) 106 ls (.int j :: .ref a :: r) w cb sb ↔ g_qa 4 (w a) (fun m f => vp_in j m ∧ j_k (jmt 45) post cut n 107 ls (va_rf (f j.toNatClampNeg) :: r) w cb sb)) ∧
  (∀ (r : List Value) (a : Nat), j_go (jmt 45) post cut (n + 1) 107 ls (.ref a :: r) w cb sb ↔ g_ob 2 (w a) (fun fs => g_v fs[3]? (fun v => j_k (jmt 45) post cut n 110 ls (v :: r) w cb sb))) ∧
  (∀ (r : List Value), j_go (jmt 45) post cut (n + 1) 110 ls r w cb sb ↔ g_ld ls[2]? (fun v => t_a v ∧ j_k (jmt 45) post cut n 111 ls (v :: r) w cb sb)) ∧
  (∀ (r : List Value) (a : Nat), j_go (jmt 45) post cut (n + 1) 111 ls (.ref a :: r) w cb sb ↔ g_ob 7 (w a) (fun fs => g_v fs[2]? (fun v => j_k (jmt 45) post cut n 114 ls (v :: r) w cb sb))) ∧
  (∀ (r : List Value) (a b : Int32), j_go (jmt 45) post cut (n + 1) 114 ls (.int b :: .int a :: r) w cb sb ↔ (b ≤ a → j_k (jmt 45) post cut n 130 ls r w cb sb) ∧ (¬ (b ≤ a) → j_k (jmt 45) post cut n 117 ls r w cb sb)) ∧
  (∀ (r : List Value), j_go (jmt 45) post cut (n + 1) 117 ls r w cb sb ↔ g_ld ls[3]? (fun v => t_a v ∧ j_k (jmt 45) post cut n 118 ls (v :: r) w cb sb)) ∧
  (∀ (r : List Value) (a : Nat), j_go (jmt 45) post cut (n + 1) 118 ls (.ref a :: r) w cb sb ↔ g_ob 6 (w a) (fun fs => g_v fs[1]? (fun v => j_k (jmt 45) post cut n 121 ls (v :: r) w cb sb))) ∧
  (∀ (r : List Value) (a : Int32), j_go (jmt 45) post cut (n + 1) 121 ls (.int a :: r) w cb sb ↔ (a = 0 → j_k (jmt 45) post cut n 130 ls r w cb sb) ∧ (¬ (a = 0) → j_k (jmt 45) post cut n 124 ls r w cb sb)) ∧
  (∀ (r : List Value), j_go (jmt 45) post cut (n + 1) 124 ls r w cb sb ↔ g_ld ls[2]? (fun v => t_a v ∧ j_k (jmt 45) post cut n 125 ls (v :: r) w cb sb)) ∧
  (∀ (r : List Value), j_go (jmt 45) post cut (n + 1) 125 ls r w cb sb ↔ j_k (jmt 45) post cut n 126 ls (.int (Int32.ofInt 4) :: r) w cb sb) ∧
  (∀ (r : List Value) (a0 a1 : Value), j_go (jmt 45) post cut (n + 1) 126 ls (a1 :: a0 :: r) w cb sb ↔ j_w8 r ∧ g_call (jmt 62) [a0, a1] w cb sb (fun v w' c s => j_k (jmt 45) post cut n 129 ls (v.toList ++ r) w' c s)) ∧
  (∀ (a : Int32), j_go (jmt 45) post cut (n + 1) 129 ls [.int a] w cb sb ↔ narrow .int (.int a) = .int a ∧ post (some (.int a)) w) ∧
  (∀ (r : List Value), j_go (jmt 45) post cut (n + 1) 130 ls r w cb sb ↔ g_ld ls[0]? (fun v => t_a v ∧ j_k (jmt 45) post cut n 131 ls (v :: r) w cb sb)) ∧
  (∀ (r : List Value), j_go (jmt 45) post cut (n + 1) 131 ls r w cb sb ↔ g_ld ls[2]? (fun v => t_a v ∧ j_k (jmt 45) post cut n 132 ls (v :: r) w cb sb)) ∧
  (∀ (r : List Value), j_go (jmt 45) post cut (n + 1) 132 ls r w cb sb ↔ g_ld ls[0]? (fun v => t_a v ∧ j_k (jmt 45) post cut n 133 ls (v :: r) w cb sb)) ∧
  (∀ (r : List Value) (a : Nat), j_go (jmt 45) post cut (n + 1) 133 ls (.ref a :: r) w cb sb ↔ g_ob 0 (w a) (fun fs => g_v fs[2]? (fun v => j_k (jmt 45) post cut n 136 ls (v :: r) w cb sb))) ∧
  (∀ (r : List Value), j_go (jmt 45) post cut (n + 1) 136 ls r w cb sb ↔ g_ld ls[4]? (fun v => t_i v ∧ j_k (jmt 45) post cut n 138 ls (v :: r) w cb sb)) ∧
  (∀ (r : List Value) (a : Nat) (j : Int32), j_go (jmt 45) post cut (n + 1) 138 ls (.int j :: .ref a :: r) w cb sb ↔ g_qa 4 (w a) (fun m f => vp_in j m ∧ j_k (jmt 45) post cut n 139 ls (va_rf (f j.toNatClampNeg) :: r) w cb sb)) ∧
  (∀ (r : List Value) (a0 a1 : Value) (b : Nat), j_go (jmt 45) post cut (n + 1) 139 ls (a1 :: a0 :: .ref b :: r) w cb sb ↔ g_ob 0 (w b) (fun _ => True) ∧ j_w8 r ∧ g_call (jmt 63) [.ref b, a0, a1] w cb sb (fun v w' c s => j_k (jmt 45) post cut n 142 ls (v.toList ++ r) w' c s)) ∧
  (∀ (a : Int32), j_go (jmt 45) post cut (n + 1) 142 ls [.int a] w cb sb ↔ narrow .int (.int a) = .int a ∧ post (some (.int a)) w) := ⟨fun _ => (j_go_s rfl).trans e_aload_n,
  fun _ => (j_go_s rfl).trans e_iload_n,
  fun _ _ _ => (j_go_s rfl).trans e_callv,
  fun _ _ => (j_go_s rfl).trans e_if,
  fun _ => (j_go_s rfl).trans e_iconst,
  fun _ => (j_go_s rfl).trans e_iret,
  fun _ => (j_go_s rfl).trans e_aload_n,
  fun _ _ => (j_go_s rfl).trans e_getf,
  fun _ => (j_go_s rfl).trans e_iload_n,
  fun _ => (j_go_s rfl).trans e_iconst,
  fun _ _ _ => (j_go_s rfl).trans e_isub,
  fun _ _ _ => (j_go_s rfl).trans e_aald,
  fun _ _ => (j_go_s rfl).trans e_astore_n,
  fun _ => (j_go_s rfl).trans e_aload_n,
  fun _ _ => (j_go_s rfl).trans e_getf,
  fun _ => (j_go_s rfl).trans e_aload_n,
  fun _ _ => (j_go_s rfl).trans e_getf,
  fun _ => (j_go_s rfl).trans e_iconst,
  fun _ _ _ => (j_go_s rfl).trans e_isub,
  fun _ _ _ => (j_go_s rfl).trans e_aald,
  fun _ _ => (j_go_s rfl).trans e_astore_n,
  fun _ => (j_go_s rfl).trans e_aload_n,
  fun _ => (j_go_s rfl).trans e_aload_n,
  fun _ _ => (j_go_s rfl).trans e_getf,
  fun _ => (j_go_s rfl).trans e_aload_n,
  fun _ _ => (j_go_s rfl).trans e_getf,
  fun _ _ _ _ => (j_go_s rfl).trans e_callv,
  fun _ _ => (j_go_s rfl).trans e_istore,
  fun _ => (j_go_s rfl).trans e_iload,
  fun _ => (j_go_s rfl).trans e_bipush,
  fun _ _ _ => (j_go_s rfl).trans e_icmp,
  fun _ => (j_go_s rfl).trans e_aload_n,
  fun _ => (j_go_s rfl).trans e_aload_n,
  fun _ _ => (j_go_s rfl).trans e_getf,
  fun _ => (j_go_s rfl).trans e_aload_n,
  fun _ _ => (j_go_s rfl).trans e_getf,
  fun _ => (j_go_s rfl).trans e_aload_n,
  fun _ _ => (j_go_s rfl).trans e_getf,
  fun _ _ _ _ _ => (j_go_s rfl).trans e_callv,
  fun _ => (j_go_s rfl).trans e_aload_n,
  fun _ => (j_go_s rfl).trans e_iconst,
  fun _ _ _ => (j_go_s rfl).trans e_calls,
  fun _ => (j_go_s rfl).trans e_iret,
  fun _ => (j_go_s rfl).trans e_aload_n,
  fun _ _ => (j_go_s rfl).trans e_getf,
  fun _ _ => (j_go_s rfl).trans e_if,
  fun _ => (j_go_s rfl).trans e_aload_n,
  fun _ => (j_go_s rfl).trans e_iconst,
  fun _ _ _ => (j_go_s rfl).trans e_calls,
  fun _ => (j_go_s rfl).trans e_iret,
  fun _ => (j_go_s rfl).trans e_iload,
  fun _ => (j_go_s rfl).trans e_bipush,
  fun _ _ _ => (j_go_s rfl).trans e_icmp,
  fun _ => (j_go_s rfl).trans e_aload_n,
  fun _ => (j_go_s rfl).trans e_iconst,
  fun _ _ _ => (j_go_s rfl).trans e_calls,
  fun _ => (j_go_s rfl).trans e_iret,
  fun _ => (j_go_s rfl).trans e_aload_n,
  fun _ _ => (j_go_s rfl).trans e_getf,
  fun _ => (j_go_s rfl).trans e_iload,
  fun _ _ _ => (j_go_s rfl).trans e_aald,
  fun _ _ => (j_go_s rfl).trans e_getf,
  fun _ => (j_go_s rfl).trans e_aload_n,
  fun _ _ => (j_go_s rfl).trans e_getf,
  fun _ _ _ => (j_go_s rfl).trans e_icmp,
  fun _ => (j_go_s rfl).trans e_aload_n,
  fun _ _ => (j_go_s rfl).trans e_getf,
  fun _ _ => (j_go_s rfl).trans e_if,
  fun _ => (j_go_s rfl).trans e_aload_n,
  fun _ => (j_go_s rfl).trans e_iconst,
  fun _ _ _ => (j_go_s rfl).trans e_calls,
  fun _ => (j_go_s rfl).trans e_iret,
  fun _ => (j_go_s rfl).trans e_aload_n,
  fun _ => (j_go_s rfl).trans e_aload_n,
  fun _ => (j_go_s rfl).trans e_aload_n,
  fun _ _ => (j_go_s rfl).trans e_getf,
  fun _ => (j_go_s rfl).trans e_iload,
  fun _ _ _ => (j_go_s rfl).trans e_aald,
  fun _ _ _ _ => (j_go_s rfl).trans e_callv,
  fun _ => (j_go_s rfl).trans e_iret⟩
set_option maxRecDepth 100000 in
set_option maxHeartbeats 4000000 in
theorem st_Net_isMoving {post : Option Value → jW → Prop} {cut : List Nat} {n : Nat} {ls : jL} {w : jW} {cb sb : Nat} : (∀ (r : List Value), j_go (jmt 46) post cut (n + 1) 0 ls r w cb sb ↔ g_ld ls[0]? (fun v => t_a v ∧ j_k (jmt 46) post cut n 1 ls (v :: r) w cb sb)) ∧
  (∀ (r : List Value), j_go (jmt 46) post cut (n + 1) 1 ls r w cb sb ↔ g_ld ls[1]? (fun v => t_i v ∧ j_k (jmt 46) post cut n 2 ls (v :: r) w cb sb)) ∧
  (∀ (r : List Value) (a0 : Value) (b : Nat), j_go (jmt 46) post cut (n + 1) 2 ls (a0 :: .ref b :: r) w cb sb ↔ g_ob 0 (w b) (fun _ => True) ∧ j_w8 r ∧ g_call (jmt 47) [.ref b, a0] w cb sb (fun v w' c s => j_k (jmt 46) post cut n 5 ls (v.toList ++ r) w' c s)) ∧
  (∀ (r : List Value) (a : Int32), j_go (jmt 46) post cut (n + 1) 5 ls (.int a :: r) w cb sb ↔ (a = 0 → j_k (jmt 46) post cut n 26 ls r w cb sb) ∧ (¬ (a = 0) → j_k (jmt 46) post cut n 8 ls r w cb sb)) ∧
  (∀ (r : List Value), j_go (jmt 46) post cut (n + 1) 8 ls r w cb sb ↔ g_ld ls[0]? (fun v => t_a v ∧ j_k (jmt 46) post cut n 9 ls (v :: r) w cb sb)) ∧
  (∀ (r : List Value) (a : Nat), j_go (jmt 46) post cut (n + 1) 9 ls (.ref a :: r) w cb sb ↔ g_ob 0 (w a) (fun fs => g_v fs[4]? (fun v => j_k (jmt 46) post cut n 12 ls (v :: r) w cb sb))) ∧
  (∀ (r : List Value), j_go (jmt 46) post cut (n + 1) 12 ls r w cb sb ↔ g_ld ls[1]? (fun v => t_i v ∧ j_k (jmt 46) post cut n 13 ls (v :: r) w cb sb)) ∧
  (∀ (r : List Value), j_go (jmt 46) post cut (n + 1) 13 ls r w cb sb ↔ j_k (jmt 46) post cut n 14 ls (.int (Int32.ofInt 1) :: r) w cb sb) ∧
  (∀ (r : List Value) (x y : Int32), j_go (jmt 46) post cut (n + 1) 14 ls (.int y :: .int x :: r) w cb sb ↔ j_k (jmt 46) post cut n 15 ls (.int (x - y) :: r) w cb sb) ∧
  (∀ (r : List Value) (a : Nat) (j : Int32), j_go (jmt 46) post cut (n + 1) 15 ls (.int j :: .ref a :: r) w cb sb ↔ g_qa 6 (w a) (fun m f => vp_in j m ∧ j_k (jmt 46) post cut n 16 ls (va_rf (f j.toNatClampNeg) :: r) w cb sb)) ∧
  (∀ (r : List Value) (a : Nat), j_go (jmt 46) post cut (n + 1) 16 ls (.ref a :: r) w cb sb ↔ g_ob 7 (w a) (fun fs => g_v fs[5]? (fun v => j_k (jmt 46) post cut n 19 ls (v :: r) w cb sb))) ∧
  (∀ (r : List Value) (a : Int32), j_go (jmt 46) post cut (n + 1) 19 ls (.int a :: r) w cb sb ↔ (¬ a = 0 → j_k (jmt 46) post cut n 26 ls r w cb sb) ∧ (¬ (¬ a = 0) → j_k (jmt 46) post cut n 22 ls r w cb sb)) ∧
  (∀ (r : List Value), j_go (jmt 46) post cut (n + 1) 22 ls r w cb sb ↔ j_k (jmt 46) post cut n 23 ls (.int (Int32.ofInt 1) :: r) w cb sb) ∧
  (∀ (r : List Value), j_go (jmt 46) post cut (n + 1) 23 ls r w cb sb ↔ j_k (jmt 46) post cut n 27 ls r w cb sb) ∧
  (∀ (r : List Value), j_go (jmt 46) post cut (n + 1) 26 ls r w cb sb ↔ j_k (jmt 46) post cut n 27 ls (.int (Int32.ofInt 0) :: r) w cb sb) ∧
  (∀ (a : Int32), j_go (jmt 46) post cut (n + 1) 27 ls [.int a] w cb sb ↔ narrow .boolean (.int a) = .int a ∧ post (some (.int a)) w) := ⟨fun _ => (j_go_s rfl).trans e_aload_n,
  fun _ => (j_go_s rfl).trans e_iload_n,
  fun _ _ _ => (j_go_s rfl).trans e_callv,
  fun _ _ => (j_go_s rfl).trans e_if,
  fun _ => (j_go_s rfl).trans e_aload_n,
  fun _ _ => (j_go_s rfl).trans e_getf,
  fun _ => (j_go_s rfl).trans e_iload_n,
  fun _ => (j_go_s rfl).trans e_iconst,
  fun _ _ _ => (j_go_s rfl).trans e_isub,
  fun _ _ _ => (j_go_s rfl).trans e_aald,
  fun _ _ => (j_go_s rfl).trans e_getf,
  fun _ _ => (j_go_s rfl).trans e_if,
  fun _ => (j_go_s rfl).trans e_iconst,
  fun _ => (j_go_s rfl).trans e_goto,
  fun _ => (j_go_s rfl).trans e_iconst,
  fun _ => (j_go_s rfl).trans e_iret⟩
set_option maxRecDepth 100000 in
set_option maxHeartbeats 4000000 in
theorem st_Net_isPiece {post : Option Value → jW → Prop} {cut : List Nat} {n : Nat} {ls : jL} {w : jW} {cb sb : Nat} : (∀ (r : List Value), j_go (jmt 47) post cut (n + 1) 0 ls r w cb sb ↔ g_ld ls[1]? (fun v => t_i v ∧ j_k (jmt 47) post cut n 1 ls (v :: r) w cb sb)) ∧
  (∀ (r : List Value), j_go (jmt 47) post cut (n + 1) 1 ls r w cb sb ↔ j_k (jmt 47) post cut n 2 ls (.int (Int32.ofInt 1) :: r) w cb sb) ∧
  (∀ (r : List Value), j_go (jmt 47) post cut (n + 1) 2 ls r w cb sb ↔ g_ld ls[0]? (fun v => t_a v ∧ j_k (jmt 47) post cut n 3 ls (v :: r) w cb sb)) ∧
  (∀ (r : List Value) (a : Nat), j_go (jmt 47) post cut (n + 1) 3 ls (.ref a :: r) w cb sb ↔ g_ob 0 (w a) (fun fs => g_v fs[8]? (fun v => j_k (jmt 47) post cut n 6 ls (v :: r) w cb sb))) ∧
  (∀ (r : List Value) (a0 a1 a2 : Value), j_go (jmt 47) post cut (n + 1) 6 ls (a2 :: a1 :: a0 :: r) w cb sb ↔ j_w8 r ∧ g_call (jmt 7) [a0, a1, a2] w cb sb (fun v w' c s => j_k (jmt 47) post cut n 9 ls (v.toList ++ r) w' c s)) ∧
  (∀ (a : Int32), j_go (jmt 47) post cut (n + 1) 9 ls [.int a] w cb sb ↔ narrow .boolean (.int a) = .int a ∧ post (some (.int a)) w) := ⟨fun _ => (j_go_s rfl).trans e_iload_n,
  fun _ => (j_go_s rfl).trans e_iconst,
  fun _ => (j_go_s rfl).trans e_aload_n,
  fun _ _ => (j_go_s rfl).trans e_getf,
  fun _ _ _ _ => (j_go_s rfl).trans e_calls,
  fun _ => (j_go_s rfl).trans e_iret⟩
set_option maxRecDepth 100000 in
set_option maxHeartbeats 4000000 in
theorem st_Net_findRoute {post : Option Value → jW → Prop} {cut : List Nat} {n : Nat} {ls : jL} {w : jW} {cb sb : Nat} : (∀ (r : List Value), j_go (jmt 48) post cut (n + 1) 0 ls r w cb sb ↔ g_ld ls[0]? (fun v => t_a v ∧ j_k (jmt 48) post cut n 1 ls (v :: r) w cb sb)) ∧
  (∀ (r : List Value) (a : Nat), j_go (jmt 48) post cut (n + 1) 1 ls (.ref a :: r) w cb sb ↔ g_ob 0 (w a) (fun fs => g_v fs[1]? (fun v => j_k (jmt 48) post cut n 4 ls (v :: r) w cb sb))) ∧
  (∀ (r : List Value), j_go (jmt 48) post cut (n + 1) 4 ls r w cb sb ↔ g_ld ls[1]? (fun v => t_i v ∧ j_k (jmt 48) post cut n 5 ls (v :: r) w cb sb)) ∧
  (∀ (r : List Value) (a : Nat) (j : Int32), j_go (jmt 48) post cut (n + 1) 5 ls (.int j :: .ref a :: r) w cb sb ↔ g_qa 3 (w a) (fun m f => vp_in j m ∧ j_k (jmt 48) post cut n 6 ls (va_rf (f j.toNatClampNeg) :: r) w cb sb)) ∧
  (∀ (r : List Value) (a : Nat), j_go (jmt 48) post cut (n + 1) 6 ls (.ref a :: r) w cb sb ↔ g_ob 1 (w a) (fun fs => g_v fs[1]? (fun v => j_k (jmt 48) post cut n 9 ls (v :: r) w cb sb))) ∧
  (∀ (r : List Value) (v : Value), j_go (jmt 48) post cut (n + 1) 9 ls (v :: r) w cb sb ↔ (t_a v ∧ j_ok1 ls 3 = true) ∧ j_k (jmt 48) post cut n 10 (ls.set 3 (some v)) r w cb sb) ∧
  (∀ (r : List Value), j_go (jmt 48) post cut (n + 1) 10 ls r w cb sb ↔ g_ld ls[0]? (fun v => t_a v ∧ j_k (jmt 48) post cut n 11 ls (v :: r) w cb sb)) ∧
  (∀ (r : List Value) (a : Nat), j_go (jmt 48) post cut (n + 1) 11 ls (.ref a :: r) w cb sb ↔ g_ob 0 (w a) (fun fs => g_v fs[5]? (fun v => j_k (jmt 48) post cut n 14 ls (v :: r) w cb sb))) ∧
  (∀ (r : List Value), j_go (jmt 48) post cut (n + 1) 14 ls r w cb sb ↔ g_ld ls[1]? (fun v => t_i v ∧ j_k (jmt 48) post cut n 15 ls (v :: r) w cb sb)) ∧
  (∀ (r : List Value), j_go (jmt 48) post cut (n + 1) 15 ls r w cb sb ↔ g_ld ls[3]? (fun v => t_a v ∧ j_k (jmt 48) post cut n 16 ls (v :: r) w cb sb)) ∧
  (∀ (r : List Value), j_go (jmt 48) post cut (n + 1) 16 ls r w cb sb ↔ g_ld ls[0]? (fun v => t_a v ∧ j_k (jmt 48) post cut n 17 ls (v :: r) w cb sb)) ∧
  (∀ (r : List Value) (a : Nat), j_go (jmt 48) post cut (n + 1) 17 ls (.ref a :: r) w cb sb ↔ g_ob 0 (w a) (fun fs => g_v fs[2]? (fun v => j_k (jmt 48) post cut n 20 ls (v :: r) w cb sb))) ∧
  (∀ (r : List Value), j_go (jmt 48) post cut (n + 1) 20 ls r w cb sb ↔ g_ld ls[0]? (fun v => t_a v ∧ j_k (jmt 48) post cut n 21 ls (v :: r) w cb sb)) ∧
  (∀ (r : List Value) (a : Nat), j_go (jmt 48) post cut (n + 1) 21 ls (.ref a :: r) w cb sb ↔ g_ob 0 (w a) (fun fs => g_v fs[6]? (fun v => j_k (jmt 48) post cut n 24 ls (v :: r) w cb sb))) ∧
  (∀ (r : List Value) (a0 a1 a2 a3 : Value) (b : Nat), j_go (jmt 48) post cut (n + 1) 24 ls (a3 :: a2 :: a1 :: a0 :: .ref b :: r) w cb sb ↔ g_ob 5 (w b) (fun _ => True) ∧ j_w8 r ∧ g_call (jmt 49) [.ref b, a0, a1, a2, a3] w cb sb (fun v w' c s => j_k (jmt 48) post cut n 27 ls (v.toList ++ r) w' c s)) ∧
  (∀ (r : List Value), j_go (jmt 48) post cut (n + 1) 27 ls r w cb sb ↔ g_ld ls[0]? (fun v => t_a v ∧ j_k (jmt 48) post cut n 28 ls (v :: r) w cb sb)) ∧
  (∀ (r : List Value) (a : Nat), j_go (jmt 48) post cut (n + 1) 28 ls (.ref a :: r) w cb sb ↔ g_ob 0 (w a) (fun fs => g_v fs[5]? (fun v => j_k (jmt 48) post cut n 31 ls (v :: r) w cb sb))) ∧
  (∀ (r : List Value), j_go (jmt 48) post cut (n + 1) 31 ls r w cb sb ↔ g_ld ls[3]? (fun v => t_a v ∧ j_k (jmt 48) post cut n 32 ls (v :: r) w cb sb)) ∧
  (∀ (r : List Value), j_go (jmt 48) post cut (n + 1) 32 ls r w cb sb ↔ g_ld ls[2]? (fun v => t_i v ∧ j_k (jmt 48) post cut n 33 ls (v :: r) w cb sb)) ∧
  (∀ (r : List Value) (a0 a1 : Value) (b : Nat), j_go (jmt 48) post cut (n + 1) 33 ls (a1 :: a0 :: .ref b :: r) w cb sb ↔ g_ob 5 (w b) (fun _ => True) ∧ j_w8 r ∧ g_call (jmt 54) [.ref b, a0, a1] w cb sb (fun v w' c s => j_k (jmt 48) post cut n 36 ls (v.toList ++ r) w' c s)) ∧
  (∀ (r : List Value) (x : Int32), j_go (jmt 48) post cut (n + 1) 36 ls (.int x :: r) w cb sb ↔ j_ok1 ls 4 = true ∧ j_k (jmt 48) post cut n 38 (ls.set 4 (some (.int x))) r w cb sb) ∧
  (∀ (r : List Value), j_go (jmt 48) post cut (n + 1) 38 ls r w cb sb ↔ g_ld ls[4]? (fun v => t_i v ∧ j_k (jmt 48) post cut n 40 ls (v :: r) w cb sb)) ∧
  (∀ (r : List Value), j_go (jmt 48) post cut (n + 1) 40 ls r w cb sb ↔ j_k (jmt 48) post cut n 42 ls (.int (Int8.ofInt (-3)).toInt32 :: r) w cb sb) ∧
  (∀ (r : List Value) (a b : Int32), j_go (jmt 48) post cut (n + 1) 42 ls (.int b :: .int a :: r) w cb sb ↔ (¬ a = b → j_k (jmt 48) post cut n 48 ls r w cb sb) ∧ (¬ (¬ a = b) → j_k (jmt 48) post cut n 45 ls r w cb sb)) ∧
  (∀ (r : List Value), j_go (jmt 48) post cut (n + 1) 45 ls r w cb sb ↔ j_k (jmt 48) post cut n 47 ls (.int (Int8.ofInt (-3)).toInt32 :: r) w cb sb) ∧
  (∀ (a : Int32), j_go (jmt 48) post cut (n + 1) 47 ls [.int a] w cb sb ↔ narrow .int (.int a) = .int a ∧ post (some (.int a)) w) ∧
  (∀ (r : List Value), j_go (jmt 48) post cut (n + 1) 48 ls r w cb sb ↔ g_ld ls[4]? (fun v => t_i v ∧ j_k (jmt 48) post cut n 50 ls (v :: r) w cb sb)) ∧
  (∀ (r : List Value), j_go (jmt 48) post cut (n + 1) 50 ls r w cb sb ↔ g_ld ls[1]? (fun v => t_i v ∧ j_k (jmt 48) post cut n 51 ls (v :: r) w cb sb)) ∧
  (∀ (r : List Value) (a b : Int32), j_go (jmt 48) post cut (n + 1) 51 ls (.int b :: .int a :: r) w cb sb ↔ (¬ a = b → j_k (jmt 48) post cut n 59 ls r w cb sb) ∧ (¬ (¬ a = b) → j_k (jmt 48) post cut n 54 ls r w cb sb)) ∧
  (∀ (r : List Value), j_go (jmt 48) post cut (n + 1) 54 ls r w cb sb ↔ j_k (jmt 48) post cut n 56 ls (.int (Int8.ofInt (-4)).toInt32 :: r) w cb sb) ∧
  (∀ (r : List Value), j_go (jmt 48) post cut (n + 1) 56 ls r w cb sb ↔ j_k (jmt 48) post cut n 77 ls r w cb sb) ∧
  (∀ (r : List Value), j_go (jmt 48) post cut (n + 1) 59 ls r w cb sb ↔ g_ld ls[0]? (fun v => t_a v ∧ j_k (jmt 48) post cut n 60 ls (v :: r) w cb sb)) ∧
  (∀ (r : List Value) (a : Nat), j_go (jmt 48) post cut (n + 1) 60 ls (.ref a :: r) w cb sb ↔ g_ob 0 (w a) (fun fs => g_v fs[5]? (fun v => j_k (jmt 48) post cut n 63 ls (v :: r) w cb sb))) ∧
  (∀ (r : List Value), j_go (jmt 48) post cut (n + 1) 63 ls r w cb sb ↔ g_ld ls[1]? (fun v => t_i v ∧ j_k (jmt 48) post cut n 64 ls (v :: r) w cb sb)) ∧
  (∀ (r : List Value), j_go (jmt 48) post cut (n + 1) 64 ls r w cb sb ↔ g_ld ls[4]? (fun v => t_i v ∧ j_k (jmt 48) post cut n 66 ls (v :: r) w cb sb)) ∧
  (∀ (r : List Value), j_go (jmt 48) post cut (n + 1) 66 ls r w cb sb ↔ g_ld ls[0]? (fun v => t_a v ∧ j_k (jmt 48) post cut n 67 ls (v :: r) w cb sb)) ∧
  (∀ (r : List Value) (a : Nat), j_go (jmt 48) post cut (n + 1) 67 ls (.ref a :: r) w cb sb ↔ g_ob 0 (w a) (fun fs => g_v fs[2]? (fun v => j_k (jmt 48) post cut n 70 ls (v :: r) w cb sb))) ∧
  (∀ (r : List Value), j_go (jmt 48) post cut (n + 1) 70 ls r w cb sb ↔ g_ld ls[0]? (fun v => t_a v ∧ j_k (jmt 48) post cut n 71 ls (v :: r) w cb sb)) ∧
  (∀ (r : List Value) (a : Nat), j_go (jmt 48) post cut (n + 1) 71 ls (.ref a :: r) w cb sb ↔ g_ob 0 (w a) (fun fs => g_v fs[6]? (fun v => j_k (jmt 48) post cut n 74 ls (v :: r) w cb sb))) ∧
  (∀ (r : List Value) (a0 a1 a2 a3 : Value) (b : Nat), j_go (jmt 48) post cut (n + 1) 74 ls (a3 :: a2 :: a1 :: a0 :: .ref b :: r) w cb sb ↔ g_ob 5 (w b) (fun _ => True) ∧ j_w8 r ∧ g_call (jmt 58) [.ref b, a0, a1, a2, a3] w cb sb (fun v w' c s => j_k (jmt 48) post cut n 77 ls (v.toList ++ r) w' c s)) ∧
  (∀ (a : Int32), j_go (jmt 48) post cut (n + 1) 77 ls [.int a] w cb sb ↔ narrow .int (.int a) = .int a ∧ post (some (.int a)) w) := ⟨fun _ => (j_go_s rfl).trans e_aload_n,
  fun _ _ => (j_go_s rfl).trans e_getf,
  fun _ => (j_go_s rfl).trans e_iload_n,
  fun _ _ _ => (j_go_s rfl).trans e_aald,
  fun _ _ => (j_go_s rfl).trans e_getf,
  fun _ _ => (j_go_s rfl).trans e_astore_n,
  fun _ => (j_go_s rfl).trans e_aload_n,
  fun _ _ => (j_go_s rfl).trans e_getf,
  fun _ => (j_go_s rfl).trans e_iload_n,
  fun _ => (j_go_s rfl).trans e_aload_n,
  fun _ => (j_go_s rfl).trans e_aload_n,
  fun _ _ => (j_go_s rfl).trans e_getf,
  fun _ => (j_go_s rfl).trans e_aload_n,
  fun _ _ => (j_go_s rfl).trans e_getf,
  fun _ _ _ _ _ _ => (j_go_s rfl).trans e_callv,
  fun _ => (j_go_s rfl).trans e_aload_n,
  fun _ _ => (j_go_s rfl).trans e_getf,
  fun _ => (j_go_s rfl).trans e_aload_n,
  fun _ => (j_go_s rfl).trans e_iload_n,
  fun _ _ _ _ => (j_go_s rfl).trans e_callv,
  fun _ _ => (j_go_s rfl).trans e_istore,
  fun _ => (j_go_s rfl).trans e_iload,
  fun _ => (j_go_s rfl).trans e_bipush,
  fun _ _ _ => (j_go_s rfl).trans e_icmp,
  fun _ => (j_go_s rfl).trans e_bipush,
  fun _ => (j_go_s rfl).trans e_iret,
  fun _ => (j_go_s rfl).trans e_iload,
  fun _ => (j_go_s rfl).trans e_iload_n,
  fun _ _ _ => (j_go_s rfl).trans e_icmp,
  fun _ => (j_go_s rfl).trans e_bipush,
  fun _ => (j_go_s rfl).trans e_goto,
  fun _ => (j_go_s rfl).trans e_aload_n,
  fun _ _ => (j_go_s rfl).trans e_getf,
  fun _ => (j_go_s rfl).trans e_iload_n,
  fun _ => (j_go_s rfl).trans e_iload,
  fun _ => (j_go_s rfl).trans e_aload_n,
  fun _ _ => (j_go_s rfl).trans e_getf,
  fun _ => (j_go_s rfl).trans e_aload_n,
  fun _ _ => (j_go_s rfl).trans e_getf,
  fun _ _ _ _ _ _ => (j_go_s rfl).trans e_callv,
  fun _ => (j_go_s rfl).trans e_iret⟩
set_option maxRecDepth 100000 in
set_option maxHeartbeats 4000000 in
theorem st_Net_settle {post : Option Value → jW → Prop} {cut : List Nat} {n : Nat} {ls : jL} {w : jW} {cb sb : Nat} : (∀ (r : List Value), j_go (jmt 62) post cut (n + 1) 0 ls r w cb sb ↔ g_ld ls[0]? (fun v => t_a v ∧ j_k (jmt 62) post cut n 1 ls (v :: r) w cb sb)) ∧
  (∀ (r : List Value), j_go (jmt 62) post cut (n + 1) 1 ls r w cb sb ↔ g_ld ls[1]? (fun v => t_i v ∧ j_k (jmt 62) post cut n 2 ls (v :: r) w cb sb)) ∧
  (∀ (r : List Value) (v : Value) (a : Nat), j_go (jmt 62) post cut (n + 1) 2 ls (v :: .ref a :: r) w cb sb ↔ g_ob 7 (w a) (fun fs => 5 < fs.length ∧ j_okv 0 v ∧ j_k (jmt 62) post cut n 5 ls r ((j_up w a (.inr (7, fs.set 5 v)))) cb sb)) ∧
  (∀ (r : List Value), j_go (jmt 62) post cut (n + 1) 5 ls r w cb sb ↔ g_ld ls[1]? (fun v => t_i v ∧ j_k (jmt 62) post cut n 6 ls (v :: r) w cb sb)) ∧
  (∀ (a : Int32), j_go (jmt 62) post cut (n + 1) 6 ls [.int a] w cb sb ↔ narrow .int (.int a) = .int a ∧ post (some (.int a)) w) := ⟨fun _ => (j_go_s rfl).trans e_aload_n,
  fun _ => (j_go_s rfl).trans e_iload_n,
  fun _ _ _ => (j_go_s rfl).trans e_putf,
  fun _ => (j_go_s rfl).trans e_iload_n,
  fun _ => (j_go_s rfl).trans e_iret⟩
set_option maxRecDepth 100000 in
set_option maxHeartbeats 4000000 in
theorem st_Net_cross {post : Option Value → jW → Prop} {cut : List Nat} {n : Nat} {ls : jL} {w : jW} {cb sb : Nat} : (∀ (r : List Value), j_go (jmt 63) post cut (n + 1) 0 ls r w cb sb ↔ j_k (jmt 63) post cut n 2 ls (.int (Int8.ofInt 8).toInt32 :: r) w cb sb) ∧
  (∀ (r : List Value), j_go (jmt 63) post cut (n + 1) 2 ls r w cb sb ↔ g_ld ls[2]? (fun v => t_a v ∧ j_k (jmt 63) post cut n 3 ls (v :: r) w cb sb)) ∧
  (∀ (r : List Value) (a : Nat), j_go (jmt 63) post cut (n + 1) 3 ls (.ref a :: r) w cb sb ↔ g_ob 2 (w a) (fun fs => g_v fs[3]? (fun v => j_k (jmt 63) post cut n 6 ls (v :: r) w cb sb))) ∧
  (∀ (r : List Value), j_go (jmt 63) post cut (n + 1) 6 ls r w cb sb ↔ g_ld ls[2]? (fun v => t_a v ∧ j_k (jmt 63) post cut n 7 ls (v :: r) w cb sb)) ∧
  (∀ (r : List Value) (a : Nat), j_go (jmt 63) post cut (n + 1) 7 ls (.ref a :: r) w cb sb ↔ g_ob 2 (w a) (fun fs => g_v fs[3]? (fun v => j_k (jmt 63) post cut n 10 ls (v :: r) w cb sb))) ∧
  (∀ (r : List Value), j_go (jmt 63) post cut (n + 1) 10 ls r w cb sb ↔ j_k (jmt 63) post cut n 12 ls (.int (Int8.ofInt 8).toInt32 :: r) w cb sb) ∧
  (∀ (r : List Value) (a b : Int32), j_go (jmt 63) post cut (n + 1) 12 ls (.int b :: .int a :: r) w cb sb ↔ ¬ b = 0 ∧ j_k (jmt 63) post cut n 13 ls (.int (a - a / b * b) :: r) w cb sb) ∧
  (∀ (r : List Value) (x y : Int32), j_go (jmt 63) post cut (n + 1) 13 ls (.int y :: .int x :: r) w cb sb ↔ j_k (jmt 63) post cut n 14 ls (.int (x - y) :: r) w cb sb) ∧
  (∀ (r : List Value) (a0 a1 : Value), j_go (jmt 63) post cut (n + 1) 14 ls (a1 :: a0 :: r) w cb sb ↔ j_w8 r ∧ g_call (jmt 3) [a0, a1] w cb sb (fun v w' c s => j_k (jmt 63) post cut n 17 ls (v.toList ++ r) w' c s)) ∧
  (∀ (r : List Value) (x : Int32), j_go (jmt 63) post cut (n + 1) 17 ls (.int x :: r) w cb sb ↔ j_ok1 ls 3 = true ∧ j_k (jmt 63) post cut n 18 (ls.set 3 (some (.int x))) r w cb sb) ∧
  (∀ (r : List Value), j_go (jmt 63) post cut (n + 1) 18 ls r w cb sb ↔ g_ld ls[1]? (fun v => t_a v ∧ j_k (jmt 63) post cut n 19 ls (v :: r) w cb sb)) ∧
  (∀ (r : List Value) (a : Nat), j_go (jmt 63) post cut (n + 1) 19 ls (.ref a :: r) w cb sb ↔ g_ob 7 (w a) (fun fs => g_v fs[2]? (fun v => j_k (jmt 63) post cut n 22 ls (v :: r) w cb sb))) ∧
  (∀ (r : List Value), j_go (jmt 63) post cut (n + 1) 22 ls r w cb sb ↔ g_ld ls[2]? (fun v => t_a v ∧ j_k (jmt 63) post cut n 23 ls (v :: r) w cb sb)) ∧
  (∀ (r : List Value) (a : Nat), j_go (jmt 63) post cut (n + 1) 23 ls (.ref a :: r) w cb sb ↔ g_ob 2 (w a) (fun fs => g_v fs[3]? (fun v => j_k (jmt 63) post cut n 26 ls (v :: r) w cb sb))) ∧
  (∀ (r : List Value) (a b : Int32), j_go (jmt 63) post cut (n + 1) 26 ls (.int b :: .int a :: r) w cb sb ↔ (b < a → j_k (jmt 63) post cut n 33 ls r w cb sb) ∧ (¬ (b < a) → j_k (jmt 63) post cut n 29 ls r w cb sb)) ∧
  (∀ (r : List Value), j_go (jmt 63) post cut (n + 1) 29 ls r w cb sb ↔ j_k (jmt 63) post cut n 30 ls (.int (Int32.ofInt 0) :: r) w cb sb) ∧
  (∀ (r : List Value), j_go (jmt 63) post cut (n + 1) 30 ls r w cb sb ↔ j_k (jmt 63) post cut n 41 ls r w cb sb) ∧
  (∀ (r : List Value), j_go (jmt 63) post cut (n + 1) 33 ls r w cb sb ↔ g_ld ls[1]? (fun v => t_a v ∧ j_k (jmt 63) post cut n 34 ls (v :: r) w cb sb)) ∧
  (∀ (r : List Value) (a : Nat), j_go (jmt 63) post cut (n + 1) 34 ls (.ref a :: r) w cb sb ↔ g_ob 7 (w a) (fun fs => g_v fs[2]? (fun v => j_k (jmt 63) post cut n 37 ls (v :: r) w cb sb))) ∧
  (∀ (r : List Value), j_go (jmt 63) post cut (n + 1) 37 ls r w cb sb ↔ j_k (jmt 63) post cut n 38 ls (.int (Int32.ofInt 1) :: r) w cb sb) ∧
  (∀ (r : List Value) (x y : Int32), j_go (jmt 63) post cut (n + 1) 38 ls (.int y :: .int x :: r) w cb sb ↔ j_k (jmt 63) post cut n 39 ls (.int (x - y) :: r) w cb sb) ∧
  (∀ (r : List Value), j_go (jmt 63) post cut (n + 1) 39 ls r w cb sb ↔ g_ld ls[3]? (fun v => t_i v ∧ j_k (jmt 63) post cut n 40 ls (v :: r) w cb sb)) ∧
  (∀ (r : List Value) (a b : Int32), j_go (jmt 63) post cut (n + 1) 40 ls (.int b :: .int a :: r) w cb sb ↔ ¬ b = 0 ∧ j_k (jmt 63) post cut n 41 ls (.int (a / b) :: r) w cb sb) ∧
  (∀ (r : List Value) (x : Int32), j_go (jmt 63) post cut (n + 1) 41 ls (.int x :: r) w cb sb ↔ j_ok1 ls 4 = true ∧ j_k (jmt 63) post cut n 43 (ls.set 4 (some (.int x))) r w cb sb) ∧
  (∀ (r : List Value), j_go (jmt 63) post cut (n + 1) 43 ls r w cb sb ↔ g_ld ls[0]? (fun v => t_a v ∧ j_k (jmt 63) post cut n 44 ls (v :: r) w cb sb)) ∧
  (∀ (r : List Value) (a : Nat), j_go (jmt 63) post cut (n + 1) 44 ls (.ref a :: r) w cb sb ↔ g_ob 0 (w a) (fun fs => g_v fs[8]? (fun v => j_k (jmt 63) post cut n 47 ls (v :: r) w cb sb))) ∧
  (∀ (r : List Value), j_go (jmt 63) post cut (n + 1) 47 ls r w cb sb ↔ g_ld ls[4]? (fun v => t_i v ∧ j_k (jmt 63) post cut n 49 ls (v :: r) w cb sb)) ∧
  (∀ (r : List Value) (x y : Int32), j_go (jmt 63) post cut (n + 1) 49 ls (.int y :: .int x :: r) w cb sb ↔ j_k (jmt 63) post cut n 50 ls (.int (x + y) :: r) w cb sb) ∧
  (∀ (r : List Value), j_go (jmt 63) post cut (n + 1) 50 ls r w cb sb ↔ j_k (jmt 63) post cut n 52 ls (.int (Int8.ofInt 80).toInt32 :: r) w cb sb) ∧
  (∀ (r : List Value) (a b : Int32), j_go (jmt 63) post cut (n + 1) 52 ls (.int b :: .int a :: r) w cb sb ↔ (a ≤ b → j_k (jmt 63) post cut n 58 ls r w cb sb) ∧ (¬ (a ≤ b) → j_k (jmt 63) post cut n 55 ls r w cb sb)) ∧
  (∀ (r : List Value), j_go (jmt 63) post cut (n + 1) 55 ls r w cb sb ↔ j_k (jmt 63) post cut n 57 ls (.int (Int8.ofInt (-2)).toInt32 :: r) w cb sb) ∧
  (∀ (a : Int32), j_go (jmt 63) post cut (n + 1) 57 ls [.int a] w cb sb ↔ narrow .int (.int a) = .int a ∧ post (some (.int a)) w) ∧
  (∀ (r : List Value), j_go (jmt 63) post cut (n + 1) 58 ls r w cb sb ↔ g_ld ls[1]? (fun v => t_a v ∧ j_k (jmt 63) post cut n 59 ls (v :: r) w cb sb)) ∧
  (∀ (r : List Value), j_go (jmt 63) post cut (n + 1) 59 ls r w cb sb ↔ g_ld ls[2]? (fun v => t_a v ∧ j_k (jmt 63) post cut n 60 ls (v :: r) w cb sb)) ∧
  (∀ (r : List Value), j_go (jmt 63) post cut (n + 1) 60 ls r w cb sb ↔ g_ld ls[1]? (fun v => t_a v ∧ j_k (jmt 63) post cut n 61 ls (v :: r) w cb sb)) ∧
  (∀ (r : List Value) (a : Nat), j_go (jmt 63) post cut (n + 1) 61 ls (.ref a :: r) w cb sb ↔ g_ob 7 (w a) (fun fs => g_v fs[4]? (fun v => j_k (jmt 63) post cut n 64 ls (v :: r) w cb sb))) ∧
  (∀ (r : List Value) (a0 : Value) (b : Nat), j_go (jmt 63) post cut (n + 1) 64 ls (a0 :: .ref b :: r) w cb sb ↔ g_ob 2 (w b) (fun _ => True) ∧ j_w8 r ∧ g_call (jmt 59) [.ref b, a0] w cb sb (fun v w' c s => j_k (jmt 63) post cut n 67 ls (v.toList ++ r) w' c s)) ∧
  (∀ (r : List Value) (v : Value) (a : Nat), j_go (jmt 63) post cut (n + 1) 67 ls (v :: .ref a :: r) w cb sb ↔ g_ob 7 (w a) (fun fs => 4 < fs.length ∧ j_okv 0 v ∧ j_k (jmt 63) post cut n 70 ls r ((j_up w a (.inr (7, fs.set 4 v)))) cb sb)) ∧
  (∀ (r : List Value), j_go (jmt 63) post cut (n + 1) 70 ls r w cb sb ↔ g_ld ls[1]? (fun v => t_a v ∧ j_k (jmt 63) post cut n 71 ls (v :: r) w cb sb)) ∧
  (∀ (r : List Value) (v : Value), j_go (jmt 63) post cut (n + 1) 71 ls (v :: r) w cb sb ↔ v.category = 1 ∧ j_k (jmt 63) post cut n 72 ls (v :: v :: r) w cb sb) ∧
  (∀ (r : List Value) (a : Nat), j_go (jmt 63) post cut (n + 1) 72 ls (.ref a :: r) w cb sb ↔ g_ob 7 (w a) (fun fs => g_v fs[3]? (fun v => j_k (jmt 63) post cut n 75 ls (v :: r) w cb sb))) ∧
  (∀ (r : List Value), j_go (jmt 63) post cut (n + 1) 75 ls r w cb sb ↔ j_k (jmt 63) post cut n 76 ls (.int (Int32.ofInt 1) :: r) w cb sb) ∧
  (∀ (r : List Value) (x y : Int32), j_go (jmt 63) post cut (n + 1) 76 ls (.int y :: .int x :: r) w cb sb ↔ j_k (jmt 63) post cut n 77 ls (.int (x - y) :: r) w cb sb) ∧
  (∀ (r : List Value) (v : Value) (a : Nat), j_go (jmt 63) post cut (n + 1) 77 ls (v :: .ref a :: r) w cb sb ↔ g_ob 7 (w a) (fun fs => 3 < fs.length ∧ j_okv 0 v ∧ j_k (jmt 63) post cut n 80 ls r ((j_up w a (.inr (7, fs.set 3 v)))) cb sb)) ∧
  (∀ (r : List Value), j_go (jmt 63) post cut (n + 1) 80 ls r w cb sb ↔ g_ld ls[4]? (fun v => t_i v ∧ j_k (jmt 63) post cut n 82 ls (v :: r) w cb sb)) ∧
  (∀ (r : List Value) (a : Int32), j_go (jmt 63) post cut (n + 1) 82 ls (.int a :: r) w cb sb ↔ (a ≤ 0 → j_k (jmt 63) post cut n 93 ls r w cb sb) ∧ (¬ (a ≤ 0) → j_k (jmt 63) post cut n 85 ls r w cb sb)) ∧
  (∀ (r : List Value), j_go (jmt 63) post cut (n + 1) 85 ls r w cb sb ↔ g_ld ls[0]? (fun v => t_a v ∧ j_k (jmt 63) post cut n 86 ls (v :: r) w cb sb)) ∧
  (∀ (r : List Value), j_go (jmt 63) post cut (n + 1) 86 ls r w cb sb ↔ g_ld ls[1]? (fun v => t_a v ∧ j_k (jmt 63) post cut n 87 ls (v :: r) w cb sb)) ∧
  (∀ (r : List Value), j_go (jmt 63) post cut (n + 1) 87 ls r w cb sb ↔ g_ld ls[3]? (fun v => t_i v ∧ j_k (jmt 63) post cut n 88 ls (v :: r) w cb sb)) ∧
  (∀ (r : List Value), j_go (jmt 63) post cut (n + 1) 88 ls r w cb sb ↔ g_ld ls[4]? (fun v => t_i v ∧ j_k (jmt 63) post cut n 90 ls (v :: r) w cb sb)) ∧
  (∀ (r : List Value) (a0 a1 a2 : Value) (b : Nat), j_go (jmt 63) post cut (n + 1) 90 ls (a2 :: a1 :: a0 :: .ref b :: r) w cb sb ↔ g_ob 0 (w b) (fun _ => True) ∧ j_w8 r ∧ g_call (jmt 64) [.ref b, a0, a1, a2] w cb sb (fun v w' c s => j_k (jmt 63) post cut n 93 ls (v.toList ++ r) w' c s)) ∧
  (∀ (r : List Value), j_go (jmt 63) post cut (n + 1) 93 ls r w cb sb ↔ g_ld ls[1]? (fun v => t_a v ∧ j_k (jmt 63) post cut n 94 ls (v :: r) w cb sb)) ∧
  (∀ (r : List Value) (a : Nat), j_go (jmt 63) post cut (n + 1) 94 ls (.ref a :: r) w cb sb ↔ g_ob 7 (w a) (fun fs => g_v fs[5]? (fun v => j_k (jmt 63) post cut n 97 ls (v :: r) w cb sb))) ∧
  (∀ (a : Int32), j_go (jmt 63) post cut (n + 1) 97 ls [.int a] w cb sb ↔ narrow .int (.int a) = .int a ∧ post (some (.int a)) w) := ⟨fun _ => (j_go_s rfl).trans e_bipush,
  fun _ => (j_go_s rfl).trans e_aload_n,
  fun _ _ => (j_go_s rfl).trans e_getf,
  fun _ => (j_go_s rfl).trans e_aload_n,
  fun _ _ => (j_go_s rfl).trans e_getf,
  fun _ => (j_go_s rfl).trans e_bipush,
  fun _ _ _ => (j_go_s rfl).trans e_irem,
  fun _ _ _ => (j_go_s rfl).trans e_isub,
  fun _ _ _ => (j_go_s rfl).trans e_calls,
  fun _ _ => (j_go_s rfl).trans e_istore_n,
  fun _ => (j_go_s rfl).trans e_aload_n,
  fun _ _ => (j_go_s rfl).trans e_getf,
  fun _ => (j_go_s rfl).trans e_aload_n,
  fun _ _ => (j_go_s rfl).trans e_getf,
  fun _ _ _ => (j_go_s rfl).trans e_icmp,
  fun _ => (j_go_s rfl).trans e_iconst,
  fun _ => (j_go_s rfl).trans e_goto,
  fun _ => (j_go_s rfl).trans e_aload_n,
  fun _ _ => (j_go_s rfl).trans e_getf,
  fun _ => (j_go_s rfl).trans e_iconst,
  fun _ _ _ => (j_go_s rfl).trans e_isub,
  fun _ => (j_go_s rfl).trans e_iload_n,
  fun _ _ _ => (j_go_s rfl).trans e_idiv,
  fun _ _ => (j_go_s rfl).trans e_istore,
  fun _ => (j_go_s rfl).trans e_aload_n,
  fun _ _ => (j_go_s rfl).trans e_getf,
  fun _ => (j_go_s rfl).trans e_iload,
  fun _ _ _ => (j_go_s rfl).trans e_iadd,
  fun _ => (j_go_s rfl).trans e_bipush,
  fun _ _ _ => (j_go_s rfl).trans e_icmp,
  fun _ => (j_go_s rfl).trans e_bipush,
  fun _ => (j_go_s rfl).trans e_iret,
  fun _ => (j_go_s rfl).trans e_aload_n,
  fun _ => (j_go_s rfl).trans e_aload_n,
  fun _ => (j_go_s rfl).trans e_aload_n,
  fun _ _ => (j_go_s rfl).trans e_getf,
  fun _ _ _ => (j_go_s rfl).trans e_callv,
  fun _ _ _ => (j_go_s rfl).trans e_putf,
  fun _ => (j_go_s rfl).trans e_aload_n,
  fun _ _ => (j_go_s rfl).trans e_dup,
  fun _ _ => (j_go_s rfl).trans e_getf,
  fun _ => (j_go_s rfl).trans e_iconst,
  fun _ _ _ => (j_go_s rfl).trans e_isub,
  fun _ _ _ => (j_go_s rfl).trans e_putf,
  fun _ => (j_go_s rfl).trans e_iload,
  fun _ _ => (j_go_s rfl).trans e_if,
  fun _ => (j_go_s rfl).trans e_aload_n,
  fun _ => (j_go_s rfl).trans e_aload_n,
  fun _ => (j_go_s rfl).trans e_iload_n,
  fun _ => (j_go_s rfl).trans e_iload,
  fun _ _ _ _ _ => (j_go_s rfl).trans e_callv,
  fun _ => (j_go_s rfl).trans e_aload_n,
  fun _ _ => (j_go_s rfl).trans e_getf,
  fun _ => (j_go_s rfl).trans e_iret⟩
set_option maxRecDepth 100000 in
set_option maxHeartbeats 4000000 in
theorem st_Net_split {post : Option Value → jW → Prop} {cut : List Nat} {n : Nat} {ls : jL} {w : jW} {cb sb : Nat} : (∀ (r : List Value), j_go (jmt 64) post cut (n + 1) 0 ls r w cb sb ↔ g_ld ls[1]? (fun v => t_a v ∧ j_k (jmt 64) post cut n 1 ls (v :: r) w cb sb)) ∧
  (∀ (r : List Value) (a : Nat), j_go (jmt 64) post cut (n + 1) 1 ls (.ref a :: r) w cb sb ↔ g_ob 7 (w a) (fun fs => g_v fs[1]? (fun v => j_k (jmt 64) post cut n 4 ls (v :: r) w cb sb))) ∧
  (∀ (r : List Value), j_go (jmt 64) post cut (n + 1) 4 ls r w cb sb ↔ g_ld ls[1]? (fun v => t_a v ∧ j_k (jmt 64) post cut n 5 ls (v :: r) w cb sb)) ∧
  (∀ (r : List Value) (a : Nat), j_go (jmt 64) post cut (n + 1) 5 ls (.ref a :: r) w cb sb ↔ g_ob 7 (w a) (fun fs => g_v fs[2]? (fun v => j_k (jmt 64) post cut n 8 ls (v :: r) w cb sb))) ∧
  (∀ (r : List Value) (x y : Int32), j_go (jmt 64) post cut (n + 1) 8 ls (.int y :: .int x :: r) w cb sb ↔ j_k (jmt 64) post cut n 9 ls (.int (x + y) :: r) w cb sb) ∧
  (∀ (r : List Value) (x : Int32), j_go (jmt 64) post cut (n + 1) 9 ls (.int x :: r) w cb sb ↔ j_ok1 ls 4 = true ∧ j_k (jmt 64) post cut n 11 (ls.set 4 (some (.int x))) r w cb sb) ∧
  (∀ (r : List Value), j_go (jmt 64) post cut (n + 1) 11 ls r w cb sb ↔ j_k (jmt 64) post cut n 12 ls (.int (Int32.ofInt 1) :: r) w cb sb) ∧
  (∀ (r : List Value) (x : Int32), j_go (jmt 64) post cut (n + 1) 12 ls (.int x :: r) w cb sb ↔ j_ok1 ls 5 = true ∧ j_k (jmt 64) post cut n 14 (ls.set 5 (some (.int x))) r w cb sb) ∧
  (∀ (r : List Value), j_go (jmt 64) post cut (n + 1) 14 ls r w cb sb ↔ g_ld ls[5]? (fun v => t_i v ∧ j_k (jmt 64) post cut n 16 ls (v :: r) w cb sb)) ∧
  (∀ (r : List Value), j_go (jmt 64) post cut (n + 1) 16 ls r w cb sb ↔ g_ld ls[3]? (fun v => t_i v ∧ j_k (jmt 64) post cut n 17 ls (v :: r) w cb sb)) ∧
  (∀ (r : List Value) (a b : Int32), j_go (jmt 64) post cut (n + 1) 17 ls (.int b :: .int a :: r) w cb sb ↔ (b < a → j_k (jmt 64) post cut n 56 ls r w cb sb) ∧ (¬ (b < a) → j_k (jmt 64) post cut n 20 ls r w cb sb)) ∧
  (∀ (r : List Value), j_go (jmt 64) post cut (n + 1) 20 ls r w cb sb ↔ g_ld ls[1]? (fun v => t_a v ∧ j_k (jmt 64) post cut n 21 ls (v :: r) w cb sb)) ∧
  (∀ (r : List Value) (a : Nat), j_go (jmt 64) post cut (n + 1) 21 ls (.ref a :: r) w cb sb ↔ g_ob 7 (w a) (fun fs => g_v fs[1]? (fun v => j_k (jmt 64) post cut n 24 ls (v :: r) w cb sb))) ∧
  (∀ (r : List Value), j_go (jmt 64) post cut (n + 1) 24 ls r w cb sb ↔ g_ld ls[5]? (fun v => t_i v ∧ j_k (jmt 64) post cut n 26 ls (v :: r) w cb sb)) ∧
  (∀ (r : List Value), j_go (jmt 64) post cut (n + 1) 26 ls r w cb sb ↔ g_ld ls[2]? (fun v => t_i v ∧ j_k (jmt 64) post cut n 27 ls (v :: r) w cb sb)) ∧
  (∀ (r : List Value) (x y : Int32), j_go (jmt 64) post cut (n + 1) 27 ls (.int y :: .int x :: r) w cb sb ↔ j_k (jmt 64) post cut n 28 ls (.int (x * y) :: r) w cb sb) ∧
  (∀ (r : List Value) (x y : Int32), j_go (jmt 64) post cut (n + 1) 28 ls (.int y :: .int x :: r) w cb sb ↔ j_k (jmt 64) post cut n 29 ls (.int (x + y) :: r) w cb sb) ∧
  (∀ (r : List Value) (x : Int32), j_go (jmt 64) post cut (n + 1) 29 ls (.int x :: r) w cb sb ↔ j_ok1 ls 6 = true ∧ j_k (jmt 64) post cut n 31 (ls.set 6 (some (.int x))) r w cb sb) ∧
  (∀ (r : List Value), j_go (jmt 64) post cut (n + 1) 31 ls r w cb sb ↔ g_ld ls[0]? (fun v => t_a v ∧ j_k (jmt 64) post cut n 32 ls (v :: r) w cb sb)) ∧
  (∀ (r : List Value), j_go (jmt 64) post cut (n + 1) 32 ls r w cb sb ↔ g_ld ls[1]? (fun v => t_a v ∧ j_k (jmt 64) post cut n 33 ls (v :: r) w cb sb)) ∧
  (∀ (r : List Value), j_go (jmt 64) post cut (n + 1) 33 ls r w cb sb ↔ g_ld ls[6]? (fun v => t_i v ∧ j_k (jmt 64) post cut n 35 ls (v :: r) w cb sb)) ∧
  (∀ (r : List Value), j_go (jmt 64) post cut (n + 1) 35 ls r w cb sb ↔ g_ld ls[2]? (fun v => t_i v ∧ j_k (jmt 64) post cut n 36 ls (v :: r) w cb sb)) ∧
  (∀ (r : List Value), j_go (jmt 64) post cut (n + 1) 36 ls r w cb sb ↔ g_ld ls[4]? (fun v => t_i v ∧ j_k (jmt 64) post cut n 38 ls (v :: r) w cb sb)) ∧
  (∀ (r : List Value), j_go (jmt 64) post cut (n + 1) 38 ls r w cb sb ↔ g_ld ls[6]? (fun v => t_i v ∧ j_k (jmt 64) post cut n 40 ls (v :: r) w cb sb)) ∧
  (∀ (r : List Value) (x y : Int32), j_go (jmt 64) post cut (n + 1) 40 ls (.int y :: .int x :: r) w cb sb ↔ j_k (jmt 64) post cut n 41 ls (.int (x - y) :: r) w cb sb) ∧
  (∀ (r : List Value) (a0 a1 : Value), j_go (jmt 64) post cut (n + 1) 41 ls (a1 :: a0 :: r) w cb sb ↔ j_w8 r ∧ g_call (jmt 2) [a0, a1] w cb sb (fun v w' c s => j_k (jmt 64) post cut n 44 ls (v.toList ++ r) w' c s)) ∧
  (∀ (r : List Value) (a0 a1 : Value) (b : Nat), j_go (jmt 64) post cut (n + 1) 44 ls (a1 :: a0 :: .ref b :: r) w cb sb ↔ g_ob 7 (w b) (fun _ => True) ∧ j_w8 r ∧ g_call (jmt 65) [.ref b, a0, a1] w cb sb (fun v w' c s => j_k (jmt 64) post cut n 47 ls (v.toList ++ r) w' c s)) ∧
  (∀ (r : List Value) (a0 : Value) (b : Nat), j_go (jmt 64) post cut (n + 1) 47 ls (a0 :: .ref b :: r) w cb sb ↔ g_ob 0 (w b) (fun _ => True) ∧ j_w8 r ∧ g_call (jmt 44) [.ref b, a0] w cb sb (fun v w' c s => j_k (jmt 64) post cut n 50 ls (v.toList ++ r) w' c s)) ∧
  (∀ (r : List Value), j_go (jmt 64) post cut (n + 1) 50 ls r w cb sb ↔ g_ld ls[5]? (fun v => (match v with
      | .int x => j_ok1 ls 5 = true ∧ j_k (jmt 64) post cut n 53 (ls.set 5 (some (.int (x + Int32.ofInt 1)))) r w cb sb
      | _ => False))) ∧
  (∀ (r : List Value), j_go (jmt 64) post cut (n + 1) 53 ls r w cb sb ↔ j_k (jmt 64) post cut n 14 ls r w cb sb) ∧
  (∀ (r : List Value), j_go (jmt 64) post cut (n + 1) 56 ls r w cb sb ↔ g_ld ls[1]? (fun v => t_a v ∧ j_k (jmt 64) post cut n 57 ls (v :: r) w cb sb)) ∧
  (∀ (r : List Value), j_go (jmt 64) post cut (n + 1) 57 ls r w cb sb ↔ g_ld ls[2]? (fun v => t_i v ∧ j_k (jmt 64) post cut n 58 ls (v :: r) w cb sb)) ∧
  (∀ (r : List Value) (v : Value) (a : Nat), j_go (jmt 64) post cut (n + 1) 58 ls (v :: .ref a :: r) w cb sb ↔ g_ob 7 (w a) (fun fs => 2 < fs.length ∧ j_okv 0 v ∧ j_k (jmt 64) post cut n 61 ls r ((j_up w a (.inr (7, fs.set 2 v)))) cb sb)) ∧
  (j_go (jmt 64) post cut (n + 1) 61 ls [] w cb sb ↔ post none w) := ⟨fun _ => (j_go_s rfl).trans e_aload_n,
  fun _ _ => (j_go_s rfl).trans e_getf,
  fun _ => (j_go_s rfl).trans e_aload_n,
  fun _ _ => (j_go_s rfl).trans e_getf,
  fun _ _ _ => (j_go_s rfl).trans e_iadd,
  fun _ _ => (j_go_s rfl).trans e_istore,
  fun _ => (j_go_s rfl).trans e_iconst,
  fun _ _ => (j_go_s rfl).trans e_istore,
  fun _ => (j_go_s rfl).trans e_iload,
  fun _ => (j_go_s rfl).trans e_iload_n,
  fun _ _ _ => (j_go_s rfl).trans e_icmp,
  fun _ => (j_go_s rfl).trans e_aload_n,
  fun _ _ => (j_go_s rfl).trans e_getf,
  fun _ => (j_go_s rfl).trans e_iload,
  fun _ => (j_go_s rfl).trans e_iload_n,
  fun _ _ _ => (j_go_s rfl).trans e_imul,
  fun _ _ _ => (j_go_s rfl).trans e_iadd,
  fun _ _ => (j_go_s rfl).trans e_istore,
  fun _ => (j_go_s rfl).trans e_aload_n,
  fun _ => (j_go_s rfl).trans e_aload_n,
  fun _ => (j_go_s rfl).trans e_iload,
  fun _ => (j_go_s rfl).trans e_iload_n,
  fun _ => (j_go_s rfl).trans e_iload,
  fun _ => (j_go_s rfl).trans e_iload,
  fun _ _ _ => (j_go_s rfl).trans e_isub,
  fun _ _ _ => (j_go_s rfl).trans e_calls,
  fun _ _ _ _ => (j_go_s rfl).trans e_callv,
  fun _ _ _ => (j_go_s rfl).trans e_callv,
  fun _ => (j_go_s rfl).trans e_iinc,
  fun _ => (j_go_s rfl).trans e_goto,
  fun _ => (j_go_s rfl).trans e_aload_n,
  fun _ => (j_go_s rfl).trans e_iload_n,
  fun _ _ _ => (j_go_s rfl).trans e_putf,
  (j_go_s rfl).trans e_vret⟩
set_option maxRecDepth 100000 in
set_option maxHeartbeats 4000000 in
theorem st_Net_drop {post : Option Value → jW → Prop} {cut : List Nat} {n : Nat} {ls : jL} {w : jW} {cb sb : Nat} : (∀ (r : List Value), j_go (jmt 66) post cut (n + 1) 0 ls r w cb sb ↔ g_ld ls[0]? (fun v => t_a v ∧ j_k (jmt 66) post cut n 1 ls (v :: r) w cb sb)) ∧
  (∀ (r : List Value), j_go (jmt 66) post cut (n + 1) 1 ls r w cb sb ↔ g_ld ls[1]? (fun v => t_i v ∧ j_k (jmt 66) post cut n 2 ls (v :: r) w cb sb)) ∧
  (∀ (r : List Value) (a0 : Value) (b : Nat), j_go (jmt 66) post cut (n + 1) 2 ls (a0 :: .ref b :: r) w cb sb ↔ g_ob 0 (w b) (fun _ => True) ∧ j_w8 r ∧ g_call (jmt 46) [.ref b, a0] w cb sb (fun v w' c s => j_k (jmt 66) post cut n 5 ls (v.toList ++ r) w' c s)) ∧
  (∀ (r : List Value) (a : Int32), j_go (jmt 66) post cut (n + 1) 5 ls (.int a :: r) w cb sb ↔ (¬ a = 0 → j_k (jmt 66) post cut n 10 ls r w cb sb) ∧ (¬ (¬ a = 0) → j_k (jmt 66) post cut n 8 ls r w cb sb)) ∧
  (∀ (r : List Value), j_go (jmt 66) post cut (n + 1) 8 ls r w cb sb ↔ j_k (jmt 66) post cut n 9 ls (.int (Int32.ofInt (-1)) :: r) w cb sb) ∧
  (∀ (a : Int32), j_go (jmt 66) post cut (n + 1) 9 ls [.int a] w cb sb ↔ narrow .int (.int a) = .int a ∧ post (some (.int a)) w) ∧
  (∀ (r : List Value), j_go (jmt 66) post cut (n + 1) 10 ls r w cb sb ↔ g_ld ls[0]? (fun v => t_a v ∧ j_k (jmt 66) post cut n 11 ls (v :: r) w cb sb)) ∧
  (∀ (r : List Value) (a : Nat), j_go (jmt 66) post cut (n + 1) 11 ls (.ref a :: r) w cb sb ↔ g_ob 0 (w a) (fun fs => g_v fs[4]? (fun v => j_k (jmt 66) post cut n 14 ls (v :: r) w cb sb))) ∧
  (∀ (r : List Value), j_go (jmt 66) post cut (n + 1) 14 ls r w cb sb ↔ g_ld ls[1]? (fun v => t_i v ∧ j_k (jmt 66) post cut n 15 ls (v :: r) w cb sb)) ∧
  (∀ (r : List Value), j_go (jmt 66) post cut (n + 1) 15 ls r w cb sb ↔ j_k (jmt 66) post cut n 16 ls (.int (Int32.ofInt 1) :: r) w cb sb) ∧
  (∀ (r : List Value) (x y : Int32), j_go (jmt 66) post cut (n + 1) 16 ls (.int y :: .int x :: r) w cb sb ↔ j_k (jmt 66) post cut n 17 ls (.int (x - y) :: r) w cb sb) ∧
  (∀ (r : List Value) (a : Nat) (j : Int32), j_go (jmt 66) post cut (n + 1) 17 ls (.int j :: .ref a :: r) w cb sb ↔ g_qa 6 (w a) (fun m f => vp_in j m ∧ j_k (jmt 66) post cut n 18 ls (va_rf (f j.toNatClampNeg) :: r) w cb sb)) ∧
  (∀ (r : List Value), j_go (jmt 66) post cut (n + 1) 18 ls r w cb sb ↔ j_k (jmt 66) post cut n 19 ls (.int (Int32.ofInt 5) :: r) w cb sb) ∧
  (∀ (r : List Value) (v : Value) (a : Nat), j_go (jmt 66) post cut (n + 1) 19 ls (v :: .ref a :: r) w cb sb ↔ g_ob 7 (w a) (fun fs => 5 < fs.length ∧ j_okv 0 v ∧ j_k (jmt 66) post cut n 22 ls r ((j_up w a (.inr (7, fs.set 5 v)))) cb sb)) ∧
  (∀ (r : List Value), j_go (jmt 66) post cut (n + 1) 22 ls r w cb sb ↔ j_k (jmt 66) post cut n 23 ls (.int (Int32.ofInt 0) :: r) w cb sb) ∧
  (∀ (a : Int32), j_go (jmt 66) post cut (n + 1) 23 ls [.int a] w cb sb ↔ narrow .int (.int a) = .int a ∧ post (some (.int a)) w) := ⟨fun _ => (j_go_s rfl).trans e_aload_n,
  fun _ => (j_go_s rfl).trans e_iload_n,
  fun _ _ _ => (j_go_s rfl).trans e_callv,
  fun _ _ => (j_go_s rfl).trans e_if,
  fun _ => (j_go_s rfl).trans e_iconst,
  fun _ => (j_go_s rfl).trans e_iret,
  fun _ => (j_go_s rfl).trans e_aload_n,
  fun _ _ => (j_go_s rfl).trans e_getf,
  fun _ => (j_go_s rfl).trans e_iload_n,
  fun _ => (j_go_s rfl).trans e_iconst,
  fun _ _ _ => (j_go_s rfl).trans e_isub,
  fun _ _ _ => (j_go_s rfl).trans e_aald,
  fun _ => (j_go_s rfl).trans e_iconst,
  fun _ _ _ => (j_go_s rfl).trans e_putf,
  fun _ => (j_go_s rfl).trans e_iconst,
  fun _ => (j_go_s rfl).trans e_iret⟩
set_option maxRecDepth 100000 in
set_option maxHeartbeats 4000000 in
theorem st_Net_copy {post : Option Value → jW → Prop} {cut : List Nat} {n : Nat} {ls : jL} {w : jW} {cb sb : Nat} : (∀ (r : List Value), j_go (jmt 67) post cut (n + 1) 0 ls r w cb sb ↔ g_ld ls[0]? (fun v => t_a v ∧ j_k (jmt 67) post cut n 1 ls (v :: r) w cb sb)) ∧
  (∀ (r : List Value), j_go (jmt 67) post cut (n + 1) 1 ls r w cb sb ↔ g_ld ls[1]? (fun v => t_i v ∧ j_k (jmt 67) post cut n 2 ls (v :: r) w cb sb)) ∧
  (∀ (r : List Value) (a0 : Value) (b : Nat), j_go (jmt 67) post cut (n + 1) 2 ls (a0 :: .ref b :: r) w cb sb ↔ g_ob 0 (w b) (fun _ => True) ∧ j_w8 r ∧ g_call (jmt 46) [.ref b, a0] w cb sb (fun v w' c s => j_k (jmt 67) post cut n 5 ls (v.toList ++ r) w' c s)) ∧
  (∀ (r : List Value) (a : Int32), j_go (jmt 67) post cut (n + 1) 5 ls (.int a :: r) w cb sb ↔ (¬ a = 0 → j_k (jmt 67) post cut n 10 ls r w cb sb) ∧ (¬ (¬ a = 0) → j_k (jmt 67) post cut n 8 ls r w cb sb)) ∧
  (∀ (r : List Value), j_go (jmt 67) post cut (n + 1) 8 ls r w cb sb ↔ j_k (jmt 67) post cut n 9 ls (.int (Int32.ofInt (-1)) :: r) w cb sb) ∧
  (∀ (a : Int32), j_go (jmt 67) post cut (n + 1) 9 ls [.int a] w cb sb ↔ narrow .int (.int a) = .int a ∧ post (some (.int a)) w) ∧
  (∀ (r : List Value), j_go (jmt 67) post cut (n + 1) 10 ls r w cb sb ↔ g_ld ls[0]? (fun v => t_a v ∧ j_k (jmt 67) post cut n 11 ls (v :: r) w cb sb)) ∧
  (∀ (r : List Value) (a : Nat), j_go (jmt 67) post cut (n + 1) 11 ls (.ref a :: r) w cb sb ↔ g_ob 0 (w a) (fun fs => g_v fs[8]? (fun v => j_k (jmt 67) post cut n 14 ls (v :: r) w cb sb))) ∧
  (∀ (r : List Value), j_go (jmt 67) post cut (n + 1) 14 ls r w cb sb ↔ j_k (jmt 67) post cut n 16 ls (.int (Int8.ofInt 80).toInt32 :: r) w cb sb) ∧
  (∀ (r : List Value) (a b : Int32), j_go (jmt 67) post cut (n + 1) 16 ls (.int b :: .int a :: r) w cb sb ↔ (¬ a = b → j_k (jmt 67) post cut n 22 ls r w cb sb) ∧ (¬ (¬ a = b) → j_k (jmt 67) post cut n 19 ls r w cb sb)) ∧
  (∀ (r : List Value), j_go (jmt 67) post cut (n + 1) 19 ls r w cb sb ↔ j_k (jmt 67) post cut n 21 ls (.int (Int8.ofInt (-2)).toInt32 :: r) w cb sb) ∧
  (∀ (a : Int32), j_go (jmt 67) post cut (n + 1) 21 ls [.int a] w cb sb ↔ narrow .int (.int a) = .int a ∧ post (some (.int a)) w) ∧
  (∀ (r : List Value), j_go (jmt 67) post cut (n + 1) 22 ls r w cb sb ↔ g_ld ls[0]? (fun v => t_a v ∧ j_k (jmt 67) post cut n 23 ls (v :: r) w cb sb)) ∧
  (∀ (r : List Value) (a : Nat), j_go (jmt 67) post cut (n + 1) 23 ls (.ref a :: r) w cb sb ↔ g_ob 0 (w a) (fun fs => g_v fs[4]? (fun v => j_k (jmt 67) post cut n 26 ls (v :: r) w cb sb))) ∧
  (∀ (r : List Value), j_go (jmt 67) post cut (n + 1) 26 ls r w cb sb ↔ g_ld ls[1]? (fun v => t_i v ∧ j_k (jmt 67) post cut n 27 ls (v :: r) w cb sb)) ∧
  (∀ (r : List Value), j_go (jmt 67) post cut (n + 1) 27 ls r w cb sb ↔ j_k (jmt 67) post cut n 28 ls (.int (Int32.ofInt 1) :: r) w cb sb) ∧
  (∀ (r : List Value) (x y : Int32), j_go (jmt 67) post cut (n + 1) 28 ls (.int y :: .int x :: r) w cb sb ↔ j_k (jmt 67) post cut n 29 ls (.int (x - y) :: r) w cb sb) ∧
  (∀ (r : List Value) (a : Nat) (j : Int32), j_go (jmt 67) post cut (n + 1) 29 ls (.int j :: .ref a :: r) w cb sb ↔ g_qa 6 (w a) (fun m f => vp_in j m ∧ j_k (jmt 67) post cut n 30 ls (va_rf (f j.toNatClampNeg) :: r) w cb sb)) ∧
  (∀ (r : List Value) (v : Value), j_go (jmt 67) post cut (n + 1) 30 ls (v :: r) w cb sb ↔ (t_a v ∧ j_ok1 ls 2 = true) ∧ j_k (jmt 67) post cut n 31 (ls.set 2 (some v)) r w cb sb) ∧
  (∀ (r : List Value), j_go (jmt 67) post cut (n + 1) 31 ls r w cb sb ↔ g_ld ls[0]? (fun v => t_a v ∧ j_k (jmt 67) post cut n 32 ls (v :: r) w cb sb)) ∧
  (∀ (r : List Value), j_go (jmt 67) post cut (n + 1) 32 ls r w cb sb ↔ g_ld ls[2]? (fun v => t_a v ∧ j_k (jmt 67) post cut n 33 ls (v :: r) w cb sb)) ∧
  (∀ (r : List Value), j_go (jmt 67) post cut (n + 1) 33 ls r w cb sb ↔ g_ld ls[2]? (fun v => t_a v ∧ j_k (jmt 67) post cut n 34 ls (v :: r) w cb sb)) ∧
  (∀ (r : List Value) (a : Nat), j_go (jmt 67) post cut (n + 1) 34 ls (.ref a :: r) w cb sb ↔ g_ob 7 (w a) (fun fs => g_v fs[1]? (fun v => j_k (jmt 67) post cut n 37 ls (v :: r) w cb sb))) ∧
  (∀ (r : List Value), j_go (jmt 67) post cut (n + 1) 37 ls r w cb sb ↔ g_ld ls[2]? (fun v => t_a v ∧ j_k (jmt 67) post cut n 38 ls (v :: r) w cb sb)) ∧
  (∀ (r : List Value) (a : Nat), j_go (jmt 67) post cut (n + 1) 38 ls (.ref a :: r) w cb sb ↔ g_ob 7 (w a) (fun fs => g_v fs[2]? (fun v => j_k (jmt 67) post cut n 41 ls (v :: r) w cb sb))) ∧
  (∀ (r : List Value) (a0 a1 : Value) (b : Nat), j_go (jmt 67) post cut (n + 1) 41 ls (a1 :: a0 :: .ref b :: r) w cb sb ↔ g_ob 7 (w b) (fun _ => True) ∧ j_w8 r ∧ g_call (jmt 65) [.ref b, a0, a1] w cb sb (fun v w' c s => j_k (jmt 67) post cut n 44 ls (v.toList ++ r) w' c s)) ∧
  (∀ (r : List Value) (a0 : Value) (b : Nat), j_go (jmt 67) post cut (n + 1) 44 ls (a0 :: .ref b :: r) w cb sb ↔ g_ob 0 (w b) (fun _ => True) ∧ j_w8 r ∧ g_call (jmt 44) [.ref b, a0] w cb sb (fun v w' c s => j_k (jmt 67) post cut n 47 ls (v.toList ++ r) w' c s)) ∧
  (∀ (r : List Value), j_go (jmt 67) post cut (n + 1) 47 ls r w cb sb ↔ g_ld ls[0]? (fun v => t_a v ∧ j_k (jmt 67) post cut n 48 ls (v :: r) w cb sb)) ∧
  (∀ (r : List Value) (a : Nat), j_go (jmt 67) post cut (n + 1) 48 ls (.ref a :: r) w cb sb ↔ g_ob 0 (w a) (fun fs => g_v fs[8]? (fun v => j_k (jmt 67) post cut n 51 ls (v :: r) w cb sb))) ∧
  (∀ (a : Int32), j_go (jmt 67) post cut (n + 1) 51 ls [.int a] w cb sb ↔ narrow .int (.int a) = .int a ∧ post (some (.int a)) w) := ⟨fun _ => (j_go_s rfl).trans e_aload_n,
  fun _ => (j_go_s rfl).trans e_iload_n,
  fun _ _ _ => (j_go_s rfl).trans e_callv,
  fun _ _ => (j_go_s rfl).trans e_if,
  fun _ => (j_go_s rfl).trans e_iconst,
  fun _ => (j_go_s rfl).trans e_iret,
  fun _ => (j_go_s rfl).trans e_aload_n,
  fun _ _ => (j_go_s rfl).trans e_getf,
  fun _ => (j_go_s rfl).trans e_bipush,
  fun _ _ _ => (j_go_s rfl).trans e_icmp,
  fun _ => (j_go_s rfl).trans e_bipush,
  fun _ => (j_go_s rfl).trans e_iret,
  fun _ => (j_go_s rfl).trans e_aload_n,
  fun _ _ => (j_go_s rfl).trans e_getf,
  fun _ => (j_go_s rfl).trans e_iload_n,
  fun _ => (j_go_s rfl).trans e_iconst,
  fun _ _ _ => (j_go_s rfl).trans e_isub,
  fun _ _ _ => (j_go_s rfl).trans e_aald,
  fun _ _ => (j_go_s rfl).trans e_astore_n,
  fun _ => (j_go_s rfl).trans e_aload_n,
  fun _ => (j_go_s rfl).trans e_aload_n,
  fun _ => (j_go_s rfl).trans e_aload_n,
  fun _ _ => (j_go_s rfl).trans e_getf,
  fun _ => (j_go_s rfl).trans e_aload_n,
  fun _ _ => (j_go_s rfl).trans e_getf,
  fun _ _ _ _ => (j_go_s rfl).trans e_callv,
  fun _ _ _ => (j_go_s rfl).trans e_callv,
  fun _ => (j_go_s rfl).trans e_aload_n,
  fun _ _ => (j_go_s rfl).trans e_getf,
  fun _ => (j_go_s rfl).trans e_iret⟩
