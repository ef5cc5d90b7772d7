set_option maxRecDepth 100000 in
set_option maxHeartbeats 4000000 in
theorem st_Chart_init {post : Option Value → jW → Prop} {cut : List Nat} {n : Nat} {ls : jL} {w : jW} {cb sb : Nat} : (∀ (r : List Value), j_go (jmt 1) post cut (n + 1) 0 ls r w cb sb ↔ g_ld ls[0]? (fun v => t_a v ∧ j_k (jmt 1) post cut n 1 ls (v :: r) w cb sb)) ∧
  (∀ (r : List Value) (a : Nat), j_go (jmt 1) post cut (n + 1) 1 ls (.ref a :: r) w cb sb ↔ j_w8 r ∧ j_k (jmt 1) post cut n 4 ls r w cb sb) ∧
  (∀ (r : List Value), j_go (jmt 1) post cut (n + 1) 4 ls r w cb sb ↔ g_ld ls[0]? (fun v => t_a v ∧ j_k (jmt 1) post cut n 5 ls (v :: r) w cb sb)) ∧
  (∀ (r : List Value), j_go (jmt 1) post cut (n + 1) 5 ls r w cb sb ↔ j_k (jmt 1) post cut n 7 ls (.int (Int8.ofInt 8).toInt32 :: r) w cb sb) ∧
  (∀ (r : List Value) (z : Int32), j_go (jmt 1) post cut (n + 1) 7 ls (.int z :: r) w cb sb ↔ ¬ z < 0 ∧ 1 ≤ cb ∧ z.toNatClampNeg ≤ sb ∧ z.toNatClampNeg ≤ 60000000 ∧ ∀ a, w a = none → j_k (jmt 1) post cut n 9 ls (.ref a :: r) ((j_up w a (.inl (0, z.toNatClampNeg, .inl (fun _ => 0))))) ((cb - 1)) ((sb - z.toNatClampNeg))) ∧
  (∀ (r : List Value) (v : Value) (a : Nat), j_go (jmt 1) post cut (n + 1) 9 ls (v :: .ref a :: r) w cb sb ↔ g_ob 5 (w a) (fun fs => 0 < fs.length ∧ j_okv 2 v ∧ j_k (jmt 1) post cut n 12 ls r ((j_up w a (.inr (5, fs.set 0 v)))) cb sb)) ∧
  (∀ (r : List Value), j_go (jmt 1) post cut (n + 1) 12 ls r w cb sb ↔ g_ld ls[0]? (fun v => t_a v ∧ j_k (jmt 1) post cut n 13 ls (v :: r) w cb sb)) ∧
  (∀ (r : List Value), j_go (jmt 1) post cut (n + 1) 13 ls r w cb sb ↔ j_k (jmt 1) post cut n 15 ls (.int (Int8.ofInt 8).toInt32 :: r) w cb sb) ∧
  (∀ (r : List Value) (z : Int32), j_go (jmt 1) post cut (n + 1) 15 ls (.int z :: r) w cb sb ↔ ¬ z < 0 ∧ 1 ≤ cb ∧ z.toNatClampNeg ≤ sb ∧ z.toNatClampNeg ≤ 60000000 ∧ ∀ a, w a = none → j_k (jmt 1) post cut n 17 ls (.ref a :: r) ((j_up w a (.inl (0, z.toNatClampNeg, .inl (fun _ => 0))))) ((cb - 1)) ((sb - z.toNatClampNeg))) ∧
  (∀ (r : List Value) (v : Value) (a : Nat), j_go (jmt 1) post cut (n + 1) 17 ls (v :: .ref a :: r) w cb sb ↔ g_ob 5 (w a) (fun fs => 1 < fs.length ∧ j_okv 2 v ∧ j_k (jmt 1) post cut n 20 ls r ((j_up w a (.inr (5, fs.set 1 v)))) cb sb)) ∧
  (∀ (r : List Value), j_go (jmt 1) post cut (n + 1) 20 ls r w cb sb ↔ g_ld ls[0]? (fun v => t_a v ∧ j_k (jmt 1) post cut n 21 ls (v :: r) w cb sb)) ∧
  (∀ (r : List Value), j_go (jmt 1) post cut (n + 1) 21 ls r w cb sb ↔ j_k (jmt 1) post cut n 23 ls (.int (Int8.ofInt 12).toInt32 :: r) w cb sb) ∧
  (∀ (r : List Value) (z : Int32), j_go (jmt 1) post cut (n + 1) 23 ls (.int z :: r) w cb sb ↔ ¬ z < 0 ∧ 1 ≤ cb ∧ z.toNatClampNeg ≤ sb ∧ z.toNatClampNeg ≤ 60000000 ∧ ∀ a, w a = none → j_k (jmt 1) post cut n 25 ls (.ref a :: r) ((j_up w a (.inl (1, z.toNatClampNeg, .inl (fun _ => 0))))) ((cb - 1)) ((sb - z.toNatClampNeg))) ∧
  (∀ (r : List Value) (v : Value) (a : Nat), j_go (jmt 1) post cut (n + 1) 25 ls (v :: .ref a :: r) w cb sb ↔ g_ob 5 (w a) (fun fs => 2 < fs.length ∧ j_okv 2 v ∧ j_k (jmt 1) post cut n 28 ls r ((j_up w a (.inr (5, fs.set 2 v)))) cb sb)) ∧
  (j_go (jmt 1) post cut (n + 1) 28 ls [] w cb sb ↔ post none w) := ⟨fun _ => (j_go_s rfl).trans e_aload_n,
  fun _ _ => (j_go_s rfl).trans e_objinit,
  fun _ => (j_go_s rfl).trans e_aload_n,
  fun _ => (j_go_s rfl).trans e_bipush,
  fun _ _ => (j_go_s rfl).trans e_newi,
  fun _ _ _ => (j_go_s rfl).trans e_putf,
  fun _ => (j_go_s rfl).trans e_aload_n,
  fun _ => (j_go_s rfl).trans e_bipush,
  fun _ _ => (j_go_s rfl).trans e_newi,
  fun _ _ _ => (j_go_s rfl).trans e_putf,
  fun _ => (j_go_s rfl).trans e_aload_n,
  fun _ => (j_go_s rfl).trans e_bipush,
  fun _ _ => (j_go_s rfl).trans e_newz,
  fun _ _ _ => (j_go_s rfl).trans e_putf,
  (j_go_s rfl).trans e_vret⟩
set_option maxRecDepth 100000 in
set_option maxHeartbeats 4000000 in
theorem st_Math_min {post : Option Value → jW → Prop} {cut : List Nat} {n : Nat} {ls : jL} {w : jW} {cb sb : Nat} : (∀ (r : List Value), j_go (jmt 2) post cut (n + 1) 0 ls r w cb sb ↔ g_ld ls[0]? (fun v => t_i v ∧ j_k (jmt 2) post cut n 1 ls (v :: r) w cb sb)) ∧
  (∀ (r : List Value), j_go (jmt 2) post cut (n + 1) 1 ls r w cb sb ↔ g_ld ls[1]? (fun v => t_i v ∧ j_k (jmt 2) post cut n 2 ls (v :: r) w cb sb)) ∧
  (∀ (r : List Value) (a b : Int32), j_go (jmt 2) post cut (n + 1) 2 ls (.int b :: .int a :: r) w cb sb ↔ (b < a → j_k (jmt 2) post cut n 9 ls r w cb sb) ∧ (¬ (b < a) → j_k (jmt 2) post cut n 5 ls r w cb sb)) ∧
  (∀ (r : List Value), j_go (jmt 2) post cut (n + 1) 5 ls r w cb sb ↔ g_ld ls[0]? (fun v => t_i v ∧ j_k (jmt 2) post cut n 6 ls (v :: r) w cb sb)) ∧
  (∀ (r : List Value), j_go (jmt 2) post cut (n + 1) 6 ls r w cb sb ↔ j_k (jmt 2) post cut n 10 ls r w cb sb) ∧
  (∀ (r : List Value), j_go (jmt 2) post cut (n + 1) 9 ls r w cb sb ↔ g_ld ls[1]? (fun v => t_i v ∧ j_k (jmt 2) post cut n 10 ls (v :: r) w cb sb)) ∧
  (∀ (a : Int32), j_go (jmt 2) post cut (n + 1) 10 ls [.int a] w cb sb ↔ narrow .int (.int a) = .int a ∧ post (some (.int a)) w) := ⟨fun _ => (j_go_s rfl).trans e_iload_n,
  fun _ => (j_go_s rfl).trans e_iload_n,
  fun _ _ _ => (j_go_s rfl).trans e_icmp,
  fun _ => (j_go_s rfl).trans e_iload_n,
  fun _ => (j_go_s rfl).trans e_goto,
  fun _ => (j_go_s rfl).trans e_iload_n,
  fun _ => (j_go_s rfl).trans e_iret⟩
set_option maxRecDepth 100000 in
set_option maxHeartbeats 4000000 in
theorem st_Math_max {post : Option Value → jW → Prop} {cut : List Nat} {n : Nat} {ls : jL} {w : jW} {cb sb : Nat} : (∀ (r : List Value), j_go (jmt 3) post cut (n + 1) 0 ls r w cb sb ↔ g_ld ls[0]? (fun v => t_i v ∧ j_k (jmt 3) post cut n 1 ls (v :: r) w cb sb)) ∧
  (∀ (r : List Value), j_go (jmt 3) post cut (n + 1) 1 ls r w cb sb ↔ g_ld ls[1]? (fun v => t_i v ∧ j_k (jmt 3) post cut n 2 ls (v :: r) w cb sb)) ∧
  (∀ (r : List Value) (a b : Int32), j_go (jmt 3) post cut (n + 1) 2 ls (.int b :: .int a :: r) w cb sb ↔ (a < b → j_k (jmt 3) post cut n 9 ls r w cb sb) ∧ (¬ (a < b) → j_k (jmt 3) post cut n 5 ls r w cb sb)) ∧
  (∀ (r : List Value), j_go (jmt 3) post cut (n + 1) 5 ls r w cb sb ↔ g_ld ls[0]? (fun v => t_i v ∧ j_k (jmt 3) post cut n 6 ls (v :: r) w cb sb)) ∧
  (∀ (r : List Value), j_go (jmt 3) post cut (n + 1) 6 ls r w cb sb ↔ j_k (jmt 3) post cut n 10 ls r w cb sb) ∧
  (∀ (r : List Value), j_go (jmt 3) post cut (n + 1) 9 ls r w cb sb ↔ g_ld ls[1]? (fun v => t_i v ∧ j_k (jmt 3) post cut n 10 ls (v :: r) w cb sb)) ∧
  (∀ (a : Int32), j_go (jmt 3) post cut (n + 1) 10 ls [.int a] w cb sb ↔ narrow .int (.int a) = .int a ∧ post (some (.int a)) w) := ⟨fun _ => (j_go_s rfl).trans e_iload_n,
  fun _ => (j_go_s rfl).trans e_iload_n,
  fun _ _ _ => (j_go_s rfl).trans e_icmp,
  fun _ => (j_go_s rfl).trans e_iload_n,
  fun _ => (j_go_s rfl).trans e_goto,
  fun _ => (j_go_s rfl).trans e_iload_n,
  fun _ => (j_go_s rfl).trans e_iret⟩
set_option maxRecDepth 100000 in
set_option maxHeartbeats 4000000 in
theorem st_Router_init {post : Option Value → jW → Prop} {cut : List Nat} {n : Nat} {ls : jL} {w : jW} {cb sb : Nat} : (∀ (r : List Value), j_go (jmt 4) post cut (n + 1) 0 ls r w cb sb ↔ g_ld ls[0]? (fun v => t_a v ∧ j_k (jmt 4) post cut n 1 ls (v :: r) w cb sb)) ∧
  (∀ (r : List Value) (a : Nat), j_go (jmt 4) post cut (n + 1) 1 ls (.ref a :: r) w cb sb ↔ j_w8 r ∧ j_k (jmt 4) post cut n 4 ls r w cb sb) ∧
  (∀ (r : List Value), j_go (jmt 4) post cut (n + 1) 4 ls r w cb sb ↔ g_ld ls[0]? (fun v => t_a v ∧ j_k (jmt 4) post cut n 5 ls (v :: r) w cb sb)) ∧
  (∀ (r : List Value), j_go (jmt 4) post cut (n + 1) 5 ls r w cb sb ↔ j_k (jmt 4) post cut n 6 ls (.int (Int32.ofInt 3) :: r) w cb sb) ∧
  (∀ (r : List Value) (z : Int32), j_go (jmt 4) post cut (n + 1) 6 ls (.int z :: r) w cb sb ↔ ¬ z < 0 ∧ 1 ≤ cb ∧ z.toNatClampNeg ≤ sb ∧ z.toNatClampNeg ≤ 60000000 ∧ ∀ a, w a = none → j_k (jmt 4) post cut n 8 ls (.ref a :: r) ((j_up w a (.inl (0, z.toNatClampNeg, .inl (fun _ => 0))))) ((cb - 1)) ((sb - z.toNatClampNeg))) ∧
  (∀ (r : List Value) (v : Value) (a : Nat), j_go (jmt 4) post cut (n + 1) 8 ls (v :: .ref a :: r) w cb sb ↔ g_ob 1 (w a) (fun fs => 0 < fs.length ∧ j_okv 2 v ∧ j_k (jmt 4) post cut n 11 ls r ((j_up w a (.inr (1, fs.set 0 v)))) cb sb)) ∧
  (∀ (r : List Value), j_go (jmt 4) post cut (n + 1) 11 ls r w cb sb ↔ g_ld ls[0]? (fun v => t_a v ∧ j_k (jmt 4) post cut n 12 ls (v :: r) w cb sb)) ∧
  (∀ (r : List Value), j_go (jmt 4) post cut (n + 1) 12 ls r w cb sb ↔ j_k (jmt 4) post cut n 14 ls (.int (Int8.ofInt 8).toInt32 :: r) w cb sb) ∧
  (∀ (r : List Value) (z : Int32), j_go (jmt 4) post cut (n + 1) 14 ls (.int z :: r) w cb sb ↔ ¬ z < 0 ∧ 1 ≤ cb ∧ z.toNatClampNeg ≤ sb ∧ z.toNatClampNeg ≤ 60000000 ∧ ∀ a, w a = none → j_k (jmt 4) post cut n 17 ls (.ref a :: r) ((j_up w a (.inl (7, z.toNatClampNeg, .inr (.inr (.inr (.inr (fun _ => none)))))))) ((cb - 1)) ((sb - z.toNatClampNeg))) ∧
  (∀ (r : List Value) (v : Value) (a : Nat), j_go (jmt 4) post cut (n + 1) 17 ls (v :: .ref a :: r) w cb sb ↔ g_ob 1 (w a) (fun fs => 1 < fs.length ∧ j_okv 2 v ∧ j_k (jmt 4) post cut n 20 ls r ((j_up w a (.inr (1, fs.set 1 v)))) cb sb)) ∧
  (j_go (jmt 4) post cut (n + 1) 20 ls [] w cb sb ↔ post none w) := ⟨fun _ => (j_go_s rfl).trans e_aload_n,
  fun _ _ => (j_go_s rfl).trans e_objinit,
  fun _ => (j_go_s rfl).trans e_aload_n,
  fun _ => (j_go_s rfl).trans e_iconst,
  fun _ _ => (j_go_s rfl).trans e_newi,
  fun _ _ _ => (j_go_s rfl).trans e_putf,
  fun _ => (j_go_s rfl).trans e_aload_n,
  fun _ => (j_go_s rfl).trans e_bipush,
  fun _ _ => (j_go_s rfl).trans e_newq,
  fun _ _ _ => (j_go_s rfl).trans e_putf,
  (j_go_s rfl).trans e_vret⟩
set_option maxRecDepth 100000 in
set_option maxHeartbeats 4000000 in
theorem st_Link_init {post : Option Value → jW → Prop} {cut : List Nat} {n : Nat} {ls : jL} {w : jW} {cb sb : Nat} : (∀ (r : List Value), j_go (jmt 8) post cut (n + 1) 0 ls r w cb sb ↔ g_ld ls[0]? (fun v => t_a v ∧ j_k (jmt 8) post cut n 1 ls (v :: r) w cb sb)) ∧
  (∀ (r : List Value) (a : Nat), j_go (jmt 8) post cut (n + 1) 1 ls (.ref a :: r) w cb sb ↔ j_w8 r ∧ j_k (jmt 8) post cut n 4 ls r w cb sb) ∧
  (∀ (r : List Value), j_go (jmt 8) post cut (n + 1) 4 ls r w cb sb ↔ g_ld ls[0]? (fun v => t_a v ∧ j_k (jmt 8) post cut n 5 ls (v :: r) w cb sb)) ∧
  (∀ (r : List Value), j_go (jmt 8) post cut (n + 1) 5 ls r w cb sb ↔ 1 ≤ cb ∧ 3 ≤ sb ∧ ∀ a, w a = none → j_k (jmt 8) post cut n 8 ls (.ref a :: r) ((j_up w a (.inr (3, [.null, .int 0, .int 0])))) ((cb - 1)) ((sb - 3))) ∧
  (∀ (r : List Value) (v : Value), j_go (jmt 8) post cut (n + 1) 8 ls (v :: r) w cb sb ↔ v.category = 1 ∧ j_k (jmt 8) post cut n 9 ls (v :: v :: r) w cb sb) ∧
  (∀ (r : List Value)  (b : Nat), j_go (jmt 8) post cut (n + 1) 9 ls (.ref b :: r) w cb sb ↔ j_w8 r ∧ g_call (jmt 9) [.ref b] w cb sb (fun v w' c s => j_k (jmt 8) post cut n 12 ls (v.toList ++ r) w' c s)) ∧
  (∀ (r : List Value) (v : Value) (a : Nat), j_go (jmt 8) post cut (n + 1) 12 ls (v :: .ref a :: r) w cb sb ↔ g_ob 2 (w a) (fun fs => 4 < fs.length ∧ j_okv 2 v ∧ j_k (jmt 8) post cut n 15 ls r ((j_up w a (.inr (2, fs.set 4 v)))) cb sb)) ∧
  (∀ (r : List Value), j_go (jmt 8) post cut (n + 1) 15 ls r w cb sb ↔ g_ld ls[0]? (fun v => t_a v ∧ j_k (jmt 8) post cut n 16 ls (v :: r) w cb sb)) ∧
  (∀ (r : List Value), j_go (jmt 8) post cut (n + 1) 16 ls r w cb sb ↔ 1 ≤ cb ∧ 3 ≤ sb ∧ ∀ a, w a = none → j_k (jmt 8) post cut n 19 ls (.ref a :: r) ((j_up w a (.inr (3, [.null, .int 0, .int 0])))) ((cb - 1)) ((sb - 3))) ∧
  (∀ (r : List Value) (v : Value), j_go (jmt 8) post cut (n + 1) 19 ls (v :: r) w cb sb ↔ v.category = 1 ∧ j_k (jmt 8) post cut n 20 ls (v :: v :: r) w cb sb) ∧
  (∀ (r : List Value)  (b : Nat), j_go (jmt 8) post cut (n + 1) 20 ls (.ref b :: r) w cb sb ↔ j_w8 r ∧ g_call (jmt 9) [.ref b] w cb sb (fun v w' c s => j_k (jmt 8) post cut n 23 ls (v.toList ++ r) w' c s)) ∧
  (∀ (r : List Value) (v : Value) (a : Nat), j_go (jmt 8) post cut (n + 1) 23 ls (v :: .ref a :: r) w cb sb ↔ g_ob 2 (w a) (fun fs => 5 < fs.length ∧ j_okv 2 v ∧ j_k (jmt 8) post cut n 26 ls r ((j_up w a (.inr (2, fs.set 5 v)))) cb sb)) ∧
  (∀ (r : List Value), j_go (jmt 8) post cut (n + 1) 26 ls r w cb sb ↔ g_ld ls[0]? (fun v => t_a v ∧ j_k (jmt 8) post cut n 27 ls (v :: r) w cb sb)) ∧
  (∀ (r : List Value), j_go (jmt 8) post cut (n + 1) 27 ls r w cb sb ↔ g_ld ls[1]? (fun v => t_i v ∧ j_k (jmt 8) post cut n 28 ls (v :: r) w cb sb)) ∧
  (∀ (r : List Value) (v : Value) (a : Nat), j_go (jmt 8) post cut (n + 1) 28 ls (v :: .ref a :: r) w cb sb ↔ g_ob 2 (w a) (fun fs => 0 < fs.length ∧ j_okv 0 v ∧ j_k (jmt 8) post cut n 31 ls r ((j_up w a (.inr (2, fs.set 0 v)))) cb sb)) ∧
  (∀ (r : List Value), j_go (jmt 8) post cut (n + 1) 31 ls r w cb sb ↔ g_ld ls[0]? (fun v => t_a v ∧ j_k (jmt 8) post cut n 32 ls (v :: r) w cb sb)) ∧
  (∀ (r : List Value), j_go (jmt 8) post cut (n + 1) 32 ls r w cb sb ↔ g_ld ls[2]? (fun v => t_i v ∧ j_k (jmt 8) post cut n 33 ls (v :: r) w cb sb)) ∧
  (∀ (r : List Value) (v : Value) (a : Nat), j_go (jmt 8) post cut (n + 1) 33 ls (v :: .ref a :: r) w cb sb ↔ g_ob 2 (w a) (fun fs => 1 < fs.length ∧ j_okv 0 v ∧ j_k (jmt 8) post cut n 36 ls r ((j_up w a (.inr (2, fs.set 1 v)))) cb sb)) ∧
  (∀ (r : List Value), j_go (jmt 8) post cut (n + 1) 36 ls r w cb sb ↔ g_ld ls[0]? (fun v => t_a v ∧ j_k (jmt 8) post cut n 37 ls (v :: r) w cb sb)) ∧
  (∀ (r : List Value), j_go (jmt 8) post cut (n + 1) 37 ls r w cb sb ↔ g_ld ls[3]? (fun v => t_i v ∧ j_k (jmt 8) post cut n 38 ls (v :: r) w cb sb)) ∧
  (∀ (r : List Value) (v : Value) (a : Nat), j_go (jmt 8) post cut (n + 1) 38 ls (v :: .ref a :: r) w cb sb ↔ g_ob 2 (w a) (fun fs => 2 < fs.length ∧ j_okv 0 v ∧ j_k (jmt 8) post cut n 41 ls r ((j_up w a (.inr (2, fs.set 2 v)))) cb sb)) ∧
  (∀ (r : List Value), j_go (jmt 8) post cut (n + 1) 41 ls r w cb sb ↔ g_ld ls[0]? (fun v => t_a v ∧ j_k (jmt 8) post cut n 42 ls (v :: r) w cb sb)) ∧
  (∀ (r : List Value), j_go (jmt 8) post cut (n + 1) 42 ls r w cb sb ↔ g_ld ls[4]? (fun v => t_i v ∧ j_k (jmt 8) post cut n 44 ls (v :: r) w cb sb)) ∧
  (∀ (r : List Value) (v : Value) (a : Nat), j_go (jmt 8) post cut (n + 1) 44 ls (v :: .ref a :: r) w cb sb ↔ g_ob 2 (w a) (fun fs => 3 < fs.length ∧ j_okv 0 v ∧ j_k (jmt 8) post cut n 47 ls r ((j_up w a (.inr (2, fs.set 3 v)))) cb sb)) ∧
  (j_go (jmt 8) post cut (n + 1) 47 ls [] w cb sb ↔ post none w) := ⟨fun _ => (j_go_s rfl).trans e_aload_n,
  fun _ _ => (j_go_s rfl).trans e_objinit,
  fun _ => (j_go_s rfl).trans e_aload_n,
  fun _ => (j_go_s rfl).trans e_new,
  fun _ _ => (j_go_s rfl).trans e_dup,
  fun _ _ => (j_go_s rfl).trans e_calli,
  fun _ _ _ => (j_go_s rfl).trans e_putf,
  fun _ => (j_go_s rfl).trans e_aload_n,
  fun _ => (j_go_s rfl).trans e_new,
  fun _ _ => (j_go_s rfl).trans e_dup,
  fun _ _ => (j_go_s rfl).trans e_calli,
  fun _ _ _ => (j_go_s rfl).trans e_putf,
  fun _ => (j_go_s rfl).trans e_aload_n,
  fun _ => (j_go_s rfl).trans e_iload_n,
  fun _ _ _ => (j_go_s rfl).trans e_putf,
  fun _ => (j_go_s rfl).trans e_aload_n,
  fun _ => (j_go_s rfl).trans e_iload_n,
  fun _ _ _ => (j_go_s rfl).trans e_putf,
  fun _ => (j_go_s rfl).trans e_aload_n,
  fun _ => (j_go_s rfl).trans e_iload_n,
  fun _ _ _ => (j_go_s rfl).trans e_putf,
  fun _ => (j_go_s rfl).trans e_aload_n,
  fun _ => (j_go_s rfl).trans e_iload,
  fun _ _ _ => (j_go_s rfl).trans e_putf,
  (j_go_s rfl).trans e_vret⟩
set_option maxRecDepth 100000 in
set_option maxHeartbeats 4000000 in
theorem st_Lane_init {post : Option Value → jW → Prop} {cut : List Nat} {n : Nat} {ls : jL} {w : jW} {cb sb : Nat} : (∀ (r : List Value), j_go (jmt 9) post cut (n + 1) 0 ls r w cb sb ↔ g_ld ls[0]? (fun v => t_a v ∧ j_k (jmt 9) post cut n 1 ls (v :: r) w cb sb)) ∧
  (∀ (r : List Value) (a : Nat), j_go (jmt 9) post cut (n + 1) 1 ls (.ref a :: r) w cb sb ↔ j_w8 r ∧ j_k (jmt 9) post cut n 4 ls r w cb sb) ∧
  (∀ (r : List Value), j_go (jmt 9) post cut (n + 1) 4 ls r w cb sb ↔ g_ld ls[0]? (fun v => t_a v ∧ j_k (jmt 9) post cut n 5 ls (v :: r) w cb sb)) ∧
  (∀ (r : List Value), j_go (jmt 9) post cut (n + 1) 5 ls r w cb sb ↔ j_k (jmt 9) post cut n 7 ls (.int (Int8.ofInt 20).toInt32 :: r) w cb sb) ∧
  (∀ (r : List Value) (z : Int32), j_go (jmt 9) post cut (n + 1) 7 ls (.int z :: r) w cb sb ↔ ¬ z < 0 ∧ 1 ≤ cb ∧ z.toNatClampNeg ≤ sb ∧ z.toNatClampNeg ≤ 60000000 ∧ ∀ a, w a = none → j_k (jmt 9) post cut n 10 ls (.ref a :: r) ((j_up w a (.inl (7, z.toNatClampNeg, .inr (.inr (.inr (.inr (fun _ => none)))))))) ((cb - 1)) ((sb - z.toNatClampNeg))) ∧
  (∀ (r : List Value) (v : Value) (a : Nat), j_go (jmt 9) post cut (n + 1) 10 ls (v :: .ref a :: r) w cb sb ↔ g_ob 3 (w a) (fun fs => 0 < fs.length ∧ j_okv 2 v ∧ j_k (jmt 9) post cut n 13 ls r ((j_up w a (.inr (3, fs.set 0 v)))) cb sb)) ∧
  (j_go (jmt 9) post cut (n + 1) 13 ls [] w cb sb ↔ post none w) := ⟨fun _ => (j_go_s rfl).trans e_aload_n,
  fun _ _ => (j_go_s rfl).trans e_objinit,
  fun _ => (j_go_s rfl).trans e_aload_n,
  fun _ => (j_go_s rfl).trans e_bipush,
  fun _ _ => (j_go_s rfl).trans e_newq,
  fun _ _ _ => (j_go_s rfl).trans e_putf,
  (j_go_s rfl).trans e_vret⟩
set_option maxRecDepth 100000 in
set_option maxHeartbeats 4000000 in
theorem st_Link_touches {post : Option Value → jW → Prop} {cut : List Nat} {n : Nat} {ls : jL} {w : jW} {cb sb : Nat} : (∀ (r : List Value), j_go (jmt 13) post cut (n + 1) 0 ls r w cb sb ↔ g_ld ls[1]? (fun v => t_i v ∧ j_k (jmt 13) post cut n 1 ls (v :: r) w cb sb)) ∧
  (∀ (r : List Value), j_go (jmt 13) post cut (n + 1) 1 ls r w cb sb ↔ g_ld ls[0]? (fun v => t_a v ∧ j_k (jmt 13) post cut n 2 ls (v :: r) w cb sb)) ∧
  (∀ (r : List Value) (a : Nat), j_go (jmt 13) post cut (n + 1) 2 ls (.ref a :: r) w cb sb ↔ g_ob 2 (w a) (fun fs => g_v fs[0]? (fun v => j_k (jmt 13) post cut n 5 ls (v :: r) w cb sb))) ∧
  (∀ (r : List Value) (a b : Int32), j_go (jmt 13) post cut (n + 1) 5 ls (.int b :: .int a :: r) w cb sb ↔ (a = b → j_k (jmt 13) post cut n 16 ls r w cb sb) ∧ (¬ (a = b) → j_k (jmt 13) post cut n 8 ls r w cb sb)) ∧
  (∀ (r : List Value), j_go (jmt 13) post cut (n + 1) 8 ls r w cb sb ↔ g_ld ls[1]? (fun v => t_i v ∧ j_k (jmt 13) post cut n 9 ls (v :: r) w cb sb)) ∧
  (∀ (r : List Value), j_go (jmt 13) post cut (n + 1) 9 ls r w cb sb ↔ g_ld ls[0]? (fun v => t_a v ∧ j_k (jmt 13) post cut n 10 ls (v :: r) w cb sb)) ∧
  (∀ (r : List Value) (a : Nat), j_go (jmt 13) post cut (n + 1) 10 ls (.ref a :: r) w cb sb ↔ g_ob 2 (w a) (fun fs => g_v fs[1]? (fun v => j_k (jmt 13) post cut n 13 ls (v :: r) w cb sb))) ∧
  (∀ (r : List Value) (a b : Int32), j_go (jmt 13) post cut (n + 1) 13 ls (.int b :: .int a :: r) w cb sb ↔ (¬ a = b → j_k (jmt 13) post cut n 20 ls r w cb sb) ∧ (¬ (¬ a = b) → j_k (jmt 13) post cut n 16 ls r w cb sb)) ∧
  (∀ (r : List Value), j_go (jmt 13) post cut (n + 1) 16 ls r w cb sb ↔ j_k (jmt 13) post cut n 17 ls (.int (Int32.ofInt 1) :: r) w cb sb) ∧
  (∀ (r : List Value), j_go (jmt 13) post cut (n + 1) 17 ls r w cb sb ↔ j_k (jmt 13) post cut n 21 ls r w cb sb) ∧
  (∀ (r : List Value), j_go (jmt 13) post cut (n + 1) 20 ls r w cb sb ↔ j_k (jmt 13) post cut n 21 ls (.int (Int32.ofInt 0) :: r) w cb sb) ∧
  (∀ (a : Int32), j_go (jmt 13) post cut (n + 1) 21 ls [.int a] w cb sb ↔ narrow .boolean (.int a) = .int a ∧ post (some (.int a)) w) := ⟨fun _ => (j_go_s rfl).trans e_iload_n,
  fun _ => (j_go_s rfl).trans e_aload_n,
  fun _ _ => (j_go_s rfl).trans e_getf,
  fun _ _ _ => (j_go_s rfl).trans e_icmp,
  fun _ => (j_go_s rfl).trans e_iload_n,
  fun _ => (j_go_s rfl).trans e_aload_n,
  fun _ _ => (j_go_s rfl).trans e_getf,
  fun _ _ _ => (j_go_s rfl).trans e_icmp,
  fun _ => (j_go_s rfl).trans e_iconst,
  fun _ => (j_go_s rfl).trans e_goto,
  fun _ => (j_go_s rfl).trans e_iconst,
  fun _ => (j_go_s rfl).trans e_iret⟩
set_option maxRecDepth 100000 in
set_option maxHeartbeats 4000000 in
theorem st_Router_makeAdvert {post : Option Value → jW → Prop} {cut : List Nat} {n : Nat} {ls : jL} {w : jW} {cb sb : Nat} : (∀ (r : List Value), j_go (jmt 14) post cut (n + 1) 0 ls r w cb sb ↔ g_ld ls[0]? (fun v => t_a v ∧ j_k (jmt 14) post cut n 1 ls (v :: r) w cb sb)) ∧
  (∀ (r : List Value) (v : Value), j_go (jmt 14) post cut (n + 1) 1 ls (v :: r) w cb sb ↔ v.category = 1 ∧ j_k (jmt 14) post cut n 2 ls (v :: v :: r) w cb sb) ∧
  (∀ (r : List Value) (a : Nat), j_go (jmt 14) post cut (n + 1) 2 ls (.ref a :: r) w cb sb ↔ g_ob 1 (w a) (fun fs => g_v fs[3]? (fun v => j_k (jmt 14) post cut n 5 ls (v :: r) w cb sb))) ∧
  (∀ (r : List Value), j_go (jmt 14) post cut (n + 1) 5 ls r w cb sb ↔ j_k (jmt 14) post cut n 6 ls (.int (Int32.ofInt 1) :: r) w cb sb) ∧
  (∀ (r : List Value) (x y : Int32), j_go (jmt 14) post cut (n + 1) 6 ls (.int y :: .int x :: r) w cb sb ↔ j_k (jmt 14) post cut n 7 ls (.int (x + y) :: r) w cb sb) ∧
  (∀ (r : List Value) (v : Value) (a : Nat), j_go (jmt 14) post cut (n + 1) 7 ls (v :: .ref a :: r) w cb sb ↔ g_ob 1 (w a) (fun fs => 3 < fs.length ∧ j_okv 0 v ∧ j_k (jmt 14) post cut n 10 ls r ((j_up w a (.inr (1, fs.set 3 v)))) cb sb)) ∧
  (∀ (r : List Value), j_go (jmt 14) post cut (n + 1) 10 ls r w cb sb ↔ 1 ≤ cb ∧ 4 ≤ sb ∧ ∀ a, w a = none → j_k (jmt 14) post cut n 13 ls (.ref a :: r) ((j_up w a (.inr (4, [.int 0, .int 0, .int 0, .null])))) ((cb - 1)) ((sb - 4))) ∧
  (∀ (r : List Value) (v : Value), j_go (jmt 14) post cut (n + 1) 13 ls (v :: r) w cb sb ↔ v.category = 1 ∧ j_k (jmt 14) post cut n 14 ls (v :: v :: r) w cb sb) ∧
  (∀ (r : List Value), j_go (jmt 14) post cut (n + 1) 14 ls r w cb sb ↔ g_ld ls[1]? (fun v => t_i v ∧ j_k (jmt 14) post cut n 15 ls (v :: r) w cb sb)) ∧
  (∀ (r : List Value), j_go (jmt 14) post cut (n + 1) 15 ls r w cb sb ↔ g_ld ls[0]? (fun v => t_a v ∧ j_k (jmt 14) post cut n 16 ls (v :: r) w cb sb)) ∧
  (∀ (r : List Value) (a : Nat), j_go (jmt 14) post cut (n + 1) 16 ls (.ref a :: r) w cb sb ↔ g_ob 1 (w a) (fun fs => g_v fs[3]? (fun v => j_k (jmt 14) post cut n 19 ls (v :: r) w cb sb))) ∧
  (∀ (r : List Value), j_go (jmt 14) post cut (n + 1) 19 ls r w cb sb ↔ g_ld ls[2]? (fun v => t_i v ∧ j_k (jmt 14) post cut n 20 ls (v :: r) w cb sb)) ∧
  (∀ (r : List Value), j_go (jmt 14) post cut (n + 1) 20 ls r w cb sb ↔ g_ld ls[0]? (fun v => t_a v ∧ j_k (jmt 14) post cut n 21 ls (v :: r) w cb sb)) ∧
  (∀ (r : List Value) (a : Nat), j_go (jmt 14) post cut (n + 1) 21 ls (.ref a :: r) w cb sb ↔ g_ob 1 (w a) (fun fs => g_v fs[0]? (fun v => j_k (jmt 14) post cut n 24 ls (v :: r) w cb sb))) ∧
  (∀ (r : List Value), j_go (jmt 14) post cut (n + 1) 24 ls r w cb sb ↔ g_ld ls[0]? (fun v => t_a v ∧ j_k (jmt 14) post cut n 25 ls (v :: r) w cb sb)) ∧
  (∀ (r : List Value) (a : Nat), j_go (jmt 14) post cut (n + 1) 25 ls (.ref a :: r) w cb sb ↔ g_ob 1 (w a) (fun fs => g_v fs[2]? (fun v => j_k (jmt 14) post cut n 28 ls (v :: r) w cb sb))) ∧
  (∀ (r : List Value) (a0 a1 : Value), j_go (jmt 14) post cut (n + 1) 28 ls (a1 :: a0 :: r) w cb sb ↔ j_w8 r ∧ g_call (jmt 15) [a0, a1] w cb sb (fun v w' c s => j_k (jmt 14) post cut n 31 ls (v.toList ++ r) w' c s)) ∧
  (∀ (r : List Value) (a0 a1 a2 a3 : Value) (b : Nat), j_go (jmt 14) post cut (n + 1) 31 ls (a3 :: a2 :: a1 :: a0 :: .ref b :: r) w cb sb ↔ j_w8 r ∧ g_call (jmt 16) [.ref b, a0, a1, a2, a3] w cb sb (fun v w' c s => j_k (jmt 14) post cut n 34 ls (v.toList ++ r) w' c s)) ∧
  (∀ (v : Value), j_go (jmt 14) post cut (n + 1) 34 ls [v] w cb sb ↔ t_a v ∧ post (some v) w) := ⟨fun _ => (j_go_s rfl).trans e_aload_n,
  fun _ _ => (j_go_s rfl).trans e_dup,
  fun _ _ => (j_go_s rfl).trans e_getf,
  fun _ => (j_go_s rfl).trans e_iconst,
  fun _ _ _ => (j_go_s rfl).trans e_iadd,
  fun _ _ _ => (j_go_s rfl).trans e_putf,
  fun _ => (j_go_s rfl).trans e_new,
  fun _ _ => (j_go_s rfl).trans e_dup,
  fun _ => (j_go_s rfl).trans e_iload_n,
  fun _ => (j_go_s rfl).trans e_aload_n,
  fun _ _ => (j_go_s rfl).trans e_getf,
  fun _ => (j_go_s rfl).trans e_iload_n,
  fun _ => (j_go_s rfl).trans e_aload_n,
  fun _ _ => (j_go_s rfl).trans e_getf,
  fun _ => (j_go_s rfl).trans e_aload_n,
  fun _ _ => (j_go_s rfl).trans e_getf,
  fun _ _ _ => (j_go_s rfl).trans e_calls,
  fun _ _ _ _ _ _ => (j_go_s rfl).trans e_calli,
  fun _ => (j_go_s rfl).trans e_aret⟩
set_option maxRecDepth 100000 in
set_option maxHeartbeats 4000000 in
theorem st_Arrays_copyOf {post : Option Value → jW → Prop} {cut : List Nat} {n : Nat} {ls : jL} {w : jW} {cb sb : Nat} : (∀ (r : List Value), j_go (jmt 15) post cut (n + 1) 0 ls r w cb sb ↔ g_ld ls[1]? (fun v => t_i v ∧ j_k (jmt 15) post cut n 1 ls (v :: r) w cb sb)) ∧
  (∀ (r : List Value), j_go (jmt 15) post cut (n + 1) 1 ls r w cb sb ↔ g_ld ls[0]? (fun v => t_a v ∧ j_k (jmt 15) post cut n 2 ls (v :: r) w cb sb)) ∧
  (∀ (r : List Value) (a : Nat), j_go (jmt 15) post cut (n + 1) 2 ls (.ref a :: r) w cb sb ↔ g_al 0 (w a) (fun m => j_k (jmt 15) post cut n 3 ls (.int (Int32.ofNat m) :: r) w cb sb)) ∧
  (∀ (r : List Value) (a b : Int32), j_go (jmt 15) post cut (n + 1) 3 ls (.int b :: .int a :: r) w cb sb ↔ (¬ a = b → j_k (jmt 15) post cut n 14 ls r w cb sb) ∧ (¬ (¬ a = b) → j_k (jmt 15) post cut n 6 ls r w cb sb)) ∧
  (∀ (r : List Value), j_go (jmt 15) post cut (n + 1) 6 ls r w cb sb ↔ g_ld ls[0]? (fun v => t_a v ∧ j_k (jmt 15) post cut n 7 ls (v :: r) w cb sb)) ∧
  (∀ (v : Value), j_go (jmt 15) post cut (n + 1) 13 ls [v] w cb sb ↔ t_a v ∧ post (some v) w) ∧
  (∀ (r : List Value), j_go (jmt 15) post cut (n + 1) 14 ls r w cb sb ↔ g_ld ls[1]? (fun v => t_i v ∧ j_k (jmt 15) post cut n 15 ls (v :: r) w cb sb)) ∧
  (∀ (r : List Value) (z : Int32), j_go (jmt 15) post cut (n + 1) 15 ls (.int z :: r) w cb sb ↔ ¬ z < 0 ∧ 1 ≤ cb ∧ z.toNatClampNeg ≤ sb ∧ z.toNatClampNeg ≤ 60000000 ∧ ∀ a, w a = none → j_k (jmt 15) post cut n 17 ls (.ref a :: r) ((j_up w a (.inl (0, z.toNatClampNeg, .inl (fun _ => 0))))) ((cb - 1)) ((sb - z.toNatClampNeg))) ∧
  (∀ (r : List Value) (v : Value), j_go (jmt 15) post cut (n + 1) 17 ls (v :: r) w cb sb ↔ (t_a v ∧ j_ok1 ls 2 = true) ∧ j_k (jmt 15) post cut n 18 (ls.set 2 (some v)) r w cb sb) ∧
  (∀ (r : List Value), j_go (jmt 15) post cut (n + 1) 18 ls r w cb sb ↔ g_ld ls[0]? (fun v => t_a v ∧ j_k (jmt 15) post cut n 19 ls (v :: r) w cb sb)) ∧
  (∀ (r : List Value), j_go (jmt 15) post cut (n + 1) 19 ls r w cb sb ↔ j_k (jmt 15) post cut n 20 ls (.int (Int32.ofInt 0) :: r) w cb sb) ∧
  (∀ (r : List Value), j_go (jmt 15) post cut (n + 1) 20 ls r w cb sb ↔ g_ld ls[2]? (fun v => t_a v ∧ j_k (jmt 15) post cut n 21 ls (v :: r) w cb sb)) ∧
  (∀ (r : List Value), j_go (jmt 15) post cut (n + 1) 21 ls r w cb sb ↔ j_k (jmt 15) post cut n 22 ls (.int (Int32.ofInt 0) :: r) w cb sb) ∧
  (∀ (r : List Value), j_go (jmt 15) post cut (n + 1) 22 ls r w cb sb ↔ g_ld ls[0]? (fun v => t_a v ∧ j_k (jmt 15) post cut n 23 ls (v :: r) w cb sb)) ∧
  (∀ (r : List Value) (a : Nat), j_go (jmt 15) post cut (n + 1) 23 ls (.ref a :: r) w cb sb ↔ g_al 0 (w a) (fun m => j_k (jmt 15) post cut n 24 ls (.int (Int32.ofNat m) :: r) w cb sb)) ∧
  (∀ (r : List Value), j_go (jmt 15) post cut (n + 1) 24 ls r w cb sb ↔ g_ld ls[1]? (fun v => t_i v ∧ j_k (jmt 15) post cut n 25 ls (v :: r) w cb sb)) ∧
  (∀ (r : List Value) (a0 a1 : Value), j_go (jmt 15) post cut (n + 1) 25 ls (a1 :: a0 :: r) w cb sb ↔ j_w8 r ∧ g_call (jmt 2) [a0, a1] w cb sb (fun v w' c s => j_k (jmt 15) post cut n 28 ls (v.toList ++ r) w' c s)) ∧
  (∀ (r : List Value), j_go (jmt 15) post cut (n + 1) 31 ls r w cb sb ↔ g_ld ls[2]? (fun v => t_a v ∧ j_k (jmt 15) post cut n 32 ls (v :: r) w cb sb)) ∧
  (∀ (v : Value), j_go (jmt 15) post cut (n + 1) 32 ls [v] w cb sb ↔ t_a v ∧ post (some v) w) := ⟨fun _ => (j_go_s rfl).trans e_iload_n,
  fun _ => (j_go_s rfl).trans e_aload_n,
  fun _ _ => (j_go_s rfl).trans e_alen,
  fun _ _ _ => (j_go_s rfl).trans e_icmp,
  fun _ => (j_go_s rfl).trans e_aload_n,
  fun _ => (j_go_s rfl).trans e_aret,
  fun _ => (j_go_s rfl).trans e_iload_n,
  fun _ _ => (j_go_s rfl).trans e_newi,
  fun _ _ => (j_go_s rfl).trans e_astore_n,
  fun _ => (j_go_s rfl).trans e_aload_n,
  fun _ => (j_go_s rfl).trans e_iconst,
  fun _ => (j_go_s rfl).trans e_aload_n,
  fun _ => (j_go_s rfl).trans e_iconst,
  fun _ => (j_go_s rfl).trans e_aload_n,
  fun _ _ => (j_go_s rfl).trans e_alen,
  fun _ => (j_go_s rfl).trans e_iload_n,
  fun _ _ _ => (j_go_s rfl).trans e_calls,
  fun _ => (j_go_s rfl).trans e_aload_n,
  fun _ => (j_go_s rfl).trans e_aret⟩
set_option maxRecDepth 100000 in
set_option maxHeartbeats 4000000 in
theorem st_Advert_init {post : Option Value → jW → Prop} {cut : List Nat} {n : Nat} {ls : jL} {w : jW} {cb sb : Nat} : (∀ (r : List Value), j_go (jmt 16) post cut (n + 1) 0 ls r w cb sb ↔ g_ld ls[0]? (fun v => t_a v ∧ j_k (jmt 16) post cut n 1 ls (v :: r) w cb sb)) ∧
  (∀ (r : List Value) (a : Nat), j_go (jmt 16) post cut (n + 1) 1 ls (.ref a :: r) w cb sb ↔ j_w8 r ∧ j_k (jmt 16) post cut n 4 ls r w cb sb) ∧
  (∀ (r : List Value), j_go (jmt 16) post cut (n + 1) 4 ls r w cb sb ↔ g_ld ls[0]? (fun v => t_a v ∧ j_k (jmt 16) post cut n 5 ls (v :: r) w cb sb)) ∧
  (∀ (r : List Value), j_go (jmt 16) post cut (n + 1) 5 ls r w cb sb ↔ g_ld ls[1]? (fun v => t_i v ∧ j_k (jmt 16) post cut n 6 ls (v :: r) w cb sb)) ∧
  (∀ (r : List Value) (v : Value) (a : Nat), j_go (jmt 16) post cut (n + 1) 6 ls (v :: .ref a :: r) w cb sb ↔ g_ob 4 (w a) (fun fs => 0 < fs.length ∧ j_okv 0 v ∧ j_k (jmt 16) post cut n 9 ls r ((j_up w a (.inr (4, fs.set 0 v)))) cb sb)) ∧
  (∀ (r : List Value), j_go (jmt 16) post cut (n + 1) 9 ls r w cb sb ↔ g_ld ls[0]? (fun v => t_a v ∧ j_k (jmt 16) post cut n 10 ls (v :: r) w cb sb)) ∧
  (∀ (r : List Value), j_go (jmt 16) post cut (n + 1) 10 ls r w cb sb ↔ g_ld ls[2]? (fun v => t_i v ∧ j_k (jmt 16) post cut n 11 ls (v :: r) w cb sb)) ∧
  (∀ (r : List Value) (v : Value) (a : Nat), j_go (jmt 16) post cut (n + 1) 11 ls (v :: .ref a :: r) w cb sb ↔ g_ob 4 (w a) (fun fs => 1 < fs.length ∧ j_okv 0 v ∧ j_k (jmt 16) post cut n 14 ls r ((j_up w a (.inr (4, fs.set 1 v)))) cb sb)) ∧
  (∀ (r : List Value), j_go (jmt 16) post cut (n + 1) 14 ls r w cb sb ↔ g_ld ls[0]? (fun v => t_a v ∧ j_k (jmt 16) post cut n 15 ls (v :: r) w cb sb)) ∧
  (∀ (r : List Value), j_go (jmt 16) post cut (n + 1) 15 ls r w cb sb ↔ g_ld ls[3]? (fun v => t_i v ∧ j_k (jmt 16) post cut n 16 ls (v :: r) w cb sb)) ∧
  (∀ (r : List Value) (v : Value) (a : Nat), j_go (jmt 16) post cut (n + 1) 16 ls (v :: .ref a :: r) w cb sb ↔ g_ob 4 (w a) (fun fs => 2 < fs.length ∧ j_okv 0 v ∧ j_k (jmt 16) post cut n 19 ls r ((j_up w a (.inr (4, fs.set 2 v)))) cb sb)) ∧
  (∀ (r : List Value), j_go (jmt 16) post cut (n + 1) 19 ls r w cb sb ↔ g_ld ls[0]? (fun v => t_a v ∧ j_k (jmt 16) post cut n 20 ls (v :: r) w cb sb)) ∧
  (∀ (r : List Value), j_go (jmt 16) post cut (n + 1) 20 ls r w cb sb ↔ g_ld ls[4]? (fun v => t_a v ∧ j_k (jmt 16) post cut n 22 ls (v :: r) w cb sb)) ∧
  (∀ (r : List Value) (v : Value) (a : Nat), j_go (jmt 16) post cut (n + 1) 22 ls (v :: .ref a :: r) w cb sb ↔ g_ob 4 (w a) (fun fs => 3 < fs.length ∧ j_okv 2 v ∧ j_k (jmt 16) post cut n 25 ls r ((j_up w a (.inr (4, fs.set 3 v)))) cb sb)) ∧
  (j_go (jmt 16) post cut (n + 1) 25 ls [] w cb sb ↔ post none w) := ⟨fun _ => (j_go_s rfl).trans e_aload_n,
  fun _ _ => (j_go_s rfl).trans e_objinit,
  fun _ => (j_go_s rfl).trans e_aload_n,
  fun _ => (j_go_s rfl).trans e_iload_n,
  fun _ _ _ => (j_go_s rfl).trans e_putf,
  fun _ => (j_go_s rfl).trans e_aload_n,
  fun _ => (j_go_s rfl).trans e_iload_n,
  fun _ _ _ => (j_go_s rfl).trans e_putf,
  fun _ => (j_go_s rfl).trans e_aload_n,
  fun _ => (j_go_s rfl).trans e_iload_n,
  fun _ _ _ => (j_go_s rfl).trans e_putf,
  fun _ => (j_go_s rfl).trans e_aload_n,
  fun _ => (j_go_s rfl).trans e_aload,
  fun _ _ _ => (j_go_s rfl).trans e_putf,
  (j_go_s rfl).trans e_vret⟩
set_option maxRecDepth 100000 in
set_option maxHeartbeats 4000000 in
theorem st_Link_laneFrom {post : Option Value → jW → Prop} {cut : List Nat} {n : Nat} {ls : jL} {w : jW} {cb sb : Nat} : (∀ (r : List Value), j_go (jmt 18) post cut (n + 1) 0 ls r w cb sb ↔ g_ld ls[1]? (fun v => t_i v ∧ j_k (jmt 18) post cut n 1 ls (v :: r) w cb sb)) ∧
  (∀ (r : List Value), j_go (jmt 18) post cut (n + 1) 1 ls r w cb sb ↔ g_ld ls[0]? (fun v => t_a v ∧ j_k (jmt 18) post cut n 2 ls (v :: r) w cb sb)) ∧
  (∀ (r : List Value) (a : Nat), j_go (jmt 18) post cut (n + 1) 2 ls (.ref a :: r) w cb sb ↔ g_ob 2 (w a) (fun fs => g_v fs[0]? (fun v => j_k (jmt 18) post cut n 5 ls (v :: r) w cb sb))) ∧
  (∀ (r : List Value) (a b : Int32), j_go (jmt 18) post cut (n + 1) 5 ls (.int b :: .int a :: r) w cb sb ↔ (¬ a = b → j_k (jmt 18) post cut n 15 ls r w cb sb) ∧ (¬ (¬ a = b) → j_k (jmt 18) post cut n 8 ls r w cb sb)) ∧
  (∀ (r : List Value), j_go (jmt 18) post cut (n + 1) 8 ls r w cb sb ↔ g_ld ls[0]? (fun v => t_a v ∧ j_k (jmt 18) post cut n 9 ls (v :: r) w cb sb)) ∧
  (∀ (r : List Value) (a : Nat), j_go (jmt 18) post cut (n + 1) 9 ls (.ref a :: r) w cb sb ↔ g_ob 2 (w a) (fun fs => g_v fs[4]? (fun v => j_k (jmt 18) post cut n 12 ls (v :: r) w cb sb))) ∧
  (∀ (r : List Value), j_go (jmt 18) post cut (n + 1) 12 ls r w cb sb ↔ j_k (jmt 18) post cut n 19 ls r w cb sb) ∧
  (∀ (r : List Value), j_go (jmt 18) post cut (n + 1) 15 ls r w cb sb ↔ g_ld ls[0]? (fun v => t_a v ∧ j_k (jmt 18) post cut n 16 ls (v :: r) w cb sb)) ∧
  (∀ (r : List Value) (a : Nat), j_go (jmt 18) post cut (n + 1) 16 ls (.ref a :: r) w cb sb ↔ g_ob 2 (w a) (fun fs => g_v fs[5]? (fun v => j_k (jmt 18) post cut n 19 ls (v :: r) w cb sb))) ∧
  (∀ (v : Value), j_go (jmt 18) post cut (n + 1) 19 ls [v] w cb sb ↔ t_a v ∧ post (some v) w) := ⟨fun _ => (j_go_s rfl).trans e_iload_n,
  fun _ => (j_go_s rfl).trans e_aload_n,
  fun _ _ => (j_go_s rfl).trans e_getf,
  fun _ _ _ => (j_go_s rfl).trans e_icmp,
  fun _ => (j_go_s rfl).trans e_aload_n,
  fun _ _ => (j_go_s rfl).trans e_getf,
  fun _ => (j_go_s rfl).trans e_goto,
  fun _ => (j_go_s rfl).trans e_aload_n,
  fun _ _ => (j_go_s rfl).trans e_getf,
  fun _ => (j_go_s rfl).trans e_aret⟩
set_option maxRecDepth 100000 in
set_option maxHeartbeats 4000000 in
theorem st_Lane_put {post : Option Value → jW → Prop} {cut : List Nat} {n : Nat} {ls : jL} {w : jW} {cb sb : Nat} : (∀ (r : List Value), j_go (jmt 19) post cut (n + 1) 0 ls r w cb sb ↔ g_ld ls[0]? (fun v => t_a v ∧ j_k (jmt 19) post cut n 1 ls (v :: r) w cb sb)) ∧
  (∀ (r : List Value) (a : Nat), j_go (jmt 19) post cut (n + 1) 1 ls (.ref a :: r) w cb sb ↔ g_ob 3 (w a) (fun fs => g_v fs[2]? (fun v => j_k (jmt 19) post cut n 4 ls (v :: r) w cb sb))) ∧
  (∀ (r : List Value), j_go (jmt 19) post cut (n + 1) 4 ls r w cb sb ↔ j_k (jmt 19) post cut n 6 ls (.int (Int8.ofInt 20).toInt32 :: r) w cb sb) ∧
  (∀ (r : List Value) (a b : Int32), j_go (jmt 19) post cut (n + 1) 6 ls (.int b :: .int a :: r) w cb sb ↔ (b ≤ a → j_k (jmt 19) post cut n 37 ls r w cb sb) ∧ (¬ (b ≤ a) → j_k (jmt 19) post cut n 9 ls r w cb sb)) ∧
  (∀ (r : List Value), j_go (jmt 19) post cut (n + 1) 9 ls r w cb sb ↔ g_ld ls[0]? (fun v => t_a v ∧ j_k (jmt 19) post cut n 10 ls (v :: r) w cb sb)) ∧
  (∀ (r : List Value) (a : Nat), j_go (jmt 19) post cut (n + 1) 10 ls (.ref a :: r) w cb sb ↔ g_ob 3 (w a) (fun fs => g_v fs[0]? (fun v => j_k (jmt 19) post cut n 13 ls (v :: r) w cb sb))) ∧
  (∀ (r : List Value), j_go (jmt 19) post cut (n + 1) 13 ls r w cb sb ↔ g_ld ls[0]? (fun v => t_a v ∧ j_k (jmt 19) post cut n 14 ls (v :: r) w cb sb)) ∧
  (∀ (r : List Value) (a : Nat), j_go (jmt 19) post cut (n + 1) 14 ls (.ref a :: r) w cb sb ↔ g_ob 3 (w a) (fun fs => g_v fs[1]? (fun v => j_k (jmt 19) post cut n 17 ls (v :: r) w cb sb))) ∧
  (∀ (r : List Value), j_go (jmt 19) post cut (n + 1) 17 ls r w cb sb ↔ g_ld ls[0]? (fun v => t_a v ∧ j_k (jmt 19) post cut n 18 ls (v :: r) w cb sb)) ∧
  (∀ (r : List Value) (a : Nat), j_go (jmt 19) post cut (n + 1) 18 ls (.ref a :: r) w cb sb ↔ g_ob 3 (w a) (fun fs => g_v fs[2]? (fun v => j_k (jmt 19) post cut n 21 ls (v :: r) w cb sb))) ∧
  (∀ (r : List Value) (x y : Int32), j_go (jmt 19) post cut (n + 1) 21 ls (.int y :: .int x :: r) w cb sb ↔ j_k (jmt 19) post cut n 22 ls (.int (x + y) :: r) w cb sb) ∧
  (∀ (r : List Value), j_go (jmt 19) post cut (n + 1) 22 ls r w cb sb ↔ j_k (jmt 19) post cut n 24 ls (.int (Int8.ofInt 20).toInt32 :: r) w cb sb) ∧
  (∀ (r : List Value) (a b : Int32), j_go (jmt 19) post cut (n + 1) 24 ls (.int b :: .int a :: r) w cb sb ↔ ¬ b = 0 ∧ j_k (jmt 19) post cut n 25 ls (.int (a - a / b * b) :: r) w cb sb) ∧
  (∀ (r : List Value), j_go (jmt 19) post cut (n + 1) 25 ls r w cb sb ↔ g_ld ls[1]? (fun v => t_a v ∧ j_k (jmt 19) post cut n 26 ls (v :: r) w cb sb)) ∧
  (∀ (r : List Value) (a v : Nat) (j : Int32), j_go (jmt 19) post cut (n + 1) 26 ls (.ref v :: .int j :: .ref a :: r) w cb sb ↔ g_qa 7 (w a) (fun m f => vp_in j m ∧ g_ob 4 (w v) (fun _ => j_k (jmt 19) post cut n 27 ls r ((j_up w a (.inl (7, m, .inr (.inr (.inr (.inr (va_up f j.toNatClampNeg (some v))))))))) cb sb))) ∧
  (∀ (r : List Value), j_go (jmt 19) post cut (n + 1) 27 ls r w cb sb ↔ g_ld ls[0]? (fun v => t_a v ∧ j_k (jmt 19) post cut n 28 ls (v :: r) w cb sb)) ∧
  (∀ (r : List Value) (v : Value), j_go (jmt 19) post cut (n + 1) 28 ls (v :: r) w cb sb ↔ v.category = 1 ∧ j_k (jmt 19) post cut n 29 ls (v :: v :: r) w cb sb) ∧
  (∀ (r : List Value) (a : Nat), j_go (jmt 19) post cut (n + 1) 29 ls (.ref a :: r) w cb sb ↔ g_ob 3 (w a) (fun fs => g_v fs[2]? (fun v => j_k (jmt 19) post cut n 32 ls (v :: r) w cb sb))) ∧
  (∀ (r : List Value), j_go (jmt 19) post cut (n + 1) 32 ls r w cb sb ↔ j_k (jmt 19) post cut n 33 ls (.int (Int32.ofInt 1) :: r) w cb sb) ∧
  (∀ (r : List Value) (x y : Int32), j_go (jmt 19) post cut (n + 1) 33 ls (.int y :: .int x :: r) w cb sb ↔ j_k (jmt 19) post cut n 34 ls (.int (x + y) :: r) w cb sb) ∧
  (∀ (r : List Value) (v : Value) (a : Nat), j_go (jmt 19) post cut (n + 1) 34 ls (v :: .ref a :: r) w cb sb ↔ g_ob 3 (w a) (fun fs => 2 < fs.length ∧ j_okv 0 v ∧ j_k (jmt 19) post cut n 37 ls r ((j_up w a (.inr (3, fs.set 2 v)))) cb sb)) ∧
  (j_go (jmt 19) post cut (n + 1) 37 ls [] w cb sb ↔ post none w) := ⟨fun _ => (j_go_s rfl).trans e_aload_n,
  fun _ _ => (j_go_s rfl).trans e_getf,
  fun _ => (j_go_s rfl).trans e_bipush,
  fun _ _ _ => (j_go_s rfl).trans e_icmp,
  fun _ => (j_go_s rfl).trans e_aload_n,
  fun _ _ => (j_go_s rfl).trans e_getf,
  fun _ => (j_go_s rfl).trans e_aload_n,
  fun _ _ => (j_go_s rfl).trans e_getf,
  fun _ => (j_go_s rfl).trans e_aload_n,
  fun _ _ => (j_go_s rfl).trans e_getf,
  fun _ _ _ => (j_go_s rfl).trans e_iadd,
  fun _ => (j_go_s rfl).trans e_bipush,
  fun _ _ _ => (j_go_s rfl).trans e_irem,
  fun _ => (j_go_s rfl).trans e_aload_n,
  fun _ _ _ _ => (j_go_s rfl).trans e_aast,
  fun _ => (j_go_s rfl).trans e_aload_n,
  fun _ _ => (j_go_s rfl).trans e_dup,
  fun _ _ => (j_go_s rfl).trans e_getf,
  fun _ => (j_go_s rfl).trans e_iconst,
  fun _ _ _ => (j_go_s rfl).trans e_iadd,
  fun _ _ _ => (j_go_s rfl).trans e_putf,
  (j_go_s rfl).trans e_vret⟩
set_option maxRecDepth 100000 in
set_option maxHeartbeats 4000000 in
theorem st_Lane_putAll {post : Option Value → jW → Prop} {cut : List Nat} {n : Nat} {ls : jL} {w : jW} {cb sb : Nat} : (∀ (r : List Value), j_go (jmt 21) post cut (n + 1) 0 ls r w cb sb ↔ j_k (jmt 21) post cut n 1 ls (.int (Int32.ofInt 0) :: r) w cb sb) ∧
  (∀ (r : List Value) (x : Int32), j_go (jmt 21) post cut (n + 1) 1 ls (.int x :: r) w cb sb ↔ j_ok1 ls 2 = true ∧ j_k (jmt 21) post cut n 2 (ls.set 2 (some (.int x))) r w cb sb) ∧
  (∀ (r : List Value), j_go (jmt 21) post cut (n + 1) 2 ls r w cb sb ↔ g_ld ls[2]? (fun v => t_i v ∧ j_k (jmt 21) post cut n 3 ls (v :: r) w cb sb)) ∧
  (∀ (r : List Value), j_go (jmt 21) post cut (n + 1) 3 ls r w cb sb ↔ g_ld ls[1]? (fun v => t_a v ∧ j_k (jmt 21) post cut n 4 ls (v :: r) w cb sb)) ∧
  (∀ (r : List Value) (a : Nat), j_go (jmt 21) post cut (n + 1) 4 ls (.ref a :: r) w cb sb ↔ g_al 7 (w a) (fun m => j_k (jmt 21) post cut n 5 ls (.int (Int32.ofNat m) :: r) w cb sb)) ∧
  (∀ (r : List Value) (a b : Int32), j_go (jmt 21) post cut (n + 1) 5 ls (.int b :: .int a :: r) w cb sb ↔ (b ≤ a → j_k (jmt 21) post cut n 27 ls r w cb sb) ∧ (¬ (b ≤ a) → j_k (jmt 21) post cut n 8 ls r w cb sb)) ∧
  (∀ (r : List Value), j_go (jmt 21) post cut (n + 1) 8 ls r w cb sb ↔ g_ld ls[1]? (fun v => t_a v ∧ j_k (jmt 21) post cut n 9 ls (v :: r) w cb sb)) ∧
  (∀ (r : List Value), j_go (jmt 21) post cut (n + 1) 9 ls r w cb sb ↔ g_ld ls[2]? (fun v => t_i v ∧ j_k (jmt 21) post cut n 10 ls (v :: r) w cb sb)) ∧
  (∀ (r : List Value) (a : Nat) (j : Int32), j_go (jmt 21) post cut (n + 1) 10 ls (.int j :: .ref a :: r) w cb sb ↔ g_qa 7 (w a) (fun m f => vp_in j m ∧ j_k (jmt 21) post cut n 11 ls (va_rf (f j.toNatClampNeg) :: r) w cb sb)) ∧
  (∀ (r : List Value), j_go (jmt 21) post cut (n + 1) 11 ls (.null :: r) w cb sb ↔ j_k (jmt 21) post cut n 21 ls r w cb sb) ∧
  (∀ (r : List Value) (a : Nat), j_go (jmt 21) post cut (n + 1) 11 ls (.ref a :: r) w cb sb ↔ j_k (jmt 21) post cut n 14 ls r w cb sb) ∧
  (∀ (r : List Value), j_go (jmt 21) post cut (n + 1) 14 ls r w cb sb ↔ g_ld ls[0]? (fun v => t_a v ∧ j_k (jmt 21) post cut n 15 ls (v :: r) w cb sb)) ∧
  (∀ (r : List Value), j_go (jmt 21) post cut (n + 1) 15 ls r w cb sb ↔ g_ld ls[1]? (fun v => t_a v ∧ j_k (jmt 21) post cut n 16 ls (v :: r) w cb sb)) ∧
  (∀ (r : List Value), j_go (jmt 21) post cut (n + 1) 16 ls r w cb sb ↔ g_ld ls[2]? (fun v => t_i v ∧ j_k (jmt 21) post cut n 17 ls (v :: r) w cb sb)) ∧
  (∀ (r : List Value) (a : Nat) (j : Int32), j_go (jmt 21) post cut (n + 1) 17 ls (.int j :: .ref a :: r) w cb sb ↔ g_qa 7 (w a) (fun m f => vp_in j m ∧ j_k (jmt 21) post cut n 18 ls (va_rf (f j.toNatClampNeg) :: r) w cb sb)) ∧
  (∀ (r : List Value) (a0 : Value) (b : Nat), j_go (jmt 21) post cut (n + 1) 18 ls (a0 :: .ref b :: r) w cb sb ↔ g_ob 3 (w b) (fun _ => True) ∧ j_w8 r ∧ g_call (jmt 19) [.ref b, a0] w cb sb (fun v w' c s => j_k (jmt 21) post cut n 21 ls (v.toList ++ r) w' c s)) ∧
  (∀ (r : List Value), j_go (jmt 21) post cut (n + 1) 21 ls r w cb sb ↔ g_ld ls[2]? (fun v => (match v with
      | .int x => j_ok1 ls 2 = true ∧ j_k (jmt 21) post cut n 24 (ls.set 2 (some (.int (x + Int32.ofInt 1)))) r w cb sb
      | _ => False))) ∧
  (∀ (r : List Value), j_go (jmt 21) post cut (n + 1) 24 ls r w cb sb ↔ j_k (jmt 21) post cut n 2 ls r w cb sb) ∧
  (j_go (jmt 21) post cut (n + 1) 27 ls [] w cb sb ↔ post none w) := ⟨fun _ => (j_go_s rfl).trans e_iconst,
  fun _ _ => (j_go_s rfl).trans e_istore_n,
  fun _ => (j_go_s rfl).trans e_iload_n,
  fun _ => (j_go_s rfl).trans e_aload_n,
  fun _ _ => (j_go_s rfl).trans e_alen,
  fun _ _ _ => (j_go_s rfl).trans e_icmp,
  fun _ => (j_go_s rfl).trans e_aload_n,
  fun _ => (j_go_s rfl).trans e_iload_n,
  fun _ _ _ => (j_go_s rfl).trans e_aald,
  fun _ => (j_go_s rfl).trans e_ifnull_n,
  fun _ _ => (j_go_s rfl).trans e_ifnull_r,
  fun _ => (j_go_s rfl).trans e_aload_n,
  fun _ => (j_go_s rfl).trans e_aload_n,
  fun _ => (j_go_s rfl).trans e_iload_n,
  fun _ _ _ => (j_go_s rfl).trans e_aald,
  fun _ _ _ => (j_go_s rfl).trans e_callv,
  fun _ => (j_go_s rfl).trans e_iinc,
  fun _ => (j_go_s rfl).trans e_goto,
  (j_go_s rfl).trans e_vret⟩
set_option maxRecDepth 100000 in
set_option maxHeartbeats 4000000 in
theorem st_Lane_clear {post : Option Value → jW → Prop} {cut : List Nat} {n : Nat} {ls : jL} {w : jW} {cb sb : Nat} : (∀ (r : List Value), j_go (jmt 24) post cut (n + 1) 0 ls r w cb sb ↔ g_ld ls[0]? (fun v => t_a v ∧ j_k (jmt 24) post cut n 1 ls (v :: r) w cb sb)) ∧
  (∀ (r : List Value), j_go (jmt 24) post cut (n + 1) 1 ls r w cb sb ↔ j_k (jmt 24) post cut n 2 ls (.int (Int32.ofInt 0) :: r) w cb sb) ∧
  (∀ (r : List Value) (v : Value) (a : Nat), j_go (jmt 24) post cut (n + 1) 2 ls (v :: .ref a :: r) w cb sb ↔ g_ob 3 (w a) (fun fs => 2 < fs.length ∧ j_okv 0 v ∧ j_k (jmt 24) post cut n 5 ls r ((j_up w a (.inr (3, fs.set 2 v)))) cb sb)) ∧
  (j_go (jmt 24) post cut (n + 1) 5 ls [] w cb sb ↔ post none w) := ⟨fun _ => (j_go_s rfl).trans e_aload_n,
  fun _ => (j_go_s rfl).trans e_iconst,
  fun _ _ _ => (j_go_s rfl).trans e_putf,
  (j_go_s rfl).trans e_vret⟩
set_option maxRecDepth 100000 in
set_option maxHeartbeats 4000000 in
theorem st_Prefix_of {post : Option Value → jW → Prop} {cut : List Nat} {n : Nat} {ls : jL} {w : jW} {cb sb : Nat} : (∀ (r : List Value), j_go (jmt 29) post cut (n + 1) 0 ls r w cb sb ↔ g_ld ls[1]? (fun v => t_i v ∧ j_k (jmt 29) post cut n 1 ls (v :: r) w cb sb)) ∧
  (∀ (r : List Value), j_go (jmt 29) post cut (n + 1) 1 ls r w cb sb ↔ j_k (jmt 29) post cut n 3 ls (.int (Int8.ofInt 8).toInt32 :: r) w cb sb) ∧
  (∀ (r : List Value) (x y : Int32), j_go (jmt 29) post cut (n + 1) 3 ls (.int y :: .int x :: r) w cb sb ↔ j_k (jmt 29) post cut n 4 ls (.int (x <<< (y &&& 31)) :: r) w cb sb) ∧
  (∀ (r : List Value), j_go (jmt 29) post cut (n + 1) 4 ls r w cb sb ↔ g_ld ls[0]? (fun v => t_i v ∧ j_k (jmt 29) post cut n 5 ls (v :: r) w cb sb)) ∧
  (∀ (r : List Value), j_go (jmt 29) post cut (n + 1) 5 ls r w cb sb ↔ g_ld ls[1]? (fun v => t_i v ∧ j_k (jmt 29) post cut n 6 ls (v :: r) w cb sb)) ∧
  (∀ (r : List Value) (a0 : Value), j_go (jmt 29) post cut (n + 1) 6 ls (a0 :: r) w cb sb ↔ j_w8 r ∧ g_call (jmt 30) [a0] w cb sb (fun v w' c s => j_k (jmt 29) post cut n 9 ls (v.toList ++ r) w' c s)) ∧
  (∀ (r : List Value) (x y : Int32), j_go (jmt 29) post cut (n + 1) 9 ls (.int y :: .int x :: r) w cb sb ↔ j_k (jmt 29) post cut n 10 ls (.int (x &&& y) :: r) w cb sb) ∧
  (∀ (r : List Value) (x y : Int32), j_go (jmt 29) post cut (n + 1) 10 ls (.int y :: .int x :: r) w cb sb ↔ j_k (jmt 29) post cut n 11 ls (.int (x ||| y) :: r) w cb sb) ∧
  (∀ (a : Int32), j_go (jmt 29) post cut (n + 1) 11 ls [.int a] w cb sb ↔ narrow .int (.int a) = .int a ∧ post (some (.int a)) w) := ⟨fun _ => (j_go_s rfl).trans e_iload_n,
  fun _ => (j_go_s rfl).trans e_bipush,
  fun _ _ _ => (j_go_s rfl).trans e_ishl,
  fun _ => (j_go_s rfl).trans e_iload_n,
  fun _ => (j_go_s rfl).trans e_iload_n,
  fun _ _ => (j_go_s rfl).trans e_calls,
  fun _ _ _ => (j_go_s rfl).trans e_iand,
  fun _ _ _ => (j_go_s rfl).trans e_ior,
  fun _ => (j_go_s rfl).trans e_iret⟩
set_option maxRecDepth 100000 in
set_option maxHeartbeats 4000000 in
theorem st_Prefix_mask {post : Option Value → jW → Prop} {cut : List Nat} {n : Nat} {ls : jL} {w : jW} {cb sb : Nat} : (∀ (r : List Value), j_go (jmt 30) post cut (n + 1) 0 ls r w cb sb ↔ j_k (jmt 30) post cut n 3 ls (.int (Int16.ofInt 255).toInt32 :: r) w cb sb) ∧
  (∀ (r : List Value), j_go (jmt 30) post cut (n + 1) 3 ls r w cb sb ↔ j_k (jmt 30) post cut n 6 ls (.int (Int16.ofInt 255).toInt32 :: r) w cb sb) ∧
  (∀ (r : List Value), j_go (jmt 30) post cut (n + 1) 6 ls r w cb sb ↔ g_ld ls[0]? (fun v => t_i v ∧ j_k (jmt 30) post cut n 7 ls (v :: r) w cb sb)) ∧
  (∀ (r : List Value) (x y : Int32), j_go (jmt 30) post cut (n + 1) 7 ls (.int y :: .int x :: r) w cb sb ↔ j_k (jmt 30) post cut n 8 ls (.int (x >>> (y &&& 31)) :: r) w cb sb) ∧
  (∀ (r : List Value), j_go (jmt 30) post cut (n + 1) 8 ls r w cb sb ↔ j_k (jmt 30) post cut n 9 ls (.int (Int32.ofInt (-1)) :: r) w cb sb) ∧
  (∀ (r : List Value) (x y : Int32), j_go (jmt 30) post cut (n + 1) 9 ls (.int y :: .int x :: r) w cb sb ↔ j_k (jmt 30) post cut n 10 ls (.int (x ^^^ y) :: r) w cb sb) ∧
  (∀ (r : List Value) (x y : Int32), j_go (jmt 30) post cut (n + 1) 10 ls (.int y :: .int x :: r) w cb sb ↔ j_k (jmt 30) post cut n 11 ls (.int (x &&& y) :: r) w cb sb) ∧
  (∀ (a : Int32), j_go (jmt 30) post cut (n + 1) 11 ls [.int a] w cb sb ↔ narrow .int (.int a) = .int a ∧ post (some (.int a)) w) := ⟨fun _ => (j_go_s rfl).trans e_sipush,
  fun _ => (j_go_s rfl).trans e_sipush,
  fun _ => (j_go_s rfl).trans e_iload_n,
  fun _ _ _ => (j_go_s rfl).trans e_ishr,
  fun _ => (j_go_s rfl).trans e_iconst,
  fun _ _ _ => (j_go_s rfl).trans e_ixor,
  fun _ _ _ => (j_go_s rfl).trans e_iand,
  fun _ => (j_go_s rfl).trans e_iret⟩
set_option maxRecDepth 100000 in
set_option maxHeartbeats 4000000 in
theorem st_Router_owns {post : Option Value → jW → Prop} {cut : List Nat} {n : Nat} {ls : jL} {w : jW} {cb sb : Nat} : (∀ (r : List Value), j_go (jmt 31) post cut (n + 1) 0 ls r w cb sb ↔ j_k (jmt 31) post cut n 1 ls (.int (Int32.ofInt 0) :: r) w cb sb) ∧
  (∀ (r : List Value) (x : Int32), j_go (jmt 31) post cut (n + 1) 1 ls (.int x :: r) w cb sb ↔ j_ok1 ls 2 = true ∧ j_k (jmt 31) post cut n 2 (ls.set 2 (some (.int x))) r w cb sb) ∧
  (∀ (r : List Value), j_go (jmt 31) post cut (n + 1) 2 ls r w cb sb ↔ g_ld ls[2]? (fun v => t_i v ∧ j_k (jmt 31) post cut n 3 ls (v :: r) w cb sb)) ∧
  (∀ (r : List Value), j_go (jmt 31) post cut (n + 1) 3 ls r w cb sb ↔ g_ld ls[0]? (fun v => t_a v ∧ j_k (jmt 31) post cut n 4 ls (v :: r) w cb sb)) ∧
  (∀ (r : List Value) (a : Nat), j_go (jmt 31) post cut (n + 1) 4 ls (.ref a :: r) w cb sb ↔ g_ob 1 (w a) (fun fs => g_v fs[2]? (fun v => j_k (jmt 31) post cut n 7 ls (v :: r) w cb sb))) ∧
  (∀ (r : List Value) (a b : Int32), j_go (jmt 31) post cut (n + 1) 7 ls (.int b :: .int a :: r) w cb sb ↔ (b ≤ a → j_k (jmt 31) post cut n 28 ls r w cb sb) ∧ (¬ (b ≤ a) → j_k (jmt 31) post cut n 10 ls r w cb sb)) ∧
  (∀ (r : List Value), j_go (jmt 31) post cut (n + 1) 10 ls r w cb sb ↔ g_ld ls[0]? (fun v => t_a v ∧ j_k (jmt 31) post cut n 11 ls (v :: r) w cb sb)) ∧
  (∀ (r : List Value) (a : Nat), j_go (jmt 31) post cut (n + 1) 11 ls (.ref a :: r) w cb sb ↔ g_ob 1 (w a) (fun fs => g_v fs[0]? (fun v => j_k (jmt 31) post cut n 14 ls (v :: r) w cb sb))) ∧
  (∀ (r : List Value), j_go (jmt 31) post cut (n + 1) 14 ls r w cb sb ↔ g_ld ls[2]? (fun v => t_i v ∧ j_k (jmt 31) post cut n 15 ls (v :: r) w cb sb)) ∧
  (∀ (r : List Value) (a : Nat) (j : Int32), j_go (jmt 31) post cut (n + 1) 15 ls (.int j :: .ref a :: r) w cb sb ↔ g_ia 0 (w a) (fun m f => vp_in j m ∧ j_k (jmt 31) post cut n 16 ls (.int (f j.toNatClampNeg) :: r) w cb sb)) ∧
  (∀ (r : List Value), j_go (jmt 31) post cut (n + 1) 16 ls r w cb sb ↔ g_ld ls[1]? (fun v => t_i v ∧ j_k (jmt 31) post cut n 17 ls (v :: r) w cb sb)) ∧
  (∀ (r : List Value) (a b : Int32), j_go (jmt 31) post cut (n + 1) 17 ls (.int b :: .int a :: r) w cb sb ↔ (¬ a = b → j_k (jmt 31) post cut n 22 ls r w cb sb) ∧ (¬ (¬ a = b) → j_k (jmt 31) post cut n 20 ls r w cb sb)) ∧
  (∀ (r : List Value), j_go (jmt 31) post cut (n + 1) 20 ls r w cb sb ↔ j_k (jmt 31) post cut n 21 ls (.int (Int32.ofInt 1) :: r) w cb sb) ∧
  (∀ (a : Int32), j_go (jmt 31) post cut (n + 1) 21 ls [.int a] w cb sb ↔ narrow .boolean (.int a) = .int a ∧ post (some (.int a)) w) ∧
  (∀ (r : List Value), j_go (jmt 31) post cut (n + 1) 22 ls r w cb sb ↔ g_ld ls[2]? (fun v => (match v with
      | .int x => j_ok1 ls 2 = true ∧ j_k (jmt 31) post cut n 25 (ls.set 2 (some (.int (x + Int32.ofInt 1)))) r w cb sb
      | _ => False))) ∧
  (∀ (r : List Value), j_go (jmt 31) post cut (n + 1) 25 ls r w cb sb ↔ j_k (jmt 31) post cut n 2 ls r w cb sb) ∧
  (∀ (r : List Value), j_go (jmt 31) post cut (n + 1) 28 ls r w cb sb ↔ j_k (jmt 31) post cut n 29 ls (.int (Int32.ofInt 0) :: r) w cb sb) ∧
  (∀ (a : Int32), j_go (jmt 31) post cut (n + 1) 29 ls [.int a] w cb sb ↔ narrow .boolean (.int a) = .int a ∧ post (some (.int a)) w) := ⟨fun _ => (j_go_s rfl).trans e_iconst,
  fun _ _ => (j_go_s rfl).trans e_istore_n,
  fun _ => (j_go_s rfl).trans e_iload_n,
  fun _ => (j_go_s rfl).trans e_aload_n,
  fun _ _ => (j_go_s rfl).trans e_getf,
  fun _ _ _ => (j_go_s rfl).trans e_icmp,
  fun _ => (j_go_s rfl).trans e_aload_n,
  fun _ _ => (j_go_s rfl).trans e_getf,
  fun _ => (j_go_s rfl).trans e_iload_n,
  fun _ _ _ => (j_go_s rfl).trans e_iald,
  fun _ => (j_go_s rfl).trans e_iload_n,
  fun _ _ _ => (j_go_s rfl).trans e_icmp,
  fun _ => (j_go_s rfl).trans e_iconst,
  fun _ => (j_go_s rfl).trans e_iret,
  fun _ => (j_go_s rfl).trans e_iinc,
  fun _ => (j_go_s rfl).trans e_goto,
  fun _ => (j_go_s rfl).trans e_iconst,
  fun _ => (j_go_s rfl).trans e_iret⟩
set_option maxRecDepth 100000 in
set_option maxHeartbeats 4000000 in
theorem st_Router_removeOwn {post : Option Value → jW → Prop} {cut : List Nat} {n : Nat} {ls : jL} {w : jW} {cb sb : Nat} : (∀ (r : List Value), j_go (jmt 33) post cut (n + 1) 0 ls r w cb sb ↔ g_ld ls[0]? (fun v => t_a v ∧ j_k (jmt 33) post cut n 1 ls (v :: r) w cb sb)) ∧
  (∀ (r : List Value) (v : Value), j_go (jmt 33) post cut (n + 1) 1 ls (v :: r) w cb sb ↔ v.category = 1 ∧ j_k (jmt 33) post cut n 2 ls (v :: v :: r) w cb sb) ∧
  (∀ (r : List Value) (a : Nat), j_go (jmt 33) post cut (n + 1) 2 ls (.ref a :: r) w cb sb ↔ g_ob 1 (w a) (fun fs => g_v fs[2]? (fun v => j_k (jmt 33) post cut n 5 ls (v :: r) w cb sb))) ∧
  (∀ (r : List Value), j_go (jmt 33) post cut (n + 1) 5 ls r w cb sb ↔ j_k (jmt 33) post cut n 6 ls (.int (Int32.ofInt 1) :: r) w cb sb) ∧
  (∀ (r : List Value) (x y : Int32), j_go (jmt 33) post cut (n + 1) 6 ls (.int y :: .int x :: r) w cb sb ↔ j_k (jmt 33) post cut n 7 ls (.int (x - y) :: r) w cb sb) ∧
  (∀ (r : List Value) (v : Value) (a : Nat), j_go (jmt 33) post cut (n + 1) 7 ls (v :: .ref a :: r) w cb sb ↔ g_ob 1 (w a) (fun fs => 2 < fs.length ∧ j_okv 0 v ∧ j_k (jmt 33) post cut n 10 ls r ((j_up w a (.inr (1, fs.set 2 v)))) cb sb)) ∧
  (∀ (r : List Value), j_go (jmt 33) post cut (n + 1) 10 ls r w cb sb ↔ g_ld ls[1]? (fun v => t_i v ∧ j_k (jmt 33) post cut n 11 ls (v :: r) w cb sb)) ∧
  (∀ (r : List Value) (x : Int32), j_go (jmt 33) post cut (n + 1) 11 ls (.int x :: r) w cb sb ↔ j_ok1 ls 2 = true ∧ j_k (jmt 33) post cut n 12 (ls.set 2 (some (.int x))) r w cb sb) ∧
  (∀ (r : List Value), j_go (jmt 33) post cut (n + 1) 12 ls r w cb sb ↔ g_ld ls[2]? (fun v => t_i v ∧ j_k (jmt 33) post cut n 13 ls (v :: r) w cb sb)) ∧
  (∀ (r : List Value), j_go (jmt 33) post cut (n + 1) 13 ls r w cb sb ↔ g_ld ls[0]? (fun v => t_a v ∧ j_k (jmt 33) post cut n 14 ls (v :: r) w cb sb)) ∧
  (∀ (r : List Value) (a : Nat), j_go (jmt 33) post cut (n + 1) 14 ls (.ref a :: r) w cb sb ↔ g_ob 1 (w a) (fun fs => g_v fs[2]? (fun v => j_k (jmt 33) post cut n 17 ls (v :: r) w cb sb))) ∧
  (∀ (r : List Value) (a b : Int32), j_go (jmt 33) post cut (n + 1) 17 ls (.int b :: .int a :: r) w cb sb ↔ (b ≤ a → j_k (jmt 33) post cut n 40 ls r w cb sb) ∧ (¬ (b ≤ a) → j_k (jmt 33) post cut n 20 ls r w cb sb)) ∧
  (∀ (r : List Value), j_go (jmt 33) post cut (n + 1) 20 ls r w cb sb ↔ g_ld ls[0]? (fun v => t_a v ∧ j_k (jmt 33) post cut n 21 ls (v :: r) w cb sb)) ∧
  (∀ (r : List Value) (a : Nat), j_go (jmt 33) post cut (n + 1) 21 ls (.ref a :: r) w cb sb ↔ g_ob 1 (w a) (fun fs => g_v fs[0]? (fun v => j_k (jmt 33) post cut n 24 ls (v :: r) w cb sb))) ∧
  (∀ (r : List Value), j_go (jmt 33) post cut (n + 1) 24 ls r w cb sb ↔ g_ld ls[2]? (fun v => t_i v ∧ j_k (jmt 33) post cut n 25 ls (v :: r) w cb sb)) ∧
  (∀ (r : List Value), j_go (jmt 33) post cut (n + 1) 25 ls r w cb sb ↔ g_ld ls[0]? (fun v => t_a v ∧ j_k (jmt 33) post cut n 26 ls (v :: r) w cb sb)) ∧
  (∀ (r : List Value) (a : Nat), j_go (jmt 33) post cut (n + 1) 26 ls (.ref a :: r) w cb sb ↔ g_ob 1 (w a) (fun fs => g_v fs[0]? (fun v => j_k (jmt 33) post cut n 29 ls (v :: r) w cb sb))) ∧
  (∀ (r : List Value), j_go (jmt 33) post cut (n + 1) 29 ls r w cb sb ↔ g_ld ls[2]? (fun v => t_i v ∧ j_k (jmt 33) post cut n 30 ls (v :: r) w cb sb)) ∧
  (∀ (r : List Value), j_go (jmt 33) post cut (n + 1) 30 ls r w cb sb ↔ j_k (jmt 33) post cut n 31 ls (.int (Int32.ofInt 1) :: r) w cb sb) ∧
  (∀ (r : List Value) (x y : Int32), j_go (jmt 33) post cut (n + 1) 31 ls (.int y :: .int x :: r) w cb sb ↔ j_k (jmt 33) post cut n 32 ls (.int (x + y) :: r) w cb sb) ∧
  (∀ (r : List Value) (a : Nat) (j : Int32), j_go (jmt 33) post cut (n + 1) 32 ls (.int j :: .ref a :: r) w cb sb ↔ g_ia 0 (w a) (fun m f => vp_in j m ∧ j_k (jmt 33) post cut n 33 ls (.int (f j.toNatClampNeg) :: r) w cb sb)) ∧
  (∀ (r : List Value) (a : Nat) (j v : Int32), j_go (jmt 33) post cut (n + 1) 33 ls (.int v :: .int j :: .ref a :: r) w cb sb ↔ g_ia 0 (w a) (fun m f => vp_in j m ∧ j_k (jmt 33) post cut n 34 ls r ((j_up w a (.inl (0, m, .inl (upd f j.toNatClampNeg v))))) cb sb)) ∧
  (∀ (r : List Value), j_go (jmt 33) post cut (n + 1) 34 ls r w cb sb ↔ g_ld ls[2]? (fun v => (match v with
      | .int x => j_ok1 ls 2 = true ∧ j_k (jmt 33) post cut n 37 (ls.set 2 (some (.int (x + Int32.ofInt 1)))) r w cb sb
      | _ => False))) ∧
  (∀ (r : List Value), j_go (jmt 33) post cut (n + 1) 37 ls r w cb sb ↔ j_k (jmt 33) post cut n 12 ls r w cb sb) ∧
  (j_go (jmt 33) post cut (n + 1) 40 ls [] w cb sb ↔ post none w) := ⟨fun _ => (j_go_s rfl).trans e_aload_n,
  fun _ _ => (j_go_s rfl).trans e_dup,
  fun _ _ => (j_go_s rfl).trans e_getf,
  fun _ => (j_go_s rfl).trans e_iconst,
  fun _ _ _ => (j_go_s rfl).trans e_isub,
  fun _ _ _ => (j_go_s rfl).trans e_putf,
  fun _ => (j_go_s rfl).trans e_iload_n,
  fun _ _ => (j_go_s rfl).trans e_istore_n,
  fun _ => (j_go_s rfl).trans e_iload_n,
  fun _ => (j_go_s rfl).trans e_aload_n,
  fun _ _ => (j_go_s rfl).trans e_getf,
  fun _ _ _ => (j_go_s rfl).trans e_icmp,
  fun _ => (j_go_s rfl).trans e_aload_n,
  fun _ _ => (j_go_s rfl).trans e_getf,
  fun _ => (j_go_s rfl).trans e_iload_n,
  fun _ => (j_go_s rfl).trans e_aload_n,
  fun _ _ => (j_go_s rfl).trans e_getf,
  fun _ => (j_go_s rfl).trans e_iload_n,
  fun _ => (j_go_s rfl).trans e_iconst,
  fun _ _ _ => (j_go_s rfl).trans e_iadd,
  fun _ _ _ => (j_go_s rfl).trans e_iald,
  fun _ _ _ _ => (j_go_s rfl).trans e_iast,
  fun _ => (j_go_s rfl).trans e_iinc,
  fun _ => (j_go_s rfl).trans e_goto,
  (j_go_s rfl).trans e_vret⟩
set_option maxRecDepth 100000 in
set_option maxHeartbeats 4000000 in
theorem st_Link_lane {post : Option Value → jW → Prop} {cut : List Nat} {n : Nat} {ls : jL} {w : jW} {cb sb : Nat} : (∀ (r : List Value), j_go (jmt 36) post cut (n + 1) 0 ls r w cb sb ↔ g_ld ls[1]? (fun v => t_i v ∧ j_k (jmt 36) post cut n 1 ls (v :: r) w cb sb)) ∧
  (∀ (r : List Value) (a : Int32), j_go (jmt 36) post cut (n + 1) 1 ls (.int a :: r) w cb sb ↔ (¬ a = 0 → j_k (jmt 36) post cut n 11 ls r w cb sb) ∧ (¬ (¬ a = 0) → j_k (jmt 36) post cut n 4 ls r w cb sb)) ∧
  (∀ (r : List Value), j_go (jmt 36) post cut (n + 1) 4 ls r w cb sb ↔ g_ld ls[0]? (fun v => t_a v ∧ j_k (jmt 36) post cut n 5 ls (v :: r) w cb sb)) ∧
  (∀ (r : List Value) (a : Nat), j_go (jmt 36) post cut (n + 1) 5 ls (.ref a :: r) w cb sb ↔ g_ob 2 (w a) (fun fs => g_v fs[4]? (fun v => j_k (jmt 36) post cut n 8 ls (v :: r) w cb sb))) ∧
  (∀ (r : List Value), j_go (jmt 36) post cut (n + 1) 8 ls r w cb sb ↔ j_k (jmt 36) post cut n 15 ls r w cb sb) ∧
  (∀ (r : List Value), j_go (jmt 36) post cut (n + 1) 11 ls r w cb sb ↔ g_ld ls[0]? (fun v => t_a v ∧ j_k (jmt 36) post cut n 12 ls (v :: r) w cb sb)) ∧
  (∀ (r : List Value) (a : Nat), j_go (jmt 36) post cut (n + 1) 12 ls (.ref a :: r) w cb sb ↔ g_ob 2 (w a) (fun fs => g_v fs[5]? (fun v => j_k (jmt 36) post cut n 15 ls (v :: r) w cb sb))) ∧
  (∀ (v : Value), j_go (jmt 36) post cut (n + 1) 15 ls [v] w cb sb ↔ t_a v ∧ post (some v) w) := ⟨fun _ => (j_go_s rfl).trans e_iload_n,
  fun _ _ => (j_go_s rfl).trans e_if,
  fun _ => (j_go_s rfl).trans e_aload_n,
  fun _ _ => (j_go_s rfl).trans e_getf,
  fun _ => (j_go_s rfl).trans e_goto,
  fun _ => (j_go_s rfl).trans e_aload_n,
  fun _ _ => (j_go_s rfl).trans e_getf,
  fun _ => (j_go_s rfl).trans e_aret⟩
set_option maxRecDepth 100000 in
set_option maxHeartbeats 4000000 in
theorem st_Lane_removeOldest {post : Option Value → jW → Prop} {cut : List Nat} {n : Nat} {ls : jL} {w : jW} {cb sb : Nat} : (∀ (r : List Value), j_go (jmt 37) post cut (n + 1) 0 ls r w cb sb ↔ g_ld ls[0]? (fun v => t_a v ∧ j_k (jmt 37) post cut n 1 ls (v :: r) w cb sb)) ∧
  (∀ (r : List Value) (a : Nat), j_go (jmt 37) post cut (n + 1) 1 ls (.ref a :: r) w cb sb ↔ g_ob 3 (w a) (fun fs => g_v fs[2]? (fun v => j_k (jmt 37) post cut n 4 ls (v :: r) w cb sb))) ∧
  (∀ (r : List Value) (a : Int32), j_go (jmt 37) post cut (n + 1) 4 ls (.int a :: r) w cb sb ↔ (¬ a = 0 → j_k (jmt 37) post cut n 9 ls r w cb sb) ∧ (¬ (¬ a = 0) → j_k (jmt 37) post cut n 7 ls r w cb sb)) ∧
  (∀ (r : List Value), j_go (jmt 37) post cut (n + 1) 7 ls r w cb sb ↔ j_k (jmt 37) post cut n 8 ls (.null :: r) w cb sb) ∧
  (∀ (v : Value), j_go (jmt 37) post cut (n + 1) 8 ls [v] w cb sb ↔ t_a v ∧ post (some v) w) ∧
  (∀ (r : List Value), j_go (jmt 37) post cut (n + 1) 9 ls r w cb sb ↔ g_ld ls[0]? (fun v => t_a v ∧ j_k (jmt 37) post cut n 10 ls (v :: r) w cb sb)) ∧
  (∀ (r : List Value) (a : Nat), j_go (jmt 37) post cut (n + 1) 10 ls (.ref a :: r) w cb sb ↔ g_ob 3 (w a) (fun fs => g_v fs[0]? (fun v => j_k (jmt 37) post cut n 13 ls (v :: r) w cb sb))) ∧
  (∀ (r : List Value), j_go (jmt 37) post cut (n + 1) 13 ls r w cb sb ↔ g_ld ls[0]? (fun v => t_a v ∧ j_k (jmt 37) post cut n 14 ls (v :: r) w cb sb)) ∧
  (∀ (r : List Value) (a : Nat), j_go (jmt 37) post cut (n + 1) 14 ls (.ref a :: r) w cb sb ↔ g_ob 3 (w a) (fun fs => g_v fs[1]? (fun v => j_k (jmt 37) post cut n 17 ls (v :: r) w cb sb))) ∧
  (∀ (r : List Value) (a : Nat) (j : Int32), j_go (jmt 37) post cut (n + 1) 17 ls (.int j :: .ref a :: r) w cb sb ↔ g_qa 7 (w a) (fun m f => vp_in j m ∧ j_k (jmt 37) post cut n 18 ls (va_rf (f j.toNatClampNeg) :: r) w cb sb)) ∧
  (∀ (r : List Value) (v : Value), j_go (jmt 37) post cut (n + 1) 18 ls (v :: r) w cb sb ↔ (t_a v ∧ j_ok1 ls 1 = true) ∧ j_k (jmt 37) post cut n 19 (ls.set 1 (some v)) r w cb sb) ∧
  (∀ (r : List Value), j_go (jmt 37) post cut (n + 1) 19 ls r w cb sb ↔ g_ld ls[0]? (fun v => t_a v ∧ j_k (jmt 37) post cut n 20 ls (v :: r) w cb sb)) ∧
  (∀ (r : List Value), j_go (jmt 37) post cut (n + 1) 20 ls r w cb sb ↔ g_ld ls[0]? (fun v => t_a v ∧ j_k (jmt 37) post cut n 21 ls (v :: r) w cb sb)) ∧
  (∀ (r : List Value) (a : Nat), j_go (jmt 37) post cut (n + 1) 21 ls (.ref a :: r) w cb sb ↔ g_ob 3 (w a) (fun fs => g_v fs[1]? (fun v => j_k (jmt 37) post cut n 24 ls (v :: r) w cb sb))) ∧
  (∀ (r : List Value), j_go (jmt 37) post cut (n + 1) 24 ls r w cb sb ↔ j_k (jmt 37) post cut n 25 ls (.int (Int32.ofInt 1) :: r) w cb sb) ∧
  (∀ (r : List Value) (x y : Int32), j_go (jmt 37) post cut (n + 1) 25 ls (.int y :: .int x :: r) w cb sb ↔ j_k (jmt 37) post cut n 26 ls (.int (x + y) :: r) w cb sb) ∧
  (∀ (r : List Value), j_go (jmt 37) post cut (n + 1) 26 ls r w cb sb ↔ j_k (jmt 37) post cut n 28 ls (.int (Int8.ofInt 20).toInt32 :: r) w cb sb) ∧
  (∀ (r : List Value) (a b : Int32), j_go (jmt 37) post cut (n + 1) 28 ls (.int b :: .int a :: r) w cb sb ↔ ¬ b = 0 ∧ j_k (jmt 37) post cut n 29 ls (.int (a - a / b * b) :: r) w cb sb) ∧
  (∀ (r : List Value) (v : Value) (a : Nat), j_go (jmt 37) post cut (n + 1) 29 ls (v :: .ref a :: r) w cb sb ↔ g_ob 3 (w a) (fun fs => 1 < fs.length ∧ j_okv 0 v ∧ j_k (jmt 37) post cut n 32 ls r ((j_up w a (.inr (3, fs.set 1 v)))) cb sb)) ∧
  (∀ (r : List Value), j_go (jmt 37) post cut (n + 1) 32 ls r w cb sb ↔ g_ld ls[0]? (fun v => t_a v ∧ j_k (jmt 37) post cut n 33 ls (v :: r) w cb sb)) ∧
  (∀ (r : List Value) (v : Value), j_go (jmt 37) post cut (n + 1) 33 ls (v :: r) w cb sb ↔ v.category = 1 ∧ j_k (jmt 37) post cut n 34 ls (v :: v :: r) w cb sb) ∧
  (∀ (r : List Value) (a : Nat), j_go (jmt 37) post cut (n + 1) 34 ls (.ref a :: r) w cb sb ↔ g_ob 3 (w a) (fun fs => g_v fs[2]? (fun v => j_k (jmt 37) post cut n 37 ls (v :: r) w cb sb))) ∧
  (∀ (r : List Value), j_go (jmt 37) post cut (n + 1) 37 ls r w cb sb ↔ j_k (jmt 37) post cut n 38 ls (.int (Int32.ofInt 1) :: r) w cb sb) ∧
  (∀ (r : List Value) (x y : Int32), j_go (jmt 37) post cut (n + 1) 38 ls (.int y :: .int x :: r) w cb sb ↔ j_k (jmt 37) post cut n 39 ls (.int (x - y) :: r) w cb sb) ∧
  (∀ (r : List Value) (v : Value) (a : Nat), j_go (jmt 37) post cut (n + 1) 39 ls (v :: .ref a :: r) w cb sb ↔ g_ob 3 (w a) (fun fs => 2 < fs.length ∧ j_okv 0 v ∧ j_k (jmt 37) post cut n 42 ls r ((j_up w a (.inr (3, fs.set 2 v)))) cb sb)) ∧
  (∀ (r : List Value), j_go (jmt 37) post cut (n + 1) 42 ls r w cb sb ↔ g_ld ls[1]? (fun v => t_a v ∧ j_k (jmt 37) post cut n 43 ls (v :: r) w cb sb)) ∧
  (∀ (v : Value), j_go (jmt 37) post cut (n + 1) 43 ls [v] w cb sb ↔ t_a v ∧ post (some v) w) := ⟨fun _ => (j_go_s rfl).trans e_aload_n,
  fun _ _ => (j_go_s rfl).trans e_getf,
  fun _ _ => (j_go_s rfl).trans e_if,
  fun _ => (j_go_s rfl).trans e_null,
  fun _ => (j_go_s rfl).trans e_aret,
  fun _ => (j_go_s rfl).trans e_aload_n,
  fun _ _ => (j_go_s rfl).trans e_getf,
  fun _ => (j_go_s rfl).trans e_aload_n,
  fun _ _ => (j_go_s rfl).trans e_getf,
  fun _ _ _ => (j_go_s rfl).trans e_aald,
  fun _ _ => (j_go_s rfl).trans e_astore_n,
  fun _ => (j_go_s rfl).trans e_aload_n,
  fun _ => (j_go_s rfl).trans e_aload_n,
  fun _ _ => (j_go_s rfl).trans e_getf,
  fun _ => (j_go_s rfl).trans e_iconst,
  fun _ _ _ => (j_go_s rfl).trans e_iadd,
  fun _ => (j_go_s rfl).trans e_bipush,
  fun _ _ _ => (j_go_s rfl).trans e_irem,
  fun _ _ _ => (j_go_s rfl).trans e_putf,
  fun _ => (j_go_s rfl).trans e_aload_n,
  fun _ _ => (j_go_s rfl).trans e_dup,
  fun _ _ => (j_go_s rfl).trans e_getf,
  fun _ => (j_go_s rfl).trans e_iconst,
  fun _ _ _ => (j_go_s rfl).trans e_isub,
  fun _ _ _ => (j_go_s rfl).trans e_putf,
  fun _ => (j_go_s rfl).trans e_aload_n,
  fun _ => (j_go_s rfl).trans e_aret⟩
