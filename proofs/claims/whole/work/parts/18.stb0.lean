set_option maxRecDepth 100000 in
set_option maxHeartbeats 4000000 in
theorem st_Net_init {post : Option Value → jW → Prop} {cut : List Nat} {n : Nat} {ls : jL} {w : jW} {cb sb : Nat} : (∀ (r : List Value), j_go (jmt 0) post cut (n + 1) 0 ls r w cb sb ↔ g_ld ls[0]? (fun v => t_a v ∧ j_k (jmt 0) post cut n 1 ls (v :: r) w cb sb)) ∧
  (∀ (r : List Value) (a : Nat), j_go (jmt 0) post cut (n + 1) 1 ls (.ref a :: r) w cb sb ↔ j_w8 r ∧ j_k (jmt 0) post cut n 4 ls r w cb sb) ∧
  (∀ (r : List Value), j_go (jmt 0) post cut (n + 1) 4 ls r w cb sb ↔ g_ld ls[0]? (fun v => t_a v ∧ j_k (jmt 0) post cut n 5 ls (v :: r) w cb sb)) ∧
  (∀ (r : List Value), j_go (jmt 0) post cut (n + 1) 5 ls r w cb sb ↔ j_k (jmt 0) post cut n 7 ls (.int (Int8.ofInt 8).toInt32 :: r) w cb sb) ∧
  (∀ (r : List Value) (z : Int32), j_go (jmt 0) post cut (n + 1) 7 ls (.int z :: r) w cb sb ↔ ¬ z < 0 ∧ 1 ≤ cb ∧ z.toNatClampNeg ≤ sb ∧ z.toNatClampNeg ≤ 60000000 ∧ ∀ a, w a = none → j_k (jmt 0) post cut n 10 ls (.ref a :: r) ((j_up w a (.inl (3, z.toNatClampNeg, .inr (.inr (.inr (.inr (fun _ => none)))))))) ((cb - 1)) ((sb - z.toNatClampNeg))) ∧
  (∀ (r : List Value) (v : Value) (a : Nat), j_go (jmt 0) post cut (n + 1) 10 ls (v :: .ref a :: r) w cb sb ↔ g_ob 0 (w a) (fun fs => 1 < fs.length ∧ j_okv 2 v ∧ j_k (jmt 0) post cut n 13 ls r ((j_up w a (.inr (0, fs.set 1 v)))) cb sb)) ∧
  (∀ (r : List Value), j_go (jmt 0) post cut (n + 1) 13 ls r w cb sb ↔ g_ld ls[0]? (fun v => t_a v ∧ j_k (jmt 0) post cut n 14 ls (v :: r) w cb sb)) ∧
  (∀ (r : List Value), j_go (jmt 0) post cut (n + 1) 14 ls r w cb sb ↔ j_k (jmt 0) post cut n 16 ls (.int (Int8.ofInt 12).toInt32 :: r) w cb sb) ∧
  (∀ (r : List Value) (z : Int32), j_go (jmt 0) post cut (n + 1) 16 ls (.int z :: r) w cb sb ↔ ¬ z < 0 ∧ 1 ≤ cb ∧ z.toNatClampNeg ≤ sb ∧ z.toNatClampNeg ≤ 60000000 ∧ ∀ a, w a = none → j_k (jmt 0) post cut n 19 ls (.ref a :: r) ((j_up w a (.inl (4, z.toNatClampNeg, .inr (.inr (.inr (.inr (fun _ => none)))))))) ((cb - 1)) ((sb - z.toNatClampNeg))) ∧
  (∀ (r : List Value) (v : Value) (a : Nat), j_go (jmt 0) post cut (n + 1) 19 ls (v :: .ref a :: r) w cb sb ↔ g_ob 0 (w a) (fun fs => 2 < fs.length ∧ j_okv 2 v ∧ j_k (jmt 0) post cut n 22 ls r ((j_up w a (.inr (0, fs.set 2 v)))) cb sb)) ∧
  (∀ (r : List Value), j_go (jmt 0) post cut (n + 1) 22 ls r w cb sb ↔ g_ld ls[0]? (fun v => t_a v ∧ j_k (jmt 0) post cut n 23 ls (v :: r) w cb sb)) ∧
  (∀ (r : List Value), j_go (jmt 0) post cut (n + 1) 23 ls r w cb sb ↔ j_k (jmt 0) post cut n 25 ls (.int (Int8.ofInt 12).toInt32 :: r) w cb sb) ∧
  (∀ (r : List Value) (z : Int32), j_go (jmt 0) post cut (n + 1) 25 ls (.int z :: r) w cb sb ↔ ¬ z < 0 ∧ 1 ≤ cb ∧ z.toNatClampNeg ≤ sb ∧ z.toNatClampNeg ≤ 60000000 ∧ ∀ a, w a = none → j_k (jmt 0) post cut n 28 ls (.ref a :: r) ((j_up w a (.inl (5, z.toNatClampNeg, .inr (.inr (.inr (.inr (fun _ => none)))))))) ((cb - 1)) ((sb - z.toNatClampNeg))) ∧
  (∀ (r : List Value) (v : Value) (a : Nat), j_go (jmt 0) post cut (n + 1) 28 ls (v :: .ref a :: r) w cb sb ↔ g_ob 0 (w a) (fun fs => 3 < fs.length ∧ j_okv 2 v ∧ j_k (jmt 0) post cut n 31 ls r ((j_up w a (.inr (0, fs.set 3 v)))) cb sb)) ∧
  (∀ (r : List Value), j_go (jmt 0) post cut (n + 1) 31 ls r w cb sb ↔ g_ld ls[0]? (fun v => t_a v ∧ j_k (jmt 0) post cut n 32 ls (v :: r) w cb sb)) ∧
  (∀ (r : List Value), j_go (jmt 0) post cut (n + 1) 32 ls r w cb sb ↔ j_k (jmt 0) post cut n 34 ls (.int (Int8.ofInt 80).toInt32 :: r) w cb sb) ∧
  (∀ (r : List Value) (z : Int32), j_go (jmt 0) post cut (n + 1) 34 ls (.int z :: r) w cb sb ↔ ¬ z < 0 ∧ 1 ≤ cb ∧ z.toNatClampNeg ≤ sb ∧ z.toNatClampNeg ≤ 60000000 ∧ ∀ a, w a = none → j_k (jmt 0) post cut n 37 ls (.ref a :: r) ((j_up w a (.inl (6, z.toNatClampNeg, .inr (.inr (.inr (.inr (fun _ => none)))))))) ((cb - 1)) ((sb - z.toNatClampNeg))) ∧
  (∀ (r : List Value) (v : Value) (a : Nat), j_go (jmt 0) post cut (n + 1) 37 ls (v :: .ref a :: r) w cb sb ↔ g_ob 0 (w a) (fun fs => 4 < fs.length ∧ j_okv 2 v ∧ j_k (jmt 0) post cut n 40 ls r ((j_up w a (.inr (0, fs.set 4 v)))) cb sb)) ∧
  (∀ (r : List Value), j_go (jmt 0) post cut (n + 1) 40 ls r w cb sb ↔ g_ld ls[0]? (fun v => t_a v ∧ j_k (jmt 0) post cut n 41 ls (v :: r) w cb sb)) ∧
  (∀ (r : List Value), j_go (jmt 0) post cut (n + 1) 41 ls r w cb sb ↔ 1 ≤ cb ∧ 3 ≤ sb ∧ ∀ a, w a = none → j_k (jmt 0) post cut n 44 ls (.ref a :: r) ((j_up w a (.inr (5, [.null, .null, .null])))) ((cb - 1)) ((sb - 3))) ∧
  (∀ (r : List Value) (v : Value), j_go (jmt 0) post cut (n + 1) 44 ls (v :: r) w cb sb ↔ v.category = 1 ∧ j_k (jmt 0) post cut n 45 ls (v :: v :: r) w cb sb) ∧
  (∀ (r : List Value)  (b : Nat), j_go (jmt 0) post cut (n + 1) 45 ls (.ref b :: r) w cb sb ↔ j_w8 r ∧ g_call (jmt 1) [.ref b] w cb sb (fun v w' c s => j_k (jmt 0) post cut n 48 ls (v.toList ++ r) w' c s)) ∧
  (∀ (r : List Value) (v : Value) (a : Nat), j_go (jmt 0) post cut (n + 1) 48 ls (v :: .ref a :: r) w cb sb ↔ g_ob 0 (w a) (fun fs => 5 < fs.length ∧ j_okv 2 v ∧ j_k (jmt 0) post cut n 51 ls r ((j_up w a (.inr (0, fs.set 5 v)))) cb sb)) ∧
  (∀ (r : List Value), j_go (jmt 0) post cut (n + 1) 51 ls r w cb sb ↔ g_ld ls[0]? (fun v => t_a v ∧ j_k (jmt 0) post cut n 52 ls (v :: r) w cb sb)) ∧
  (∀ (r : List Value), j_go (jmt 0) post cut (n + 1) 52 ls r w cb sb ↔ j_k (jmt 0) post cut n 53 ls (.int (Int32.ofInt 1) :: r) w cb sb) ∧
  (∀ (r : List Value), j_go (jmt 0) post cut (n + 1) 53 ls r w cb sb ↔ j_k (jmt 0) post cut n 55 ls (.int (Int8.ofInt 12).toInt32 :: r) w cb sb) ∧
  (∀ (r : List Value), j_go (jmt 0) post cut (n + 1) 55 ls r w cb sb ↔ g_ld ls[1]? (fun v => t_i v ∧ j_k (jmt 0) post cut n 56 ls (v :: r) w cb sb)) ∧
  (∀ (r : List Value) (a0 a1 : Value), j_go (jmt 0) post cut (n + 1) 56 ls (a1 :: a0 :: r) w cb sb ↔ j_w8 r ∧ g_call (jmt 2) [a0, a1] w cb sb (fun v w' c s => j_k (jmt 0) post cut n 59 ls (v.toList ++ r) w' c s)) ∧
  (∀ (r : List Value) (a0 a1 : Value), j_go (jmt 0) post cut (n + 1) 59 ls (a1 :: a0 :: r) w cb sb ↔ j_w8 r ∧ g_call (jmt 3) [a0, a1] w cb sb (fun v w' c s => j_k (jmt 0) post cut n 62 ls (v.toList ++ r) w' c s)) ∧
  (∀ (r : List Value) (v : Value) (a : Nat), j_go (jmt 0) post cut (n + 1) 62 ls (v :: .ref a :: r) w cb sb ↔ g_ob 0 (w a) (fun fs => 0 < fs.length ∧ j_okv 0 v ∧ j_k (jmt 0) post cut n 65 ls r ((j_up w a (.inr (0, fs.set 0 v)))) cb sb)) ∧
  (∀ (r : List Value), j_go (jmt 0) post cut (n + 1) 65 ls r w cb sb ↔ j_k (jmt 0) post cut n 66 ls (.int (Int32.ofInt 0) :: r) w cb sb) ∧
  (∀ (r : List Value) (x : Int32), j_go (jmt 0) post cut (n + 1) 66 ls (.int x :: r) w cb sb ↔ j_ok1 ls 2 = true ∧ j_k (jmt 0) post cut n 67 (ls.set 2 (some (.int x))) r w cb sb) ∧
  (∀ (r : List Value), j_go (jmt 0) post cut (n + 1) 67 ls r w cb sb ↔ g_ld ls[2]? (fun v => t_i v ∧ j_k (jmt 0) post cut n 68 ls (v :: r) w cb sb)) ∧
  (∀ (r : List Value), j_go (jmt 0) post cut (n + 1) 68 ls r w cb sb ↔ j_k (jmt 0) post cut n 70 ls (.int (Int8.ofInt 8).toInt32 :: r) w cb sb) ∧
  (∀ (r : List Value) (a b : Int32), j_go (jmt 0) post cut (n + 1) 70 ls (.int b :: .int a :: r) w cb sb ↔ (b ≤ a → j_k (jmt 0) post cut n 92 ls r w cb sb) ∧ (¬ (b ≤ a) → j_k (jmt 0) post cut n 73 ls r w cb sb)) ∧
  (∀ (r : List Value), j_go (jmt 0) post cut (n + 1) 73 ls r w cb sb ↔ g_ld ls[0]? (fun v => t_a v ∧ j_k (jmt 0) post cut n 74 ls (v :: r) w cb sb)) ∧
  (∀ (r : List Value) (a : Nat), j_go (jmt 0) post cut (n + 1) 74 ls (.ref a :: r) w cb sb ↔ g_ob 0 (w a) (fun fs => g_v fs[1]? (fun v => j_k (jmt 0) post cut n 77 ls (v :: r) w cb sb))) ∧
  (∀ (r : List Value), j_go (jmt 0) post cut (n + 1) 77 ls r w cb sb ↔ g_ld ls[2]? (fun v => t_i v ∧ j_k (jmt 0) post cut n 78 ls (v :: r) w cb sb)) ∧
  (∀ (r : List Value), j_go (jmt 0) post cut (n + 1) 78 ls r w cb sb ↔ 1 ≤ cb ∧ 4 ≤ sb ∧ ∀ a, w a = none → j_k (jmt 0) post cut n 81 ls (.ref a :: r) ((j_up w a (.inr (1, [.null, .null, .int 0, .int 0])))) ((cb - 1)) ((sb - 4))) ∧
  (∀ (r : List Value) (v : Value), j_go (jmt 0) post cut (n + 1) 81 ls (v :: r) w cb sb ↔ v.category = 1 ∧ j_k (jmt 0) post cut n 82 ls (v :: v :: r) w cb sb) ∧
  (∀ (r : List Value)  (b : Nat), j_go (jmt 0) post cut (n + 1) 82 ls (.ref b :: r) w cb sb ↔ j_w8 r ∧ g_call (jmt 4) [.ref b] w cb sb (fun v w' c s => j_k (jmt 0) post cut n 85 ls (v.toList ++ r) w' c s)) ∧
  (∀ (r : List Value) (a v : Nat) (j : Int32), j_go (jmt 0) post cut (n + 1) 85 ls (.ref v :: .int j :: .ref a :: r) w cb sb ↔ g_qa 3 (w a) (fun m f => vp_in j m ∧ g_ob 1 (w v) (fun _ => j_k (jmt 0) post cut n 86 ls r ((j_up w a (.inl (3, m, .inr (.inr (.inr (.inr (va_up f j.toNatClampNeg (some v))))))))) cb sb))) ∧
  (∀ (r : List Value), j_go (jmt 0) post cut (n + 1) 86 ls r w cb sb ↔ g_ld ls[2]? (fun v => (match v with
      | .int x => j_ok1 ls 2 = true ∧ j_k (jmt 0) post cut n 89 (ls.set 2 (some (.int (x + Int32.ofInt 1)))) r w cb sb
      | _ => False))) ∧
  (∀ (r : List Value), j_go (jmt 0) post cut (n + 1) 89 ls r w cb sb ↔ j_k (jmt 0) post cut n 67 ls r w cb sb) ∧
  (j_go (jmt 0) post cut (n + 1) 92 ls [] w cb sb ↔ post none w) := ⟨fun _ => (j_go_s rfl).trans e_aload_n,
  fun _ _ => (j_go_s rfl).trans e_objinit,
  fun _ => (j_go_s rfl).trans e_aload_n,
  fun _ => (j_go_s rfl).trans e_bipush,
  fun _ _ => (j_go_s rfl).trans e_newq,
  fun _ _ _ => (j_go_s rfl).trans e_putf,
  fun _ => (j_go_s rfl).trans e_aload_n,
  fun _ => (j_go_s rfl).trans e_bipush,
  fun _ _ => (j_go_s rfl).trans e_newq,
  fun _ _ _ => (j_go_s rfl).trans e_putf,
  fun _ => (j_go_s rfl).trans e_aload_n,
  fun _ => (j_go_s rfl).trans e_bipush,
  fun _ _ => (j_go_s rfl).trans e_newq,
  fun _ _ _ => (j_go_s rfl).trans e_putf,
  fun _ => (j_go_s rfl).trans e_aload_n,
  fun _ => (j_go_s rfl).trans e_bipush,
  fun _ _ => (j_go_s rfl).trans e_newq,
  fun _ _ _ => (j_go_s rfl).trans e_putf,
  fun _ => (j_go_s rfl).trans e_aload_n,
  fun _ => (j_go_s rfl).trans e_new,
  fun _ _ => (j_go_s rfl).trans e_dup,
  fun _ _ => (j_go_s rfl).trans e_calli,
  fun _ _ _ => (j_go_s rfl).trans e_putf,
  fun _ => (j_go_s rfl).trans e_aload_n,
  fun _ => (j_go_s rfl).trans e_iconst,
  fun _ => (j_go_s rfl).trans e_bipush,
  fun _ => (j_go_s rfl).trans e_iload_n,
  fun _ _ _ => (j_go_s rfl).trans e_calls,
  fun _ _ _ => (j_go_s rfl).trans e_calls,
  fun _ _ _ => (j_go_s rfl).trans e_putf,
  fun _ => (j_go_s rfl).trans e_iconst,
  fun _ _ => (j_go_s rfl).trans e_istore_n,
  fun _ => (j_go_s rfl).trans e_iload_n,
  fun _ => (j_go_s rfl).trans e_bipush,
  fun _ _ _ => (j_go_s rfl).trans e_icmp,
  fun _ => (j_go_s rfl).trans e_aload_n,
  fun _ _ => (j_go_s rfl).trans e_getf,
  fun _ => (j_go_s rfl).trans e_iload_n,
  fun _ => (j_go_s rfl).trans e_new,
  fun _ _ => (j_go_s rfl).trans e_dup,
  fun _ _ => (j_go_s rfl).trans e_calli,
  fun _ _ _ _ => (j_go_s rfl).trans e_aast,
  fun _ => (j_go_s rfl).trans e_iinc,
  fun _ => (j_go_s rfl).trans e_goto,
  (j_go_s rfl).trans e_vret⟩
set_option maxRecDepth 100000 in
set_option maxHeartbeats 4000000 in
theorem st_Net_lay {post : Option Value → jW → Prop} {cut : List Nat} {n : Nat} {ls : jL} {w : jW} {cb sb : Nat} : (∀ (r : List Value), j_go (jmt 5) post cut (n + 1) 0 ls r w cb sb ↔ g_ld ls[1]? (fun v => t_i v ∧ j_k (jmt 5) post cut n 1 ls (v :: r) w cb sb)) ∧
  (∀ (r : List Value) (a0 : Value), j_go (jmt 5) post cut (n + 1) 1 ls (a0 :: r) w cb sb ↔ j_w8 r ∧ g_call (jmt 6) [a0] w cb sb (fun v w' c s => j_k (jmt 5) post cut n 4 ls (v.toList ++ r) w' c s)) ∧
  (∀ (r : List Value) (a : Int32), j_go (jmt 5) post cut (n + 1) 4 ls (.int a :: r) w cb sb ↔ (a = 0 → j_k (jmt 5) post cut n 19 ls r w cb sb) ∧ (¬ (a = 0) → j_k (jmt 5) post cut n 7 ls r w cb sb)) ∧
  (∀ (r : List Value), j_go (jmt 5) post cut (n + 1) 7 ls r w cb sb ↔ g_ld ls[2]? (fun v => t_i v ∧ j_k (jmt 5) post cut n 8 ls (v :: r) w cb sb)) ∧
  (∀ (r : List Value) (a0 : Value), j_go (jmt 5) post cut (n + 1) 8 ls (a0 :: r) w cb sb ↔ j_w8 r ∧ g_call (jmt 6) [a0] w cb sb (fun v w' c s => j_k (jmt 5) post cut n 11 ls (v.toList ++ r) w' c s)) ∧
  (∀ (r : List Value) (a : Int32), j_go (jmt 5) post cut (n + 1) 11 ls (.int a :: r) w cb sb ↔ (a = 0 → j_k (jmt 5) post cut n 19 ls r w cb sb) ∧ (¬ (a = 0) → j_k (jmt 5) post cut n 14 ls r w cb sb)) ∧
  (∀ (r : List Value), j_go (jmt 5) post cut (n + 1) 14 ls r w cb sb ↔ g_ld ls[1]? (fun v => t_i v ∧ j_k (jmt 5) post cut n 15 ls (v :: r) w cb sb)) ∧
  (∀ (r : List Value), j_go (jmt 5) post cut (n + 1) 15 ls r w cb sb ↔ g_ld ls[2]? (fun v => t_i v ∧ j_k (jmt 5) post cut n 16 ls (v :: r) w cb sb)) ∧
  (∀ (r : List Value) (a b : Int32), j_go (jmt 5) post cut (n + 1) 16 ls (.int b :: .int a :: r) w cb sb ↔ (¬ a = b → j_k (jmt 5) post cut n 21 ls r w cb sb) ∧ (¬ (¬ a = b) → j_k (jmt 5) post cut n 19 ls r w cb sb)) ∧
  (∀ (r : List Value), j_go (jmt 5) post cut (n + 1) 19 ls r w cb sb ↔ j_k (jmt 5) post cut n 20 ls (.int (Int32.ofInt (-1)) :: r) w cb sb) ∧
  (∀ (a : Int32), j_go (jmt 5) post cut (n + 1) 20 ls [.int a] w cb sb ↔ narrow .int (.int a) = .int a ∧ post (some (.int a)) w) ∧
  (∀ (r : List Value), j_go (jmt 5) post cut (n + 1) 21 ls r w cb sb ↔ g_ld ls[3]? (fun v => t_i v ∧ j_k (jmt 5) post cut n 22 ls (v :: r) w cb sb)) ∧
  (∀ (r : List Value), j_go (jmt 5) post cut (n + 1) 22 ls r w cb sb ↔ j_k (jmt 5) post cut n 23 ls (.int (Int32.ofInt 1) :: r) w cb sb) ∧
  (∀ (r : List Value), j_go (jmt 5) post cut (n + 1) 23 ls r w cb sb ↔ j_k (jmt 5) post cut n 25 ls (.int (Int8.ofInt 50).toInt32 :: r) w cb sb) ∧
  (∀ (r : List Value) (a0 a1 a2 : Value), j_go (jmt 5) post cut (n + 1) 25 ls (a2 :: a1 :: a0 :: r) w cb sb ↔ j_w8 r ∧ g_call (jmt 7) [a0, a1, a2] w cb sb (fun v w' c s => j_k (jmt 5) post cut n 28 ls (v.toList ++ r) w' c s)) ∧
  (∀ (r : List Value) (a : Int32), j_go (jmt 5) post cut (n + 1) 28 ls (.int a :: r) w cb sb ↔ (a = 0 → j_k (jmt 5) post cut n 44 ls r w cb sb) ∧ (¬ (a = 0) → j_k (jmt 5) post cut n 31 ls r w cb sb)) ∧
  (∀ (r : List Value), j_go (jmt 5) post cut (n + 1) 31 ls r w cb sb ↔ g_ld ls[4]? (fun v => t_i v ∧ j_k (jmt 5) post cut n 33 ls (v :: r) w cb sb)) ∧
  (∀ (r : List Value), j_go (jmt 5) post cut (n + 1) 33 ls r w cb sb ↔ j_k (jmt 5) post cut n 35 ls (.int (Int8.ofInt 8).toInt32 :: r) w cb sb) ∧
  (∀ (r : List Value), j_go (jmt 5) post cut (n + 1) 35 ls r w cb sb ↔ j_k (jmt 5) post cut n 38 ls (.int (Int16.ofInt 255).toInt32 :: r) w cb sb) ∧
  (∀ (r : List Value) (a0 a1 a2 : Value), j_go (jmt 5) post cut (n + 1) 38 ls (a2 :: a1 :: a0 :: r) w cb sb ↔ j_w8 r ∧ g_call (jmt 7) [a0, a1, a2] w cb sb (fun v w' c s => j_k (jmt 5) post cut n 41 ls (v.toList ++ r) w' c s)) ∧
  (∀ (r : List Value) (a : Int32), j_go (jmt 5) post cut (n + 1) 41 ls (.int a :: r) w cb sb ↔ (¬ a = 0 → j_k (jmt 5) post cut n 46 ls r w cb sb) ∧ (¬ (¬ a = 0) → j_k (jmt 5) post cut n 44 ls r w cb sb)) ∧
  (∀ (r : List Value), j_go (jmt 5) post cut (n + 1) 44 ls r w cb sb ↔ j_k (jmt 5) post cut n 45 ls (.int (Int32.ofInt (-1)) :: r) w cb sb) ∧
  (∀ (a : Int32), j_go (jmt 5) post cut (n + 1) 45 ls [.int a] w cb sb ↔ narrow .int (.int a) = .int a ∧ post (some (.int a)) w) ∧
  (∀ (r : List Value), j_go (jmt 5) post cut (n + 1) 46 ls r w cb sb ↔ g_ld ls[0]? (fun v => t_a v ∧ j_k (jmt 5) post cut n 47 ls (v :: r) w cb sb)) ∧
  (∀ (r : List Value) (a : Nat), j_go (jmt 5) post cut (n + 1) 47 ls (.ref a :: r) w cb sb ↔ g_ob 0 (w a) (fun fs => g_v fs[6]? (fun v => j_k (jmt 5) post cut n 50 ls (v :: r) w cb sb))) ∧
  (∀ (r : List Value), j_go (jmt 5) post cut (n + 1) 50 ls r w cb sb ↔ j_k (jmt 5) post cut n 52 ls (.int (Int8.ofInt 12).toInt32 :: r) w cb sb) ∧
  (∀ (r : List Value) (a b : Int32), j_go (jmt 5) post cut (n + 1) 52 ls (.int b :: .int a :: r) w cb sb ↔ (¬ a = b → j_k (jmt 5) post cut n 58 ls r w cb sb) ∧ (¬ (¬ a = b) → j_k (jmt 5) post cut n 55 ls r w cb sb)) ∧
  (∀ (r : List Value), j_go (jmt 5) post cut (n + 1) 55 ls r w cb sb ↔ j_k (jmt 5) post cut n 57 ls (.int (Int8.ofInt (-2)).toInt32 :: r) w cb sb) ∧
  (∀ (a : Int32), j_go (jmt 5) post cut (n + 1) 57 ls [.int a] w cb sb ↔ narrow .int (.int a) = .int a ∧ post (some (.int a)) w) ∧
  (∀ (r : List Value), j_go (jmt 5) post cut (n + 1) 58 ls r w cb sb ↔ g_ld ls[0]? (fun v => t_a v ∧ j_k (jmt 5) post cut n 59 ls (v :: r) w cb sb)) ∧
  (∀ (r : List Value) (a : Nat), j_go (jmt 5) post cut (n + 1) 59 ls (.ref a :: r) w cb sb ↔ g_ob 0 (w a) (fun fs => g_v fs[2]? (fun v => j_k (jmt 5) post cut n 62 ls (v :: r) w cb sb))) ∧
  (∀ (r : List Value), j_go (jmt 5) post cut (n + 1) 62 ls r w cb sb ↔ g_ld ls[0]? (fun v => t_a v ∧ j_k (jmt 5) post cut n 63 ls (v :: r) w cb sb)) ∧
  (∀ (r : List Value) (a : Nat), j_go (jmt 5) post cut (n + 1) 63 ls (.ref a :: r) w cb sb ↔ g_ob 0 (w a) (fun fs => g_v fs[6]? (fun v => j_k (jmt 5) post cut n 66 ls (v :: r) w cb sb))) ∧
  (∀ (r : List Value), j_go (jmt 5) post cut (n + 1) 66 ls r w cb sb ↔ 1 ≤ cb ∧ 7 ≤ sb ∧ ∀ a, w a = none → j_k (jmt 5) post cut n 69 ls (.ref a :: r) ((j_up w a (.inr (2, [.int 0, .int 0, .int 0, .int 0, .null, .null, .int 0])))) ((cb - 1)) ((sb - 7))) ∧
  (∀ (r : List Value) (v : Value), j_go (jmt 5) post cut (n + 1) 69 ls (v :: r) w cb sb ↔ v.category = 1 ∧ j_k (jmt 5) post cut n 70 ls (v :: v :: r) w cb sb) ∧
  (∀ (r : List Value), j_go (jmt 5) post cut (n + 1) 70 ls r w cb sb ↔ g_ld ls[1]? (fun v => t_i v ∧ j_k (jmt 5) post cut n 71 ls (v :: r) w cb sb)) ∧
  (∀ (r : List Value), j_go (jmt 5) post cut (n + 1) 71 ls r w cb sb ↔ g_ld ls[2]? (fun v => t_i v ∧ j_k (jmt 5) post cut n 72 ls (v :: r) w cb sb)) ∧
  (∀ (r : List Value), j_go (jmt 5) post cut (n + 1) 72 ls r w cb sb ↔ g_ld ls[3]? (fun v => t_i v ∧ j_k (jmt 5) post cut n 73 ls (v :: r) w cb sb)) ∧
  (∀ (r : List Value), j_go (jmt 5) post cut (n + 1) 73 ls r w cb sb ↔ g_ld ls[4]? (fun v => t_i v ∧ j_k (jmt 5) post cut n 75 ls (v :: r) w cb sb)) ∧
  (∀ (r : List Value) (a0 a1 a2 a3 : Value) (b : Nat), j_go (jmt 5) post cut (n + 1) 75 ls (a3 :: a2 :: a1 :: a0 :: .ref b :: r) w cb sb ↔ j_w8 r ∧ g_call (jmt 8) [.ref b, a0, a1, a2, a3] w cb sb (fun v w' c s => j_k (jmt 5) post cut n 78 ls (v.toList ++ r) w' c s)) ∧
  (∀ (r : List Value) (a v : Nat) (j : Int32), j_go (jmt 5) post cut (n + 1) 78 ls (.ref v :: .int j :: .ref a :: r) w cb sb ↔ g_qa 4 (w a) (fun m f => vp_in j m ∧ g_ob 2 (w v) (fun _ => j_k (jmt 5) post cut n 79 ls r ((j_up w a (.inl (4, m, .inr (.inr (.inr (.inr (va_up f j.toNatClampNeg (some v))))))))) cb sb))) ∧
  (∀ (r : List Value), j_go (jmt 5) post cut (n + 1) 79 ls r w cb sb ↔ g_ld ls[0]? (fun v => t_a v ∧ j_k (jmt 5) post cut n 80 ls (v :: r) w cb sb)) ∧
  (∀ (r : List Value) (v : Value), j_go (jmt 5) post cut (n + 1) 80 ls (v :: r) w cb sb ↔ v.category = 1 ∧ j_k (jmt 5) post cut n 81 ls (v :: v :: r) w cb sb) ∧
  (∀ (r : List Value) (a : Nat), j_go (jmt 5) post cut (n + 1) 81 ls (.ref a :: r) w cb sb ↔ g_ob 0 (w a) (fun fs => g_v fs[6]? (fun v => j_k (jmt 5) post cut n 84 ls (v :: r) w cb sb))) ∧
  (∀ (r : List Value), j_go (jmt 5) post cut (n + 1) 84 ls r w cb sb ↔ j_k (jmt 5) post cut n 85 ls (.int (Int32.ofInt 1) :: r) w cb sb) ∧
  (∀ (r : List Value) (x y : Int32), j_go (jmt 5) post cut (n + 1) 85 ls (.int y :: .int x :: r) w cb sb ↔ j_k (jmt 5) post cut n 86 ls (.int (x + y) :: r) w cb sb) ∧
  (∀ (r : List Value) (v : Value) (a : Nat), j_go (jmt 5) post cut (n + 1) 86 ls (v :: .ref a :: r) w cb sb ↔ g_ob 0 (w a) (fun fs => 6 < fs.length ∧ j_okv 0 v ∧ j_k (jmt 5) post cut n 89 ls r ((j_up w a (.inr (0, fs.set 6 v)))) cb sb)) ∧
  (∀ (r : List Value), j_go (jmt 5) post cut (n + 1) 89 ls r w cb sb ↔ g_ld ls[0]? (fun v => t_a v ∧ j_k (jmt 5) post cut n 90 ls (v :: r) w cb sb)) ∧
  (∀ (r : List Value), j_go (jmt 5) post cut (n + 1) 90 ls r w cb sb ↔ g_ld ls[0]? (fun v => t_a v ∧ j_k (jmt 5) post cut n 91 ls (v :: r) w cb sb)) ∧
  (∀ (r : List Value) (a : Nat), j_go (jmt 5) post cut (n + 1) 91 ls (.ref a :: r) w cb sb ↔ g_ob 0 (w a) (fun fs => g_v fs[2]? (fun v => j_k (jmt 5) post cut n 94 ls (v :: r) w cb sb))) ∧
  (∀ (r : List Value), j_go (jmt 5) post cut (n + 1) 94 ls r w cb sb ↔ g_ld ls[0]? (fun v => t_a v ∧ j_k (jmt 5) post cut n 95 ls (v :: r) w cb sb)) ∧
  (∀ (r : List Value) (a : Nat), j_go (jmt 5) post cut (n + 1) 95 ls (.ref a :: r) w cb sb ↔ g_ob 0 (w a) (fun fs => g_v fs[6]? (fun v => j_k (jmt 5) post cut n 98 ls (v :: r) w cb sb))) ∧
  (∀ (r : List Value), j_go (jmt 5) post cut (n + 1) 98 ls r w cb sb ↔ j_k (jmt 5) post cut n 99 ls (.int (Int32.ofInt 1) :: r) w cb sb) ∧
  (∀ (r : List Value) (x y : Int32), j_go (jmt 5) post cut (n + 1) 99 ls (.int y :: .int x :: r) w cb sb ↔ j_k (jmt 5) post cut n 100 ls (.int (x - y) :: r) w cb sb) ∧
  (∀ (r : List Value) (a : Nat) (j : Int32), j_go (jmt 5) post cut (n + 1) 100 ls (.int j :: .ref a :: r) w cb sb ↔ g_qa 4 (w a) (fun m f => vp_in j m ∧ j_k (jmt 5) post cut n 101 ls (va_rf (f j.toNatClampNeg) :: r) w cb sb)) ∧
  (∀ (r : List Value) (a0 : Value) (b : Nat), j_go (jmt 5) post cut (n + 1) 101 ls (a0 :: .ref b :: r) w cb sb ↔ g_ob 0 (w b) (fun _ => True) ∧ j_w8 r ∧ g_call (jmt 10) [.ref b, a0] w cb sb (fun v w' c s => j_k (jmt 5) post cut n 104 ls (v.toList ++ r) w' c s)) ∧
  (∀ (r : List Value), j_go (jmt 5) post cut (n + 1) 104 ls r w cb sb ↔ g_ld ls[0]? (fun v => t_a v ∧ j_k (jmt 5) post cut n 105 ls (v :: r) w cb sb)) ∧
  (∀ (r : List Value) (a : Nat), j_go (jmt 5) post cut (n + 1) 105 ls (.ref a :: r) w cb sb ↔ g_ob 0 (w a) (fun fs => g_v fs[6]? (fun v => j_k (jmt 5) post cut n 108 ls (v :: r) w cb sb))) ∧
  (∀ (r : List Value), j_go (jmt 5) post cut (n + 1) 108 ls r w cb sb ↔ j_k (jmt 5) post cut n 109 ls (.int (Int32.ofInt 1) :: r) w cb sb) ∧
  (∀ (r : List Value) (x y : Int32), j_go (jmt 5) post cut (n + 1) 109 ls (.int y :: .int x :: r) w cb sb ↔ j_k (jmt 5) post cut n 110 ls (.int (x - y) :: r) w cb sb) ∧
  (∀ (a : Int32), j_go (jmt 5) post cut (n + 1) 110 ls [.int a] w cb sb ↔ narrow .int (.int a) = .int a ∧ post (some (.int a)) w) := ⟨fun _ => (j_go_s rfl).trans e_iload_n,
  fun _ _ => (j_go_s rfl).trans e_calls,
  fun _ _ => (j_go_s rfl).trans e_if,
  fun _ => (j_go_s rfl).trans e_iload_n,
  fun _ _ => (j_go_s rfl).trans e_calls,
  fun _ _ => (j_go_s rfl).trans e_if,
  fun _ => (j_go_s rfl).trans e_iload_n,
  fun _ => (j_go_s rfl).trans e_iload_n,
  fun _ _ _ => (j_go_s rfl).trans e_icmp,
  fun _ => (j_go_s rfl).trans e_iconst,
  fun _ => (j_go_s rfl).trans e_iret,
  fun _ => (j_go_s rfl).trans e_iload_n,
  fun _ => (j_go_s rfl).trans e_iconst,
  fun _ => (j_go_s rfl).trans e_bipush,
  fun _ _ _ _ => (j_go_s rfl).trans e_calls,
  fun _ _ => (j_go_s rfl).trans e_if,
  fun _ => (j_go_s rfl).trans e_iload,
  fun _ => (j_go_s rfl).trans e_bipush,
  fun _ => (j_go_s rfl).trans e_sipush,
  fun _ _ _ _ => (j_go_s rfl).trans e_calls,
  fun _ _ => (j_go_s rfl).trans e_if,
  fun _ => (j_go_s rfl).trans e_iconst,
  fun _ => (j_go_s rfl).trans e_iret,
  fun _ => (j_go_s rfl).trans e_aload_n,
  fun _ _ => (j_go_s rfl).trans e_getf,
  fun _ => (j_go_s rfl).trans e_bipush,
  fun _ _ _ => (j_go_s rfl).trans e_icmp,
  fun _ => (j_go_s rfl).trans e_bipush,
  fun _ => (j_go_s rfl).trans e_iret,
  fun _ => (j_go_s rfl).trans e_aload_n,
  fun _ _ => (j_go_s rfl).trans e_getf,
  fun _ => (j_go_s rfl).trans e_aload_n,
  fun _ _ => (j_go_s rfl).trans e_getf,
  fun _ => (j_go_s rfl).trans e_new,
  fun _ _ => (j_go_s rfl).trans e_dup,
  fun _ => (j_go_s rfl).trans e_iload_n,
  fun _ => (j_go_s rfl).trans e_iload_n,
  fun _ => (j_go_s rfl).trans e_iload_n,
  fun _ => (j_go_s rfl).trans e_iload,
  fun _ _ _ _ _ _ => (j_go_s rfl).trans e_calli,
  fun _ _ _ _ => (j_go_s rfl).trans e_aast,
  fun _ => (j_go_s rfl).trans e_aload_n,
  fun _ _ => (j_go_s rfl).trans e_dup,
  fun _ _ => (j_go_s rfl).trans e_getf,
  fun _ => (j_go_s rfl).trans e_iconst,
  fun _ _ _ => (j_go_s rfl).trans e_iadd,
  fun _ _ _ => (j_go_s rfl).trans e_putf,
  fun _ => (j_go_s rfl).trans e_aload_n,
  fun _ => (j_go_s rfl).trans e_aload_n,
  fun _ _ => (j_go_s rfl).trans e_getf,
  fun _ => (j_go_s rfl).trans e_aload_n,
  fun _ _ => (j_go_s rfl).trans e_getf,
  fun _ => (j_go_s rfl).trans e_iconst,
  fun _ _ _ => (j_go_s rfl).trans e_isub,
  fun _ _ _ => (j_go_s rfl).trans e_aald,
  fun _ _ _ => (j_go_s rfl).trans e_callv,
  fun _ => (j_go_s rfl).trans e_aload_n,
  fun _ _ => (j_go_s rfl).trans e_getf,
  fun _ => (j_go_s rfl).trans e_iconst,
  fun _ _ _ => (j_go_s rfl).trans e_isub,
  fun _ => (j_go_s rfl).trans e_iret⟩
set_option maxRecDepth 100000 in
set_option maxHeartbeats 4000000 in
theorem st_Net_isRouter {post : Option Value → jW → Prop} {cut : List Nat} {n : Nat} {ls : jL} {w : jW} {cb sb : Nat} : (∀ (r : List Value), j_go (jmt 6) post cut (n + 1) 0 ls r w cb sb ↔ g_ld ls[0]? (fun v => t_i v ∧ j_k (jmt 6) post cut n 1 ls (v :: r) w cb sb)) ∧
  (∀ (r : List Value), j_go (jmt 6) post cut (n + 1) 1 ls r w cb sb ↔ j_k (jmt 6) post cut n 2 ls (.int (Int32.ofInt 0) :: r) w cb sb) ∧
  (∀ (r : List Value), j_go (jmt 6) post cut (n + 1) 2 ls r w cb sb ↔ j_k (jmt 6) post cut n 4 ls (.int (Int8.ofInt 7).toInt32 :: r) w cb sb) ∧
  (∀ (r : List Value) (a0 a1 a2 : Value), j_go (jmt 6) post cut (n + 1) 4 ls (a2 :: a1 :: a0 :: r) w cb sb ↔ j_w8 r ∧ g_call (jmt 7) [a0, a1, a2] w cb sb (fun v w' c s => j_k (jmt 6) post cut n 7 ls (v.toList ++ r) w' c s)) ∧
  (∀ (a : Int32), j_go (jmt 6) post cut (n + 1) 7 ls [.int a] w cb sb ↔ narrow .boolean (.int a) = .int a ∧ post (some (.int a)) w) := ⟨fun _ => (j_go_s rfl).trans e_iload_n,
  fun _ => (j_go_s rfl).trans e_iconst,
  fun _ => (j_go_s rfl).trans e_bipush,
  fun _ _ _ _ => (j_go_s rfl).trans e_calls,
  fun _ => (j_go_s rfl).trans e_iret⟩
set_option maxRecDepth 100000 in
set_option maxHeartbeats 4000000 in
theorem st_Net_isWithin {post : Option Value → jW → Prop} {cut : List Nat} {n : Nat} {ls : jL} {w : jW} {cb sb : Nat} : (∀ (r : List Value), j_go (jmt 7) post cut (n + 1) 0 ls r w cb sb ↔ g_ld ls[0]? (fun v => t_i v ∧ j_k (jmt 7) post cut n 1 ls (v :: r) w cb sb)) ∧
  (∀ (r : List Value), j_go (jmt 7) post cut (n + 1) 1 ls r w cb sb ↔ g_ld ls[1]? (fun v => t_i v ∧ j_k (jmt 7) post cut n 2 ls (v :: r) w cb sb)) ∧
  (∀ (r : List Value) (a b : Int32), j_go (jmt 7) post cut (n + 1) 2 ls (.int b :: .int a :: r) w cb sb ↔ (a < b → j_k (jmt 7) post cut n 14 ls r w cb sb) ∧ (¬ (a < b) → j_k (jmt 7) post cut n 5 ls r w cb sb)) ∧
  (∀ (r : List Value), j_go (jmt 7) post cut (n + 1) 5 ls r w cb sb ↔ g_ld ls[0]? (fun v => t_i v ∧ j_k (jmt 7) post cut n 6 ls (v :: r) w cb sb)) ∧
  (∀ (r : List Value), j_go (jmt 7) post cut (n + 1) 6 ls r w cb sb ↔ g_ld ls[2]? (fun v => t_i v ∧ j_k (jmt 7) post cut n 7 ls (v :: r) w cb sb)) ∧
  (∀ (r : List Value) (a b : Int32), j_go (jmt 7) post cut (n + 1) 7 ls (.int b :: .int a :: r) w cb sb ↔ (b < a → j_k (jmt 7) post cut n 14 ls r w cb sb) ∧ (¬ (b < a) → j_k (jmt 7) post cut n 10 ls r w cb sb)) ∧
  (∀ (r : List Value), j_go (jmt 7) post cut (n + 1) 10 ls r w cb sb ↔ j_k (jmt 7) post cut n 11 ls (.int (Int32.ofInt 1) :: r) w cb sb) ∧
  (∀ (r : List Value), j_go (jmt 7) post cut (n + 1) 11 ls r w cb sb ↔ j_k (jmt 7) post cut n 15 ls r w cb sb) ∧
  (∀ (r : List Value), j_go (jmt 7) post cut (n + 1) 14 ls r w cb sb ↔ j_k (jmt 7) post cut n 15 ls (.int (Int32.ofInt 0) :: r) w cb sb) ∧
  (∀ (a : Int32), j_go (jmt 7) post cut (n + 1) 15 ls [.int a] w cb sb ↔ narrow .boolean (.int a) = .int a ∧ post (some (.int a)) w) := ⟨fun _ => (j_go_s rfl).trans e_iload_n,
  fun _ => (j_go_s rfl).trans e_iload_n,
  fun _ _ _ => (j_go_s rfl).trans e_icmp,
  fun _ => (j_go_s rfl).trans e_iload_n,
  fun _ => (j_go_s rfl).trans e_iload_n,
  fun _ _ _ => (j_go_s rfl).trans e_icmp,
  fun _ => (j_go_s rfl).trans e_iconst,
  fun _ => (j_go_s rfl).trans e_goto,
  fun _ => (j_go_s rfl).trans e_iconst,
  fun _ => (j_go_s rfl).trans e_iret⟩
set_option maxRecDepth 100000 in
set_option maxHeartbeats 4000000 in
theorem st_Net_bringUp {post : Option Value → jW → Prop} {cut : List Nat} {n : Nat} {ls : jL} {w : jW} {cb sb : Nat} : (∀ (r : List Value), j_go (jmt 10) post cut (n + 1) 0 ls r w cb sb ↔ g_ld ls[1]? (fun v => t_a v ∧ j_k (jmt 10) post cut n 1 ls (v :: r) w cb sb)) ∧
  (∀ (r : List Value), j_go (jmt 10) post cut (n + 1) 1 ls r w cb sb ↔ j_k (jmt 10) post cut n 2 ls (.int (Int32.ofInt 1) :: r) w cb sb) ∧
  (∀ (r : List Value) (v : Value) (a : Nat), j_go (jmt 10) post cut (n + 1) 2 ls (v :: .ref a :: r) w cb sb ↔ g_ob 2 (w a) (fun fs => 6 < fs.length ∧ j_okv 1 v ∧ j_k (jmt 10) post cut n 5 ls r ((j_up w a (.inr (2, fs.set 6 v)))) cb sb)) ∧
  (∀ (r : List Value), j_go (jmt 10) post cut (n + 1) 5 ls r w cb sb ↔ g_ld ls[0]? (fun v => t_a v ∧ j_k (jmt 10) post cut n 6 ls (v :: r) w cb sb)) ∧
  (∀ (r : List Value), j_go (jmt 10) post cut (n + 1) 6 ls r w cb sb ↔ g_ld ls[1]? (fun v => t_a v ∧ j_k (jmt 10) post cut n 7 ls (v :: r) w cb sb)) ∧
  (∀ (r : List Value) (a : Nat), j_go (jmt 10) post cut (n + 1) 7 ls (.ref a :: r) w cb sb ↔ g_ob 2 (w a) (fun fs => g_v fs[0]? (fun v => j_k (jmt 10) post cut n 10 ls (v :: r) w cb sb))) ∧
  (∀ (r : List Value) (a0 : Value) (b : Nat), j_go (jmt 10) post cut (n + 1) 10 ls (a0 :: .ref b :: r) w cb sb ↔ g_ob 0 (w b) (fun _ => True) ∧ j_w8 r ∧ g_call (jmt 11) [.ref b, a0] w cb sb (fun v w' c s => j_k (jmt 10) post cut n 13 ls (v.toList ++ r) w' c s)) ∧
  (∀ (r : List Value), j_go (jmt 10) post cut (n + 1) 13 ls r w cb sb ↔ g_ld ls[0]? (fun v => t_a v ∧ j_k (jmt 10) post cut n 14 ls (v :: r) w cb sb)) ∧
  (∀ (r : List Value), j_go (jmt 10) post cut (n + 1) 14 ls r w cb sb ↔ g_ld ls[1]? (fun v => t_a v ∧ j_k (jmt 10) post cut n 15 ls (v :: r) w cb sb)) ∧
  (∀ (r : List Value) (a : Nat), j_go (jmt 10) post cut (n + 1) 15 ls (.ref a :: r) w cb sb ↔ g_ob 2 (w a) (fun fs => g_v fs[1]? (fun v => j_k (jmt 10) post cut n 18 ls (v :: r) w cb sb))) ∧
  (∀ (r : List Value) (a0 : Value) (b : Nat), j_go (jmt 10) post cut (n + 1) 18 ls (a0 :: .ref b :: r) w cb sb ↔ g_ob 0 (w b) (fun _ => True) ∧ j_w8 r ∧ g_call (jmt 11) [.ref b, a0] w cb sb (fun v w' c s => j_k (jmt 10) post cut n 21 ls (v.toList ++ r) w' c s)) ∧
  (∀ (r : List Value), j_go (jmt 10) post cut (n + 1) 21 ls r w cb sb ↔ g_ld ls[0]? (fun v => t_a v ∧ j_k (jmt 10) post cut n 22 ls (v :: r) w cb sb)) ∧
  (∀ (r : List Value), j_go (jmt 10) post cut (n + 1) 22 ls r w cb sb ↔ g_ld ls[1]? (fun v => t_a v ∧ j_k (jmt 10) post cut n 23 ls (v :: r) w cb sb)) ∧
  (∀ (r : List Value) (a0 : Value) (b : Nat), j_go (jmt 10) post cut (n + 1) 23 ls (a0 :: .ref b :: r) w cb sb ↔ g_ob 0 (w b) (fun _ => True) ∧ j_w8 r ∧ g_call (jmt 20) [.ref b, a0] w cb sb (fun v w' c s => j_k (jmt 10) post cut n 26 ls (v.toList ++ r) w' c s)) ∧
  (j_go (jmt 10) post cut (n + 1) 26 ls [] w cb sb ↔ post none w) := ⟨fun _ => (j_go_s rfl).trans e_aload_n,
  fun _ => (j_go_s rfl).trans e_iconst,
  fun _ _ _ => (j_go_s rfl).trans e_putf,
  fun _ => (j_go_s rfl).trans e_aload_n,
  fun _ => (j_go_s rfl).trans e_aload_n,
  fun _ _ => (j_go_s rfl).trans e_getf,
  fun _ _ _ => (j_go_s rfl).trans e_callv,
  fun _ => (j_go_s rfl).trans e_aload_n,
  fun _ => (j_go_s rfl).trans e_aload_n,
  fun _ _ => (j_go_s rfl).trans e_getf,
  fun _ _ _ => (j_go_s rfl).trans e_callv,
  fun _ => (j_go_s rfl).trans e_aload_n,
  fun _ => (j_go_s rfl).trans e_aload_n,
  fun _ _ _ => (j_go_s rfl).trans e_callv,
  (j_go_s rfl).trans e_vret⟩
set_option maxRecDepth 100000 in
set_option maxHeartbeats 4000000 in
theorem st_Net_tell {post : Option Value → jW → Prop} {cut : List Nat} {n : Nat} {ls : jL} {w : jW} {cb sb : Nat} : (∀ (r : List Value), j_go (jmt 11) post cut (n + 1) 0 ls r w cb sb ↔ g_ld ls[0]? (fun v => t_a v ∧ j_k (jmt 11) post cut n 1 ls (v :: r) w cb sb)) ∧
  (∀ (r : List Value) (a : Nat), j_go (jmt 11) post cut (n + 1) 1 ls (.ref a :: r) w cb sb ↔ g_ob 0 (w a) (fun fs => g_v fs[1]? (fun v => j_k (jmt 11) post cut n 4 ls (v :: r) w cb sb))) ∧
  (∀ (r : List Value), j_go (jmt 11) post cut (n + 1) 4 ls r w cb sb ↔ g_ld ls[1]? (fun v => t_i v ∧ j_k (jmt 11) post cut n 5 ls (v :: r) w cb sb)) ∧
  (∀ (r : List Value) (a : Nat) (j : Int32), j_go (jmt 11) post cut (n + 1) 5 ls (.int j :: .ref a :: r) w cb sb ↔ g_qa 3 (w a) (fun m f => vp_in j m ∧ j_k (jmt 11) post cut n 6 ls (va_rf (f j.toNatClampNeg) :: r) w cb sb)) ∧
  (∀ (r : List Value), j_go (jmt 11) post cut (n + 1) 6 ls r w cb sb ↔ g_ld ls[1]? (fun v => t_i v ∧ j_k (jmt 11) post cut n 7 ls (v :: r) w cb sb)) ∧
  (∀ (r : List Value), j_go (jmt 11) post cut (n + 1) 7 ls r w cb sb ↔ g_ld ls[0]? (fun v => t_a v ∧ j_k (jmt 11) post cut n 8 ls (v :: r) w cb sb)) ∧
  (∀ (r : List Value), j_go (jmt 11) post cut (n + 1) 8 ls r w cb sb ↔ g_ld ls[1]? (fun v => t_i v ∧ j_k (jmt 11) post cut n 9 ls (v :: r) w cb sb)) ∧
  (∀ (r : List Value) (a0 : Value) (b : Nat), j_go (jmt 11) post cut (n + 1) 9 ls (a0 :: .ref b :: r) w cb sb ↔ g_ob 0 (w b) (fun _ => True) ∧ j_w8 r ∧ g_call (jmt 12) [.ref b, a0] w cb sb (fun v w' c s => j_k (jmt 11) post cut n 12 ls (v.toList ++ r) w' c s)) ∧
  (∀ (r : List Value) (a0 a1 : Value) (b : Nat), j_go (jmt 11) post cut (n + 1) 12 ls (a1 :: a0 :: .ref b :: r) w cb sb ↔ g_ob 1 (w b) (fun _ => True) ∧ j_w8 r ∧ g_call (jmt 14) [.ref b, a0, a1] w cb sb (fun v w' c s => j_k (jmt 11) post cut n 15 ls (v.toList ++ r) w' c s)) ∧
  (∀ (r : List Value) (v : Value), j_go (jmt 11) post cut (n + 1) 15 ls (v :: r) w cb sb ↔ (t_a v ∧ j_ok1 ls 2 = true) ∧ j_k (jmt 11) post cut n 16 (ls.set 2 (some v)) r w cb sb) ∧
  (∀ (r : List Value), j_go (jmt 11) post cut (n + 1) 16 ls r w cb sb ↔ g_ld ls[0]? (fun v => t_a v ∧ j_k (jmt 11) post cut n 17 ls (v :: r) w cb sb)) ∧
  (∀ (r : List Value) (a : Nat), j_go (jmt 11) post cut (n + 1) 17 ls (.ref a :: r) w cb sb ↔ g_ob 0 (w a) (fun fs => g_v fs[1]? (fun v => j_k (jmt 11) post cut n 20 ls (v :: r) w cb sb))) ∧
  (∀ (r : List Value), j_go (jmt 11) post cut (n + 1) 20 ls r w cb sb ↔ g_ld ls[1]? (fun v => t_i v ∧ j_k (jmt 11) post cut n 21 ls (v :: r) w cb sb)) ∧
  (∀ (r : List Value) (a : Nat) (j : Int32), j_go (jmt 11) post cut (n + 1) 21 ls (.int j :: .ref a :: r) w cb sb ↔ g_qa 3 (w a) (fun m f => vp_in j m ∧ j_k (jmt 11) post cut n 22 ls (va_rf (f j.toNatClampNeg) :: r) w cb sb)) ∧
  (∀ (r : List Value) (a : Nat), j_go (jmt 11) post cut (n + 1) 22 ls (.ref a :: r) w cb sb ↔ g_ob 1 (w a) (fun fs => g_v fs[1]? (fun v => j_k (jmt 11) post cut n 25 ls (v :: r) w cb sb))) ∧
  (∀ (r : List Value), j_go (jmt 11) post cut (n + 1) 25 ls r w cb sb ↔ g_ld ls[1]? (fun v => t_i v ∧ j_k (jmt 11) post cut n 26 ls (v :: r) w cb sb)) ∧
  (∀ (r : List Value), j_go (jmt 11) post cut (n + 1) 26 ls r w cb sb ↔ g_ld ls[2]? (fun v => t_a v ∧ j_k (jmt 11) post cut n 27 ls (v :: r) w cb sb)) ∧
  (∀ (r : List Value) (a v : Nat) (j : Int32), j_go (jmt 11) post cut (n + 1) 27 ls (.ref v :: .int j :: .ref a :: r) w cb sb ↔ g_qa 7 (w a) (fun m f => vp_in j m ∧ g_ob 4 (w v) (fun _ => j_k (jmt 11) post cut n 28 ls r ((j_up w a (.inl (7, m, .inr (.inr (.inr (.inr (va_up f j.toNatClampNeg (some v))))))))) cb sb))) ∧
  (∀ (r : List Value), j_go (jmt 11) post cut (n + 1) 28 ls r w cb sb ↔ g_ld ls[0]? (fun v => t_a v ∧ j_k (jmt 11) post cut n 29 ls (v :: r) w cb sb)) ∧
  (∀ (r : List Value), j_go (jmt 11) post cut (n + 1) 29 ls r w cb sb ↔ g_ld ls[1]? (fun v => t_i v ∧ j_k (jmt 11) post cut n 30 ls (v :: r) w cb sb)) ∧
  (∀ (r : List Value), j_go (jmt 11) post cut (n + 1) 30 ls r w cb sb ↔ g_ld ls[2]? (fun v => t_a v ∧ j_k (jmt 11) post cut n 31 ls (v :: r) w cb sb)) ∧
  (∀ (r : List Value), j_go (jmt 11) post cut (n + 1) 31 ls r w cb sb ↔ j_k (jmt 11) post cut n 32 ls (.int (Int32.ofInt (-1)) :: r) w cb sb) ∧
  (∀ (r : List Value) (a0 a1 a2 : Value) (b : Nat), j_go (jmt 11) post cut (n + 1) 32 ls (a2 :: a1 :: a0 :: .ref b :: r) w cb sb ↔ g_ob 0 (w b) (fun _ => True) ∧ j_w8 r ∧ g_call (jmt 17) [.ref b, a0, a1, a2] w cb sb (fun v w' c s => j_k (jmt 11) post cut n 35 ls (v.toList ++ r) w' c s)) ∧
  (j_go (jmt 11) post cut (n + 1) 35 ls [] w cb sb ↔ post none w) := ⟨fun _ => (j_go_s rfl).trans e_aload_n,
  fun _ _ => (j_go_s rfl).trans e_getf,
  fun _ => (j_go_s rfl).trans e_iload_n,
  fun _ _ _ => (j_go_s rfl).trans e_aald,
  fun _ => (j_go_s rfl).trans e_iload_n,
  fun _ => (j_go_s rfl).trans e_aload_n,
  fun _ => (j_go_s rfl).trans e_iload_n,
  fun _ _ _ => (j_go_s rfl).trans e_callv,
  fun _ _ _ _ => (j_go_s rfl).trans e_callv,
  fun _ _ => (j_go_s rfl).trans e_astore_n,
  fun _ => (j_go_s rfl).trans e_aload_n,
  fun _ _ => (j_go_s rfl).trans e_getf,
  fun _ => (j_go_s rfl).trans e_iload_n,
  fun _ _ _ => (j_go_s rfl).trans e_aald,
  fun _ _ => (j_go_s rfl).trans e_getf,
  fun _ => (j_go_s rfl).trans e_iload_n,
  fun _ => (j_go_s rfl).trans e_aload_n,
  fun _ _ _ _ => (j_go_s rfl).trans e_aast,
  fun _ => (j_go_s rfl).trans e_aload_n,
  fun _ => (j_go_s rfl).trans e_iload_n,
  fun _ => (j_go_s rfl).trans e_aload_n,
  fun _ => (j_go_s rfl).trans e_iconst,
  fun _ _ _ _ _ => (j_go_s rfl).trans e_callv,
  (j_go_s rfl).trans e_vret⟩
set_option maxRecDepth 100000 in
set_option maxHeartbeats 4000000 in
theorem st_Net_upLinksOf {post : Option Value → jW → Prop} {cut : List Nat} {n : Nat} {ls : jL} {w : jW} {cb sb : Nat} : (∀ (r : List Value), j_go (jmt 12) post cut (n + 1) 0 ls r w cb sb ↔ j_k (jmt 12) post cut n 1 ls (.int (Int32.ofInt 0) :: r) w cb sb) ∧
  (∀ (r : List Value) (x : Int32), j_go (jmt 12) post cut (n + 1) 1 ls (.int x :: r) w cb sb ↔ j_ok1 ls 2 = true ∧ j_k (jmt 12) post cut n 2 (ls.set 2 (some (.int x))) r w cb sb) ∧
  (∀ (r : List Value), j_go (jmt 12) post cut (n + 1) 2 ls r w cb sb ↔ j_k (jmt 12) post cut n 3 ls (.int (Int32.ofInt 0) :: r) w cb sb) ∧
  (∀ (r : List Value) (x : Int32), j_go (jmt 12) post cut (n + 1) 3 ls (.int x :: r) w cb sb ↔ j_ok1 ls 3 = true ∧ j_k (jmt 12) post cut n 4 (ls.set 3 (some (.int x))) r w cb sb) ∧
  (∀ (r : List Value), j_go (jmt 12) post cut (n + 1) 4 ls r w cb sb ↔ g_ld ls[3]? (fun v => t_i v ∧ j_k (jmt 12) post cut n 5 ls (v :: r) w cb sb)) ∧
  (∀ (r : List Value), j_go (jmt 12) post cut (n + 1) 5 ls r w cb sb ↔ g_ld ls[0]? (fun v => t_a v ∧ j_k (jmt 12) post cut n 6 ls (v :: r) w cb sb)) ∧
  (∀ (r : List Value) (a : Nat), j_go (jmt 12) post cut (n + 1) 6 ls (.ref a :: r) w cb sb ↔ g_ob 0 (w a) (fun fs => g_v fs[6]? (fun v => j_k (jmt 12) post cut n 9 ls (v :: r) w cb sb))) ∧
  (∀ (r : List Value) (a b : Int32), j_go (jmt 12) post cut (n + 1) 9 ls (.int b :: .int a :: r) w cb sb ↔ (b ≤ a → j_k (jmt 12) post cut n 49 ls r w cb sb) ∧ (¬ (b ≤ a) → j_k (jmt 12) post cut n 12 ls r w cb sb)) ∧
  (∀ (r : List Value), j_go (jmt 12) post cut (n + 1) 12 ls r w cb sb ↔ g_ld ls[0]? (fun v => t_a v ∧ j_k (jmt 12) post cut n 13 ls (v :: r) w cb sb)) ∧
  (∀ (r : List Value) (a : Nat), j_go (jmt 12) post cut (n + 1) 13 ls (.ref a :: r) w cb sb ↔ g_ob 0 (w a) (fun fs => g_v fs[2]? (fun v => j_k (jmt 12) post cut n 16 ls (v :: r) w cb sb))) ∧
  (∀ (r : List Value), j_go (jmt 12) post cut (n + 1) 16 ls r w cb sb ↔ g_ld ls[3]? (fun v => t_i v ∧ j_k (jmt 12) post cut n 17 ls (v :: r) w cb sb)) ∧
  (∀ (r : List Value) (a : Nat) (j : Int32), j_go (jmt 12) post cut (n + 1) 17 ls (.int j :: .ref a :: r) w cb sb ↔ g_qa 4 (w a) (fun m f => vp_in j m ∧ j_k (jmt 12) post cut n 18 ls (va_rf (f j.toNatClampNeg) :: r) w cb sb)) ∧
  (∀ (r : List Value) (a : Nat), j_go (jmt 12) post cut (n + 1) 18 ls (.ref a :: r) w cb sb ↔ g_ob 2 (w a) (fun fs => g_v fs[6]? (fun v => j_k (jmt 12) post cut n 21 ls (v :: r) w cb sb))) ∧
  (∀ (r : List Value) (a : Int32), j_go (jmt 12) post cut (n + 1) 21 ls (.int a :: r) w cb sb ↔ (a = 0 → j_k (jmt 12) post cut n 43 ls r w cb sb) ∧ (¬ (a = 0) → j_k (jmt 12) post cut n 24 ls r w cb sb)) ∧
  (∀ (r : List Value), j_go (jmt 12) post cut (n + 1) 24 ls r w cb sb ↔ g_ld ls[0]? (fun v => t_a v ∧ j_k (jmt 12) post cut n 25 ls (v :: r) w cb sb)) ∧
  (∀ (r : List Value) (a : Nat), j_go (jmt 12) post cut (n + 1) 25 ls (.ref a :: r) w cb sb ↔ g_ob 0 (w a) (fun fs => g_v fs[2]? (fun v => j_k (jmt 12) post cut n 28 ls (v :: r) w cb sb))) ∧
  (∀ (r : List Value), j_go (jmt 12) post cut (n + 1) 28 ls r w cb sb ↔ g_ld ls[3]? (fun v => t_i v ∧ j_k (jmt 12) post cut n 29 ls (v :: r) w cb sb)) ∧
  (∀ (r : List Value) (a : Nat) (j : Int32), j_go (jmt 12) post cut (n + 1) 29 ls (.int j :: .ref a :: r) w cb sb ↔ g_qa 4 (w a) (fun m f => vp_in j m ∧ j_k (jmt 12) post cut n 30 ls (va_rf (f j.toNatClampNeg) :: r) w cb sb)) ∧
  (∀ (r : List Value), j_go (jmt 12) post cut (n + 1) 30 ls r w cb sb ↔ g_ld ls[1]? (fun v => t_i v ∧ j_k (jmt 12) post cut n 31 ls (v :: r) w cb sb)) ∧
  (∀ (r : List Value) (a0 : Value) (b : Nat), j_go (jmt 12) post cut (n + 1) 31 ls (a0 :: .ref b :: r) w cb sb ↔ g_ob 2 (w b) (fun _ => True) ∧ j_w8 r ∧ g_call (jmt 13) [.ref b, a0] w cb sb (fun v w' c s => j_k (jmt 12) post cut n 34 ls (v.toList ++ r) w' c s)) ∧
  (∀ (r : List Value) (a : Int32), j_go (jmt 12) post cut (n + 1) 34 ls (.int a :: r) w cb sb ↔ (a = 0 → j_k (jmt 12) post cut n 43 ls r w cb sb) ∧ (¬ (a = 0) → j_k (jmt 12) post cut n 37 ls r w cb sb)) ∧
  (∀ (r : List Value), j_go (jmt 12) post cut (n + 1) 37 ls r w cb sb ↔ g_ld ls[2]? (fun v => t_i v ∧ j_k (jmt 12) post cut n 38 ls (v :: r) w cb sb)) ∧
  (∀ (r : List Value), j_go (jmt 12) post cut (n + 1) 38 ls r w cb sb ↔ j_k (jmt 12) post cut n 39 ls (.int (Int32.ofInt 1) :: r) w cb sb) ∧
  (∀ (r : List Value), j_go (jmt 12) post cut (n + 1) 39 ls r w cb sb ↔ g_ld ls[3]? (fun v => t_i v ∧ j_k (jmt 12) post cut n 40 ls (v :: r) w cb sb)) ∧
  (∀ (r : List Value) (x y : Int32), j_go (jmt 12) post cut (n + 1) 40 ls (.int y :: .int x :: r) w cb sb ↔ j_k (jmt 12) post cut n 41 ls (.int (x <<< (y &&& 31)) :: r) w cb sb) ∧
  (∀ (r : List Value) (x y : Int32), j_go (jmt 12) post cut (n + 1) 41 ls (.int y :: .int x :: r) w cb sb ↔ j_k (jmt 12) post cut n 42 ls (.int (x ||| y) :: r) w cb sb) ∧
  (∀ (r : List Value) (x : Int32), j_go (jmt 12) post cut (n + 1) 42 ls (.int x :: r) w cb sb ↔ j_ok1 ls 2 = true ∧ j_k (jmt 12) post cut n 43 (ls.set 2 (some (.int x))) r w cb sb) ∧
  (∀ (r : List Value), j_go (jmt 12) post cut (n + 1) 43 ls r w cb sb ↔ g_ld ls[3]? (fun v => (match v with
      | .int x => j_ok1 ls 3 = true ∧ j_k (jmt 12) post cut n 46 (ls.set 3 (some (.int (x + Int32.ofInt 1)))) r w cb sb
      | _ => False))) ∧
  (∀ (r : List Value), j_go (jmt 12) post cut (n + 1) 46 ls r w cb sb ↔ j_k (jmt 12) post cut n 4 ls r w cb sb) ∧
  (∀ (r : List Value), j_go (jmt 12) post cut (n + 1) 49 ls r w cb sb ↔ g_ld ls[2]? (fun v => t_i v ∧ j_k (jmt 12) post cut n 50 ls (v :: r) w cb sb)) ∧
  (∀ (a : Int32), j_go (jmt 12) post cut (n + 1) 50 ls [.int a] w cb sb ↔ narrow .int (.int a) = .int a ∧ post (some (.int a)) w) := ⟨fun _ => (j_go_s rfl).trans e_iconst,
  fun _ _ => (j_go_s rfl).trans e_istore_n,
  fun _ => (j_go_s rfl).trans e_iconst,
  fun _ _ => (j_go_s rfl).trans e_istore_n,
  fun _ => (j_go_s rfl).trans e_iload_n,
  fun _ => (j_go_s rfl).trans e_aload_n,
  fun _ _ => (j_go_s rfl).trans e_getf,
  fun _ _ _ => (j_go_s rfl).trans e_icmp,
  fun _ => (j_go_s rfl).trans e_aload_n,
  fun _ _ => (j_go_s rfl).trans e_getf,
  fun _ => (j_go_s rfl).trans e_iload_n,
  fun _ _ _ => (j_go_s rfl).trans e_aald,
  fun _ _ => (j_go_s rfl).trans e_getf,
  fun _ _ => (j_go_s rfl).trans e_if,
  fun _ => (j_go_s rfl).trans e_aload_n,
  fun _ _ => (j_go_s rfl).trans e_getf,
  fun _ => (j_go_s rfl).trans e_iload_n,
  fun _ _ _ => (j_go_s rfl).trans e_aald,
  fun _ => (j_go_s rfl).trans e_iload_n,
  fun _ _ _ => (j_go_s rfl).trans e_callv,
  fun _ _ => (j_go_s rfl).trans e_if,
  fun _ => (j_go_s rfl).trans e_iload_n,
  fun _ => (j_go_s rfl).trans e_iconst,
  fun _ => (j_go_s rfl).trans e_iload_n,
  fun _ _ _ => (j_go_s rfl).trans e_ishl,
  fun _ _ _ => (j_go_s rfl).trans e_ior,
  fun _ _ => (j_go_s rfl).trans e_istore_n,
  fun _ => (j_go_s rfl).trans e_iinc,
  fun _ => (j_go_s rfl).trans e_goto,
  fun _ => (j_go_s rfl).trans e_iload_n,
  fun _ => (j_go_s rfl).trans e_iret⟩
set_option maxRecDepth 100000 in
set_option maxHeartbeats 4000000 in
theorem st_Net_flood {post : Option Value → jW → Prop} {cut : List Nat} {n : Nat} {ls : jL} {w : jW} {cb sb : Nat} : (∀ (r : List Value), j_go (jmt 17) post cut (n + 1) 0 ls r w cb sb ↔ j_k (jmt 17) post cut n 1 ls (.int (Int32.ofInt 0) :: r) w cb sb) ∧
  (∀ (r : List Value) (x : Int32), j_go (jmt 17) post cut (n + 1) 1 ls (.int x :: r) w cb sb ↔ j_ok1 ls 4 = true ∧ j_k (jmt 17) post cut n 3 (ls.set 4 (some (.int x))) r w cb sb) ∧
  (∀ (r : List Value), j_go (jmt 17) post cut (n + 1) 3 ls r w cb sb ↔ g_ld ls[4]? (fun v => t_i v ∧ j_k (jmt 17) post cut n 5 ls (v :: r) w cb sb)) ∧
  (∀ (r : List Value), j_go (jmt 17) post cut (n + 1) 5 ls r w cb sb ↔ g_ld ls[0]? (fun v => t_a v ∧ j_k (jmt 17) post cut n 6 ls (v :: r) w cb sb)) ∧
  (∀ (r : List Value) (a : Nat), j_go (jmt 17) post cut (n + 1) 6 ls (.ref a :: r) w cb sb ↔ g_ob 0 (w a) (fun fs => g_v fs[6]? (fun v => j_k (jmt 17) post cut n 9 ls (v :: r) w cb sb))) ∧
  (∀ (r : List Value) (a b : Int32), j_go (jmt 17) post cut (n + 1) 9 ls (.int b :: .int a :: r) w cb sb ↔ (b ≤ a → j_k (jmt 17) post cut n 66 ls r w cb sb) ∧ (¬ (b ≤ a) → j_k (jmt 17) post cut n 12 ls r w cb sb)) ∧
  (∀ (r : List Value), j_go (jmt 17) post cut (n + 1) 12 ls r w cb sb ↔ g_ld ls[4]? (fun v => t_i v ∧ j_k (jmt 17) post cut n 14 ls (v :: r) w cb sb)) ∧
  (∀ (r : List Value), j_go (jmt 17) post cut (n + 1) 14 ls r w cb sb ↔ g_ld ls[3]? (fun v => t_i v ∧ j_k (jmt 17) post cut n 15 ls (v :: r) w cb sb)) ∧
  (∀ (r : List Value) (a b : Int32), j_go (jmt 17) post cut (n + 1) 15 ls (.int b :: .int a :: r) w cb sb ↔ (a = b → j_k (jmt 17) post cut n 60 ls r w cb sb) ∧ (¬ (a = b) → j_k (jmt 17) post cut n 18 ls r w cb sb)) ∧
  (∀ (r : List Value), j_go (jmt 17) post cut (n + 1) 18 ls r w cb sb ↔ g_ld ls[0]? (fun v => t_a v ∧ j_k (jmt 17) post cut n 19 ls (v :: r) w cb sb)) ∧
  (∀ (r : List Value) (a : Nat), j_go (jmt 17) post cut (n + 1) 19 ls (.ref a :: r) w cb sb ↔ g_ob 0 (w a) (fun fs => g_v fs[2]? (fun v => j_k (jmt 17) post cut n 22 ls (v :: r) w cb sb))) ∧
  (∀ (r : List Value), j_go (jmt 17) post cut (n + 1) 22 ls r w cb sb ↔ g_ld ls[4]? (fun v => t_i v ∧ j_k (jmt 17) post cut n 24 ls (v :: r) w cb sb)) ∧
  (∀ (r : List Value) (a : Nat) (j : Int32), j_go (jmt 17) post cut (n + 1) 24 ls (.int j :: .ref a :: r) w cb sb ↔ g_qa 4 (w a) (fun m f => vp_in j m ∧ j_k (jmt 17) post cut n 25 ls (va_rf (f j.toNatClampNeg) :: r) w cb sb)) ∧
  (∀ (r : List Value) (a : Nat), j_go (jmt 17) post cut (n + 1) 25 ls (.ref a :: r) w cb sb ↔ g_ob 2 (w a) (fun fs => g_v fs[6]? (fun v => j_k (jmt 17) post cut n 28 ls (v :: r) w cb sb))) ∧
  (∀ (r : List Value) (a : Int32), j_go (jmt 17) post cut (n + 1) 28 ls (.int a :: r) w cb sb ↔ (a = 0 → j_k (jmt 17) post cut n 60 ls r w cb sb) ∧ (¬ (a = 0) → j_k (jmt 17) post cut n 31 ls r w cb sb)) ∧
  (∀ (r : List Value), j_go (jmt 17) post cut (n + 1) 31 ls r w cb sb ↔ g_ld ls[0]? (fun v => t_a v ∧ j_k (jmt 17) post cut n 32 ls (v :: r) w cb sb)) ∧
  (∀ (r : List Value) (a : Nat), j_go (jmt 17) post cut (n + 1) 32 ls (.ref a :: r) w cb sb ↔ g_ob 0 (w a) (fun fs => g_v fs[2]? (fun v => j_k (jmt 17) post cut n 35 ls (v :: r) w cb sb))) ∧
  (∀ (r : List Value), j_go (jmt 17) post cut (n + 1) 35 ls r w cb sb ↔ g_ld ls[4]? (fun v => t_i v ∧ j_k (jmt 17) post cut n 37 ls (v :: r) w cb sb)) ∧
  (∀ (r : List Value) (a : Nat) (j : Int32), j_go (jmt 17) post cut (n + 1) 37 ls (.int j :: .ref a :: r) w cb sb ↔ g_qa 4 (w a) (fun m f => vp_in j m ∧ j_k (jmt 17) post cut n 38 ls (va_rf (f j.toNatClampNeg) :: r) w cb sb)) ∧
  (∀ (r : List Value), j_go (jmt 17) post cut (n + 1) 38 ls r w cb sb ↔ g_ld ls[1]? (fun v => t_i v ∧ j_k (jmt 17) post cut n 39 ls (v :: r) w cb sb)) ∧
  (∀ (r : List Value) (a0 : Value) (b : Nat), j_go (jmt 17) post cut (n + 1) 39 ls (a0 :: .ref b :: r) w cb sb ↔ g_ob 2 (w b) (fun _ => True) ∧ j_w8 r ∧ g_call (jmt 13) [.ref b, a0] w cb sb (fun v w' c s => j_k (jmt 17) post cut n 42 ls (v.toList ++ r) w' c s)) ∧
  (∀ (r : List Value) (a : Int32), j_go (jmt 17) post cut (n + 1) 42 ls (.int a :: r) w cb sb ↔ (a = 0 → j_k (jmt 17) post cut n 60 ls r w cb sb) ∧ (¬ (a = 0) → j_k (jmt 17) post cut n 45 ls r w cb sb)) ∧
  (∀ (r : List Value), j_go (jmt 17) post cut (n + 1) 45 ls r w cb sb ↔ g_ld ls[0]? (fun v => t_a v ∧ j_k (jmt 17) post cut n 46 ls (v :: r) w cb sb)) ∧
  (∀ (r : List Value) (a : Nat), j_go (jmt 17) post cut (n + 1) 46 ls (.ref a :: r) w cb sb ↔ g_ob 0 (w a) (fun fs => g_v fs[2]? (fun v => j_k (jmt 17) post cut n 49 ls (v :: r) w cb sb))) ∧
  (∀ (r : List Value), j_go (jmt 17) post cut (n + 1) 49 ls r w cb sb ↔ g_ld ls[4]? (fun v => t_i v ∧ j_k (jmt 17) post cut n 51 ls (v :: r) w cb sb)) ∧
  (∀ (r : List Value) (a : Nat) (j : Int32), j_go (jmt 17) post cut (n + 1) 51 ls (.int j :: .ref a :: r) w cb sb ↔ g_qa 4 (w a) (fun m f => vp_in j m ∧ j_k (jmt 17) post cut n 52 ls (va_rf (f j.toNatClampNeg) :: r) w cb sb)) ∧
  (∀ (r : List Value), j_go (jmt 17) post cut (n + 1) 52 ls r w cb sb ↔ g_ld ls[1]? (fun v => t_i v ∧ j_k (jmt 17) post cut n 53 ls (v :: r) w cb sb)) ∧
  (∀ (r : List Value) (a0 : Value) (b : Nat), j_go (jmt 17) post cut (n + 1) 53 ls (a0 :: .ref b :: r) w cb sb ↔ g_ob 2 (w b) (fun _ => True) ∧ j_w8 r ∧ g_call (jmt 18) [.ref b, a0] w cb sb (fun v w' c s => j_k (jmt 17) post cut n 56 ls (v.toList ++ r) w' c s)) ∧
  (∀ (r : List Value), j_go (jmt 17) post cut (n + 1) 56 ls r w cb sb ↔ g_ld ls[2]? (fun v => t_a v ∧ j_k (jmt 17) post cut n 57 ls (v :: r) w cb sb)) ∧
  (∀ (r : List Value) (a0 : Value) (b : Nat), j_go (jmt 17) post cut (n + 1) 57 ls (a0 :: .ref b :: r) w cb sb ↔ g_ob 3 (w b) (fun _ => True) ∧ j_w8 r ∧ g_call (jmt 19) [.ref b, a0] w cb sb (fun v w' c s => j_k (jmt 17) post cut n 60 ls (v.toList ++ r) w' c s)) ∧
  (∀ (r : List Value), j_go (jmt 17) post cut (n + 1) 60 ls r w cb sb ↔ g_ld ls[4]? (fun v => (match v with
      | .int x => j_ok1 ls 4 = true ∧ j_k (jmt 17) post cut n 63 (ls.set 4 (some (.int (x + Int32.ofInt 1)))) r w cb sb
      | _ => False))) ∧
  (∀ (r : List Value), j_go (jmt 17) post cut (n + 1) 63 ls r w cb sb ↔ j_k (jmt 17) post cut n 3 ls r w cb sb) ∧
  (j_go (jmt 17) post cut (n + 1) 66 ls [] w cb sb ↔ post none w) := ⟨fun _ => (j_go_s rfl).trans e_iconst,
  fun _ _ => (j_go_s rfl).trans e_istore,
  fun _ => (j_go_s rfl).trans e_iload,
  fun _ => (j_go_s rfl).trans e_aload_n,
  fun _ _ => (j_go_s rfl).trans e_getf,
  fun _ _ _ => (j_go_s rfl).trans e_icmp,
  fun _ => (j_go_s rfl).trans e_iload,
  fun _ => (j_go_s rfl).trans e_iload_n,
  fun _ _ _ => (j_go_s rfl).trans e_icmp,
  fun _ => (j_go_s rfl).trans e_aload_n,
  fun _ _ => (j_go_s rfl).trans e_getf,
  fun _ => (j_go_s rfl).trans e_iload,
  fun _ _ _ => (j_go_s rfl).trans e_aald,
  fun _ _ => (j_go_s rfl).trans e_getf,
  fun _ _ => (j_go_s rfl).trans e_if,
  fun _ => (j_go_s rfl).trans e_aload_n,
  fun _ _ => (j_go_s rfl).trans e_getf,
  fun _ => (j_go_s rfl).trans e_iload,
  fun _ _ _ => (j_go_s rfl).trans e_aald,
  fun _ => (j_go_s rfl).trans e_iload_n,
  fun _ _ _ => (j_go_s rfl).trans e_callv,
  fun _ _ => (j_go_s rfl).trans e_if,
  fun _ => (j_go_s rfl).trans e_aload_n,
  fun _ _ => (j_go_s rfl).trans e_getf,
  fun _ => (j_go_s rfl).trans e_iload,
  fun _ _ _ => (j_go_s rfl).trans e_aald,
  fun _ => (j_go_s rfl).trans e_iload_n,
  fun _ _ _ => (j_go_s rfl).trans e_callv,
  fun _ => (j_go_s rfl).trans e_aload_n,
  fun _ _ _ => (j_go_s rfl).trans e_callv,
  fun _ => (j_go_s rfl).trans e_iinc,
  fun _ => (j_go_s rfl).trans e_goto,
  (j_go_s rfl).trans e_vret⟩
set_option maxRecDepth 100000 in
set_option maxHeartbeats 4000000 in
theorem st_Net_exchange {post : Option Value → jW → Prop} {cut : List Nat} {n : Nat} {ls : jL} {w : jW} {cb sb : Nat} : (∀ (r : List Value), j_go (jmt 20) post cut (n + 1) 0 ls r w cb sb ↔ g_ld ls[1]? (fun v => t_a v ∧ j_k (jmt 20) post cut n 1 ls (v :: r) w cb sb)) ∧
  (∀ (r : List Value) (a : Nat), j_go (jmt 20) post cut (n + 1) 1 ls (.ref a :: r) w cb sb ↔ g_ob 2 (w a) (fun fs => g_v fs[4]? (fun v => j_k (jmt 20) post cut n 4 ls (v :: r) w cb sb))) ∧
  (∀ (r : List Value), j_go (jmt 20) post cut (n + 1) 4 ls r w cb sb ↔ g_ld ls[0]? (fun v => t_a v ∧ j_k (jmt 20) post cut n 5 ls (v :: r) w cb sb)) ∧
  (∀ (r : List Value) (a : Nat), j_go (jmt 20) post cut (n + 1) 5 ls (.ref a :: r) w cb sb ↔ g_ob 0 (w a) (fun fs => g_v fs[1]? (fun v => j_k (jmt 20) post cut n 8 ls (v :: r) w cb sb))) ∧
  (∀ (r : List Value), j_go (jmt 20) post cut (n + 1) 8 ls r w cb sb ↔ g_ld ls[1]? (fun v => t_a v ∧ j_k (jmt 20) post cut n 9 ls (v :: r) w cb sb)) ∧
  (∀ (r : List Value) (a : Nat), j_go (jmt 20) post cut (n + 1) 9 ls (.ref a :: r) w cb sb ↔ g_ob 2 (w a) (fun fs => g_v fs[0]? (fun v => j_k (jmt 20) post cut n 12 ls (v :: r) w cb sb))) ∧
  (∀ (r : List Value) (a : Nat) (j : Int32), j_go (jmt 20) post cut (n + 1) 12 ls (.int j :: .ref a :: r) w cb sb ↔ g_qa 3 (w a) (fun m f => vp_in j m ∧ j_k (jmt 20) post cut n 13 ls (va_rf (f j.toNatClampNeg) :: r) w cb sb)) ∧
  (∀ (r : List Value) (a : Nat), j_go (jmt 20) post cut (n + 1) 13 ls (.ref a :: r) w cb sb ↔ g_ob 1 (w a) (fun fs => g_v fs[1]? (fun v => j_k (jmt 20) post cut n 16 ls (v :: r) w cb sb))) ∧
  (∀ (r : List Value) (a0 : Value) (b : Nat), j_go (jmt 20) post cut (n + 1) 16 ls (a0 :: .ref b :: r) w cb sb ↔ g_ob 3 (w b) (fun _ => True) ∧ j_w8 r ∧ g_call (jmt 21) [.ref b, a0] w cb sb (fun v w' c s => j_k (jmt 20) post cut n 19 ls (v.toList ++ r) w' c s)) ∧
  (∀ (r : List Value), j_go (jmt 20) post cut (n + 1) 19 ls r w cb sb ↔ g_ld ls[1]? (fun v => t_a v ∧ j_k (jmt 20) post cut n 20 ls (v :: r) w cb sb)) ∧
  (∀ (r : List Value) (a : Nat), j_go (jmt 20) post cut (n + 1) 20 ls (.ref a :: r) w cb sb ↔ g_ob 2 (w a) (fun fs => g_v fs[5]? (fun v => j_k (jmt 20) post cut n 23 ls (v :: r) w cb sb))) ∧
  (∀ (r : List Value), j_go (jmt 20) post cut (n + 1) 23 ls r w cb sb ↔ g_ld ls[0]? (fun v => t_a v ∧ j_k (jmt 20) post cut n 24 ls (v :: r) w cb sb)) ∧
  (∀ (r : List Value) (a : Nat), j_go (jmt 20) post cut (n + 1) 24 ls (.ref a :: r) w cb sb ↔ g_ob 0 (w a) (fun fs => g_v fs[1]? (fun v => j_k (jmt 20) post cut n 27 ls (v :: r) w cb sb))) ∧
  (∀ (r : List Value), j_go (jmt 20) post cut (n + 1) 27 ls r w cb sb ↔ g_ld ls[1]? (fun v => t_a v ∧ j_k (jmt 20) post cut n 28 ls (v :: r) w cb sb)) ∧
  (∀ (r : List Value) (a : Nat), j_go (jmt 20) post cut (n + 1) 28 ls (.ref a :: r) w cb sb ↔ g_ob 2 (w a) (fun fs => g_v fs[1]? (fun v => j_k (jmt 20) post cut n 31 ls (v :: r) w cb sb))) ∧
  (∀ (r : List Value) (a : Nat) (j : Int32), j_go (jmt 20) post cut (n + 1) 31 ls (.int j :: .ref a :: r) w cb sb ↔ g_qa 3 (w a) (fun m f => vp_in j m ∧ j_k (jmt 20) post cut n 32 ls (va_rf (f j.toNatClampNeg) :: r) w cb sb)) ∧
  (∀ (r : List Value) (a : Nat), j_go (jmt 20) post cut (n + 1) 32 ls (.ref a :: r) w cb sb ↔ g_ob 1 (w a) (fun fs => g_v fs[1]? (fun v => j_k (jmt 20) post cut n 35 ls (v :: r) w cb sb))) ∧
  (∀ (r : List Value) (a0 : Value) (b : Nat), j_go (jmt 20) post cut (n + 1) 35 ls (a0 :: .ref b :: r) w cb sb ↔ g_ob 3 (w b) (fun _ => True) ∧ j_w8 r ∧ g_call (jmt 21) [.ref b, a0] w cb sb (fun v w' c s => j_k (jmt 20) post cut n 38 ls (v.toList ++ r) w' c s)) ∧
  (j_go (jmt 20) post cut (n + 1) 38 ls [] w cb sb ↔ post none w) := ⟨fun _ => (j_go_s rfl).trans e_aload_n,
  fun _ _ => (j_go_s rfl).trans e_getf,
  fun _ => (j_go_s rfl).trans e_aload_n,
  fun _ _ => (j_go_s rfl).trans e_getf,
  fun _ => (j_go_s rfl).trans e_aload_n,
  fun _ _ => (j_go_s rfl).trans e_getf,
  fun _ _ _ => (j_go_s rfl).trans e_aald,
  fun _ _ => (j_go_s rfl).trans e_getf,
  fun _ _ _ => (j_go_s rfl).trans e_callv,
  fun _ => (j_go_s rfl).trans e_aload_n,
  fun _ _ => (j_go_s rfl).trans e_getf,
  fun _ => (j_go_s rfl).trans e_aload_n,
  fun _ _ => (j_go_s rfl).trans e_getf,
  fun _ => (j_go_s rfl).trans e_aload_n,
  fun _ _ => (j_go_s rfl).trans e_getf,
  fun _ _ _ => (j_go_s rfl).trans e_aald,
  fun _ _ => (j_go_s rfl).trans e_getf,
  fun _ _ _ => (j_go_s rfl).trans e_callv,
  (j_go_s rfl).trans e_vret⟩
set_option maxRecDepth 100000 in
set_option maxHeartbeats 4000000 in
theorem st_Net_cut {post : Option Value → jW → Prop} {cut : List Nat} {n : Nat} {ls : jL} {w : jW} {cb sb : Nat} : (∀ (r : List Value), j_go (jmt 22) post cut (n + 1) 0 ls r w cb sb ↔ g_ld ls[0]? (fun v => t_a v ∧ j_k (jmt 22) post cut n 1 ls (v :: r) w cb sb)) ∧
  (∀ (r : List Value), j_go (jmt 22) post cut (n + 1) 1 ls r w cb sb ↔ g_ld ls[1]? (fun v => t_i v ∧ j_k (jmt 22) post cut n 2 ls (v :: r) w cb sb)) ∧
  (∀ (r : List Value) (a0 : Value) (b : Nat), j_go (jmt 22) post cut (n + 1) 2 ls (a0 :: .ref b :: r) w cb sb ↔ g_ob 0 (w b) (fun _ => True) ∧ j_w8 r ∧ g_call (jmt 23) [.ref b, a0] w cb sb (fun v w' c s => j_k (jmt 22) post cut n 5 ls (v.toList ++ r) w' c s)) ∧
  (∀ (r : List Value) (a : Int32), j_go (jmt 22) post cut (n + 1) 5 ls (.int a :: r) w cb sb ↔ (a = 0 → j_k (jmt 22) post cut n 20 ls r w cb sb) ∧ (¬ (a = 0) → j_k (jmt 22) post cut n 8 ls r w cb sb)) ∧
  (∀ (r : List Value), j_go (jmt 22) post cut (n + 1) 8 ls r w cb sb ↔ g_ld ls[0]? (fun v => t_a v ∧ j_k (jmt 22) post cut n 9 ls (v :: r) w cb sb)) ∧
  (∀ (r : List Value) (a : Nat), j_go (jmt 22) post cut (n + 1) 9 ls (.ref a :: r) w cb sb ↔ g_ob 0 (w a) (fun fs => g_v fs[2]? (fun v => j_k (jmt 22) post cut n 12 ls (v :: r) w cb sb))) ∧
  (∀ (r : List Value), j_go (jmt 22) post cut (n + 1) 12 ls r w cb sb ↔ g_ld ls[1]? (fun v => t_i v ∧ j_k (jmt 22) post cut n 13 ls (v :: r) w cb sb)) ∧
  (∀ (r : List Value) (a : Nat) (j : Int32), j_go (jmt 22) post cut (n + 1) 13 ls (.int j :: .ref a :: r) w cb sb ↔ g_qa 4 (w a) (fun m f => vp_in j m ∧ j_k (jmt 22) post cut n 14 ls (va_rf (f j.toNatClampNeg) :: r) w cb sb)) ∧
  (∀ (r : List Value) (a : Nat), j_go (jmt 22) post cut (n + 1) 14 ls (.ref a :: r) w cb sb ↔ g_ob 2 (w a) (fun fs => g_v fs[6]? (fun v => j_k (jmt 22) post cut n 17 ls (v :: r) w cb sb))) ∧
  (∀ (r : List Value) (a : Int32), j_go (jmt 22) post cut (n + 1) 17 ls (.int a :: r) w cb sb ↔ (¬ a = 0 → j_k (jmt 22) post cut n 22 ls r w cb sb) ∧ (¬ (¬ a = 0) → j_k (jmt 22) post cut n 20 ls r w cb sb)) ∧
  (∀ (r : List Value), j_go (jmt 22) post cut (n + 1) 20 ls r w cb sb ↔ j_k (jmt 22) post cut n 21 ls (.int (Int32.ofInt (-1)) :: r) w cb sb) ∧
  (∀ (a : Int32), j_go (jmt 22) post cut (n + 1) 21 ls [.int a] w cb sb ↔ narrow .int (.int a) = .int a ∧ post (some (.int a)) w) ∧
  (∀ (r : List Value), j_go (jmt 22) post cut (n + 1) 22 ls r w cb sb ↔ g_ld ls[0]? (fun v => t_a v ∧ j_k (jmt 22) post cut n 23 ls (v :: r) w cb sb)) ∧
  (∀ (r : List Value) (a : Nat), j_go (jmt 22) post cut (n + 1) 23 ls (.ref a :: r) w cb sb ↔ g_ob 0 (w a) (fun fs => g_v fs[2]? (fun v => j_k (jmt 22) post cut n 26 ls (v :: r) w cb sb))) ∧
  (∀ (r : List Value), j_go (jmt 22) post cut (n + 1) 26 ls r w cb sb ↔ g_ld ls[1]? (fun v => t_i v ∧ j_k (jmt 22) post cut n 27 ls (v :: r) w cb sb)) ∧
  (∀ (r : List Value) (a : Nat) (j : Int32), j_go (jmt 22) post cut (n + 1) 27 ls (.int j :: .ref a :: r) w cb sb ↔ g_qa 4 (w a) (fun m f => vp_in j m ∧ j_k (jmt 22) post cut n 28 ls (va_rf (f j.toNatClampNeg) :: r) w cb sb)) ∧
  (∀ (r : List Value) (v : Value), j_go (jmt 22) post cut (n + 1) 28 ls (v :: r) w cb sb ↔ (t_a v ∧ j_ok1 ls 2 = true) ∧ j_k (jmt 22) post cut n 29 (ls.set 2 (some v)) r w cb sb) ∧
  (∀ (r : List Value), j_go (jmt 22) post cut (n + 1) 29 ls r w cb sb ↔ g_ld ls[2]? (fun v => t_a v ∧ j_k (jmt 22) post cut n 30 ls (v :: r) w cb sb)) ∧
  (∀ (r : List Value), j_go (jmt 22) post cut (n + 1) 30 ls r w cb sb ↔ j_k (jmt 22) post cut n 31 ls (.int (Int32.ofInt 0) :: r) w cb sb) ∧
  (∀ (r : List Value) (v : Value) (a : Nat), j_go (jmt 22) post cut (n + 1) 31 ls (v :: .ref a :: r) w cb sb ↔ g_ob 2 (w a) (fun fs => 6 < fs.length ∧ j_okv 1 v ∧ j_k (jmt 22) post cut n 34 ls r ((j_up w a (.inr (2, fs.set 6 v)))) cb sb)) ∧
  (∀ (r : List Value), j_go (jmt 22) post cut (n + 1) 34 ls r w cb sb ↔ g_ld ls[2]? (fun v => t_a v ∧ j_k (jmt 22) post cut n 35 ls (v :: r) w cb sb)) ∧
  (∀ (r : List Value) (a : Nat), j_go (jmt 22) post cut (n + 1) 35 ls (.ref a :: r) w cb sb ↔ g_ob 2 (w a) (fun fs => g_v fs[4]? (fun v => j_k (jmt 22) post cut n 38 ls (v :: r) w cb sb))) ∧
  (∀ (r : List Value)  (b : Nat), j_go (jmt 22) post cut (n + 1) 38 ls (.ref b :: r) w cb sb ↔ g_ob 3 (w b) (fun _ => True) ∧ j_w8 r ∧ g_call (jmt 24) [.ref b] w cb sb (fun v w' c s => j_k (jmt 22) post cut n 41 ls (v.toList ++ r) w' c s)) ∧
  (∀ (r : List Value), j_go (jmt 22) post cut (n + 1) 41 ls r w cb sb ↔ g_ld ls[2]? (fun v => t_a v ∧ j_k (jmt 22) post cut n 42 ls (v :: r) w cb sb)) ∧
  (∀ (r : List Value) (a : Nat), j_go (jmt 22) post cut (n + 1) 42 ls (.ref a :: r) w cb sb ↔ g_ob 2 (w a) (fun fs => g_v fs[5]? (fun v => j_k (jmt 22) post cut n 45 ls (v :: r) w cb sb))) ∧
  (∀ (r : List Value)  (b : Nat), j_go (jmt 22) post cut (n + 1) 45 ls (.ref b :: r) w cb sb ↔ g_ob 3 (w b) (fun _ => True) ∧ j_w8 r ∧ g_call (jmt 24) [.ref b] w cb sb (fun v w' c s => j_k (jmt 22) post cut n 48 ls (v.toList ++ r) w' c s)) ∧
  (∀ (r : List Value), j_go (jmt 22) post cut (n + 1) 48 ls r w cb sb ↔ g_ld ls[0]? (fun v => t_a v ∧ j_k (jmt 22) post cut n 49 ls (v :: r) w cb sb)) ∧
  (∀ (r : List Value), j_go (jmt 22) post cut (n + 1) 49 ls r w cb sb ↔ g_ld ls[2]? (fun v => t_a v ∧ j_k (jmt 22) post cut n 50 ls (v :: r) w cb sb)) ∧
  (∀ (r : List Value) (a : Nat), j_go (jmt 22) post cut (n + 1) 50 ls (.ref a :: r) w cb sb ↔ g_ob 2 (w a) (fun fs => g_v fs[0]? (fun v => j_k (jmt 22) post cut n 53 ls (v :: r) w cb sb))) ∧
  (∀ (r : List Value) (a0 : Value) (b : Nat), j_go (jmt 22) post cut (n + 1) 53 ls (a0 :: .ref b :: r) w cb sb ↔ g_ob 0 (w b) (fun _ => True) ∧ j_w8 r ∧ g_call (jmt 11) [.ref b, a0] w cb sb (fun v w' c s => j_k (jmt 22) post cut n 56 ls (v.toList ++ r) w' c s)) ∧
  (∀ (r : List Value), j_go (jmt 22) post cut (n + 1) 56 ls r w cb sb ↔ g_ld ls[0]? (fun v => t_a v ∧ j_k (jmt 22) post cut n 57 ls (v :: r) w cb sb)) ∧
  (∀ (r : List Value), j_go (jmt 22) post cut (n + 1) 57 ls r w cb sb ↔ g_ld ls[2]? (fun v => t_a v ∧ j_k (jmt 22) post cut n 58 ls (v :: r) w cb sb)) ∧
  (∀ (r : List Value) (a : Nat), j_go (jmt 22) post cut (n + 1) 58 ls (.ref a :: r) w cb sb ↔ g_ob 2 (w a) (fun fs => g_v fs[1]? (fun v => j_k (jmt 22) post cut n 61 ls (v :: r) w cb sb))) ∧
  (∀ (r : List Value) (a0 : Value) (b : Nat), j_go (jmt 22) post cut (n + 1) 61 ls (a0 :: .ref b :: r) w cb sb ↔ g_ob 0 (w b) (fun _ => True) ∧ j_w8 r ∧ g_call (jmt 11) [.ref b, a0] w cb sb (fun v w' c s => j_k (jmt 22) post cut n 64 ls (v.toList ++ r) w' c s)) ∧
  (∀ (r : List Value), j_go (jmt 22) post cut (n + 1) 64 ls r w cb sb ↔ j_k (jmt 22) post cut n 65 ls (.int (Int32.ofInt 0) :: r) w cb sb) ∧
  (∀ (a : Int32), j_go (jmt 22) post cut (n + 1) 65 ls [.int a] w cb sb ↔ narrow .int (.int a) = .int a ∧ post (some (.int a)) w) := ⟨fun _ => (j_go_s rfl).trans e_aload_n,
  fun _ => (j_go_s rfl).trans e_iload_n,
  fun _ _ _ => (j_go_s rfl).trans e_callv,
  fun _ _ => (j_go_s rfl).trans e_if,
  fun _ => (j_go_s rfl).trans e_aload_n,
  fun _ _ => (j_go_s rfl).trans e_getf,
  fun _ => (j_go_s rfl).trans e_iload_n,
  fun _ _ _ => (j_go_s rfl).trans e_aald,
  fun _ _ => (j_go_s rfl).trans e_getf,
  fun _ _ => (j_go_s rfl).trans e_if,
  fun _ => (j_go_s rfl).trans e_iconst,
  fun _ => (j_go_s rfl).trans e_iret,
  fun _ => (j_go_s rfl).trans e_aload_n,
  fun _ _ => (j_go_s rfl).trans e_getf,
  fun _ => (j_go_s rfl).trans e_iload_n,
  fun _ _ _ => (j_go_s rfl).trans e_aald,
  fun _ _ => (j_go_s rfl).trans e_astore_n,
  fun _ => (j_go_s rfl).trans e_aload_n,
  fun _ => (j_go_s rfl).trans e_iconst,
  fun _ _ _ => (j_go_s rfl).trans e_putf,
  fun _ => (j_go_s rfl).trans e_aload_n,
  fun _ _ => (j_go_s rfl).trans e_getf,
  fun _ _ => (j_go_s rfl).trans e_callv,
  fun _ => (j_go_s rfl).trans e_aload_n,
  fun _ _ => (j_go_s rfl).trans e_getf,
  fun _ _ => (j_go_s rfl).trans e_callv,
  fun _ => (j_go_s rfl).trans e_aload_n,
  fun _ => (j_go_s rfl).trans e_aload_n,
  fun _ _ => (j_go_s rfl).trans e_getf,
  fun _ _ _ => (j_go_s rfl).trans e_callv,
  fun _ => (j_go_s rfl).trans e_aload_n,
  fun _ => (j_go_s rfl).trans e_aload_n,
  fun _ _ => (j_go_s rfl).trans e_getf,
  fun _ _ _ => (j_go_s rfl).trans e_callv,
  fun _ => (j_go_s rfl).trans e_iconst,
  fun _ => (j_go_s rfl).trans e_iret⟩
