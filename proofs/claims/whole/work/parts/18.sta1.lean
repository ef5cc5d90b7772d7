set_option maxRecDepth 100000 in
set_option maxHeartbeats 4000000 in
theorem st_Link_target {post : Option Value → jW → Prop} {cut : List Nat} {n : Nat} {ls : jL} {w : jW} {cb sb : Nat} : (∀ (r : List Value), j_go (jmt 38) post cut (n + 1) 0 ls r w cb sb ↔ g_ld ls[1]? (fun v => t_i v ∧ j_k (jmt 38) post cut n 1 ls (v :: r) w cb sb)) ∧
  (∀ (r : List Value) (a : Int32), j_go (jmt 38) post cut (n + 1) 1 ls (.int a :: r) w cb sb ↔ (¬ a = 0 → j_k (jmt 38) post cut n 11 ls r w cb sb) ∧ (¬ (¬ a = 0) → j_k (jmt 38) post cut n 4 ls r w cb sb)) ∧
  (∀ (r : List Value), j_go (jmt 38) post cut (n + 1) 4 ls r w cb sb ↔ g_ld ls[0]? (fun v => t_a v ∧ j_k (jmt 38) post cut n 5 ls (v :: r) w cb sb)) ∧
  (∀ (r : List Value) (a : Nat), j_go (jmt 38) post cut (n + 1) 5 ls (.ref a :: r) w cb sb ↔ g_ob 2 (w a) (fun fs => g_v fs[1]? (fun v => j_k (jmt 38) post cut n 8 ls (v :: r) w cb sb))) ∧
  (∀ (r : List Value), j_go (jmt 38) post cut (n + 1) 8 ls r w cb sb ↔ j_k (jmt 38) post cut n 15 ls r w cb sb) ∧
  (∀ (r : List Value), j_go (jmt 38) post cut (n + 1) 11 ls r w cb sb ↔ g_ld ls[0]? (fun v => t_a v ∧ j_k (jmt 38) post cut n 12 ls (v :: r) w cb sb)) ∧
  (∀ (r : List Value) (a : Nat), j_go (jmt 38) post cut (n + 1) 12 ls (.ref a :: r) w cb sb ↔ g_ob 2 (w a) (fun fs => g_v fs[0]? (fun v => j_k (jmt 38) post cut n 15 ls (v :: r) w cb sb))) ∧
  (∀ (a : Int32), j_go (jmt 38) post cut (n + 1) 15 ls [.int a] w cb sb ↔ narrow .int (.int a) = .int a ∧ post (some (.int a)) w) := ⟨fun _ => (j_go_s rfl).trans e_iload_n,
  fun _ _ => (j_go_s rfl).trans e_if,
  fun _ => (j_go_s rfl).trans e_aload_n,
  fun _ _ => (j_go_s rfl).trans e_getf,
  fun _ => (j_go_s rfl).trans e_goto,
  fun _ => (j_go_s rfl).trans e_aload_n,
  fun _ _ => (j_go_s rfl).trans e_getf,
  fun _ => (j_go_s rfl).trans e_iret⟩
set_option maxRecDepth 100000 in
set_option maxHeartbeats 4000000 in
theorem st_Packet_init {post : Option Value → jW → Prop} {cut : List Nat} {n : Nat} {ls : jL} {w : jW} {cb sb : Nat} : (∀ (r : List Value), j_go (jmt 42) post cut (n + 1) 0 ls r w cb sb ↔ g_ld ls[0]? (fun v => t_a v ∧ j_k (jmt 42) post cut n 1 ls (v :: r) w cb sb)) ∧
  (∀ (r : List Value) (a : Nat), j_go (jmt 42) post cut (n + 1) 1 ls (.ref a :: r) w cb sb ↔ j_w8 r ∧ j_k (jmt 42) post cut n 4 ls r w cb sb) ∧
  (∀ (r : List Value), j_go (jmt 42) post cut (n + 1) 4 ls r w cb sb ↔ g_ld ls[0]? (fun v => t_a v ∧ j_k (jmt 42) post cut n 5 ls (v :: r) w cb sb)) ∧
  (∀ (r : List Value), j_go (jmt 42) post cut (n + 1) 5 ls r w cb sb ↔ j_k (jmt 42) post cut n 7 ls (.int (Int8.ofInt 64).toInt32 :: r) w cb sb) ∧
  (∀ (r : List Value) (z : Int32), j_go (jmt 42) post cut (n + 1) 7 ls (.int z :: r) w cb sb ↔ ¬ z < 0 ∧ 1 ≤ cb ∧ z.toNatClampNeg ≤ sb ∧ z.toNatClampNeg ≤ 60000000 ∧ ∀ a, w a = none → j_k (jmt 42) post cut n 9 ls (.ref a :: r) ((j_up w a (.inl (2, z.toNatClampNeg, .inr (.inl (fun _ => 0)))))) ((cb - 1)) ((sb - z.toNatClampNeg))) ∧
  (∀ (r : List Value) (v : Value) (a : Nat), j_go (jmt 42) post cut (n + 1) 9 ls (v :: .ref a :: r) w cb sb ↔ g_ob 6 (w a) (fun fs => 2 < fs.length ∧ j_okv 2 v ∧ j_k (jmt 42) post cut n 12 ls r ((j_up w a (.inr (6, fs.set 2 v)))) cb sb)) ∧
  (∀ (r : List Value), j_go (jmt 42) post cut (n + 1) 12 ls r w cb sb ↔ g_ld ls[0]? (fun v => t_a v ∧ j_k (jmt 42) post cut n 13 ls (v :: r) w cb sb)) ∧
  (∀ (r : List Value), j_go (jmt 42) post cut (n + 1) 13 ls r w cb sb ↔ g_ld ls[1]? (fun v => t_i v ∧ j_k (jmt 42) post cut n 14 ls (v :: r) w cb sb)) ∧
  (∀ (r : List Value) (v : Value) (a : Nat), j_go (jmt 42) post cut (n + 1) 14 ls (v :: .ref a :: r) w cb sb ↔ g_ob 6 (w a) (fun fs => 0 < fs.length ∧ j_okv 0 v ∧ j_k (jmt 42) post cut n 17 ls r ((j_up w a (.inr (6, fs.set 0 v)))) cb sb)) ∧
  (∀ (r : List Value), j_go (jmt 42) post cut (n + 1) 17 ls r w cb sb ↔ g_ld ls[0]? (fun v => t_a v ∧ j_k (jmt 42) post cut n 18 ls (v :: r) w cb sb)) ∧
  (∀ (r : List Value), j_go (jmt 42) post cut (n + 1) 18 ls r w cb sb ↔ g_ld ls[2]? (fun v => t_i v ∧ j_k (jmt 42) post cut n 19 ls (v :: r) w cb sb)) ∧
  (∀ (r : List Value) (v : Value) (a : Nat), j_go (jmt 42) post cut (n + 1) 19 ls (v :: .ref a :: r) w cb sb ↔ g_ob 6 (w a) (fun fs => 1 < fs.length ∧ j_okv 1 v ∧ j_k (jmt 42) post cut n 22 ls r ((j_up w a (.inr (6, fs.set 1 v)))) cb sb)) ∧
  (j_go (jmt 42) post cut (n + 1) 22 ls [] w cb sb ↔ post none w) := ⟨fun _ => (j_go_s rfl).trans e_aload_n,
  fun _ _ => (j_go_s rfl).trans e_objinit,
  fun _ => (j_go_s rfl).trans e_aload_n,
  fun _ => (j_go_s rfl).trans e_bipush,
  fun _ _ => (j_go_s rfl).trans e_newl,
  fun _ _ _ => (j_go_s rfl).trans e_putf,
  fun _ => (j_go_s rfl).trans e_aload_n,
  fun _ => (j_go_s rfl).trans e_iload_n,
  fun _ _ _ => (j_go_s rfl).trans e_putf,
  fun _ => (j_go_s rfl).trans e_aload_n,
  fun _ => (j_go_s rfl).trans e_iload_n,
  fun _ _ _ => (j_go_s rfl).trans e_putf,
  (j_go_s rfl).trans e_vret⟩
set_option maxRecDepth 100000 in
set_option maxHeartbeats 4000000 in
theorem st_Piece_init {post : Option Value → jW → Prop} {cut : List Nat} {n : Nat} {ls : jL} {w : jW} {cb sb : Nat} : (∀ (r : List Value), j_go (jmt 43) post cut (n + 1) 0 ls r w cb sb ↔ g_ld ls[0]? (fun v => t_a v ∧ j_k (jmt 43) post cut n 1 ls (v :: r) w cb sb)) ∧
  (∀ (r : List Value) (a : Nat), j_go (jmt 43) post cut (n + 1) 1 ls (.ref a :: r) w cb sb ↔ j_w8 r ∧ j_k (jmt 43) post cut n 4 ls r w cb sb) ∧
  (∀ (r : List Value), j_go (jmt 43) post cut (n + 1) 4 ls r w cb sb ↔ g_ld ls[0]? (fun v => t_a v ∧ j_k (jmt 43) post cut n 5 ls (v :: r) w cb sb)) ∧
  (∀ (r : List Value), j_go (jmt 43) post cut (n + 1) 5 ls r w cb sb ↔ j_k (jmt 43) post cut n 6 ls (.int (Int32.ofInt 0) :: r) w cb sb) ∧
  (∀ (r : List Value) (v : Value) (a : Nat), j_go (jmt 43) post cut (n + 1) 6 ls (v :: .ref a :: r) w cb sb ↔ g_ob 7 (w a) (fun fs => 5 < fs.length ∧ j_okv 0 v ∧ j_k (jmt 43) post cut n 9 ls r ((j_up w a (.inr (7, fs.set 5 v)))) cb sb)) ∧
  (∀ (r : List Value), j_go (jmt 43) post cut (n + 1) 9 ls r w cb sb ↔ g_ld ls[0]? (fun v => t_a v ∧ j_k (jmt 43) post cut n 10 ls (v :: r) w cb sb)) ∧
  (∀ (r : List Value), j_go (jmt 43) post cut (n + 1) 10 ls r w cb sb ↔ g_ld ls[1]? (fun v => t_i v ∧ j_k (jmt 43) post cut n 11 ls (v :: r) w cb sb)) ∧
  (∀ (r : List Value) (v : Value) (a : Nat), j_go (jmt 43) post cut (n + 1) 11 ls (v :: .ref a :: r) w cb sb ↔ g_ob 7 (w a) (fun fs => 0 < fs.length ∧ j_okv 0 v ∧ j_k (jmt 43) post cut n 14 ls r ((j_up w a (.inr (7, fs.set 0 v)))) cb sb)) ∧
  (∀ (r : List Value), j_go (jmt 43) post cut (n + 1) 14 ls r w cb sb ↔ g_ld ls[0]? (fun v => t_a v ∧ j_k (jmt 43) post cut n 15 ls (v :: r) w cb sb)) ∧
  (∀ (r : List Value), j_go (jmt 43) post cut (n + 1) 15 ls r w cb sb ↔ g_ld ls[2]? (fun v => t_i v ∧ j_k (jmt 43) post cut n 16 ls (v :: r) w cb sb)) ∧
  (∀ (r : List Value) (v : Value) (a : Nat), j_go (jmt 43) post cut (n + 1) 16 ls (v :: .ref a :: r) w cb sb ↔ g_ob 7 (w a) (fun fs => 1 < fs.length ∧ j_okv 0 v ∧ j_k (jmt 43) post cut n 19 ls r ((j_up w a (.inr (7, fs.set 1 v)))) cb sb)) ∧
  (∀ (r : List Value), j_go (jmt 43) post cut (n + 1) 19 ls r w cb sb ↔ g_ld ls[0]? (fun v => t_a v ∧ j_k (jmt 43) post cut n 20 ls (v :: r) w cb sb)) ∧
  (∀ (r : List Value), j_go (jmt 43) post cut (n + 1) 20 ls r w cb sb ↔ g_ld ls[3]? (fun v => t_i v ∧ j_k (jmt 43) post cut n 21 ls (v :: r) w cb sb)) ∧
  (∀ (r : List Value) (v : Value) (a : Nat), j_go (jmt 43) post cut (n + 1) 21 ls (v :: .ref a :: r) w cb sb ↔ g_ob 7 (w a) (fun fs => 2 < fs.length ∧ j_okv 0 v ∧ j_k (jmt 43) post cut n 24 ls r ((j_up w a (.inr (7, fs.set 2 v)))) cb sb)) ∧
  (∀ (r : List Value), j_go (jmt 43) post cut (n + 1) 24 ls r w cb sb ↔ g_ld ls[0]? (fun v => t_a v ∧ j_k (jmt 43) post cut n 25 ls (v :: r) w cb sb)) ∧
  (∀ (r : List Value), j_go (jmt 43) post cut (n + 1) 25 ls r w cb sb ↔ g_ld ls[4]? (fun v => t_i v ∧ j_k (jmt 43) post cut n 27 ls (v :: r) w cb sb)) ∧
  (∀ (r : List Value) (v : Value) (a : Nat), j_go (jmt 43) post cut (n + 1) 27 ls (v :: .ref a :: r) w cb sb ↔ g_ob 7 (w a) (fun fs => 3 < fs.length ∧ j_okv 0 v ∧ j_k (jmt 43) post cut n 30 ls r ((j_up w a (.inr (7, fs.set 3 v)))) cb sb)) ∧
  (∀ (r : List Value), j_go (jmt 43) post cut (n + 1) 30 ls r w cb sb ↔ g_ld ls[0]? (fun v => t_a v ∧ j_k (jmt 43) post cut n 31 ls (v :: r) w cb sb)) ∧
  (∀ (r : List Value), j_go (jmt 43) post cut (n + 1) 31 ls r w cb sb ↔ g_ld ls[5]? (fun v => t_i v ∧ j_k (jmt 43) post cut n 33 ls (v :: r) w cb sb)) ∧
  (∀ (r : List Value) (v : Value) (a : Nat), j_go (jmt 43) post cut (n + 1) 33 ls (v :: .ref a :: r) w cb sb ↔ g_ob 7 (w a) (fun fs => 4 < fs.length ∧ j_okv 0 v ∧ j_k (jmt 43) post cut n 36 ls r ((j_up w a (.inr (7, fs.set 4 v)))) cb sb)) ∧
  (j_go (jmt 43) post cut (n + 1) 36 ls [] w cb sb ↔ post none w) := ⟨fun _ => (j_go_s rfl).trans e_aload_n,
  fun _ _ => (j_go_s rfl).trans e_objinit,
  fun _ => (j_go_s rfl).trans e_aload_n,
  fun _ => (j_go_s rfl).trans e_iconst,
  fun _ _ _ => (j_go_s rfl).trans e_putf,
  fun _ => (j_go_s rfl).trans e_aload_n,
  fun _ => (j_go_s rfl).trans e_iload_n,
  fun _ _ _ => (j_go_s rfl).trans e_putf,
  fun _ => (j_go_s rfl).trans e_aload_n,
  fun _ => (j_go_s rfl).trans e_iload_n,
  fun _ _ _ => (j_go_s rfl).trans e_putf,
  fun _ => (j_go_s rfl).trans e_aload_n,
  fun _ => (j_go_s rfl).trans e_iload_n,
  fun _ _ _ => (j_go_s rfl).trans e_putf,
  fun _ => (j_go_s rfl).trans e_aload_n,
  fun _ => (j_go_s rfl).trans e_iload,
  fun _ _ _ => (j_go_s rfl).trans e_putf,
  fun _ => (j_go_s rfl).trans e_aload_n,
  fun _ => (j_go_s rfl).trans e_iload,
  fun _ _ _ => (j_go_s rfl).trans e_putf,
  (j_go_s rfl).trans e_vret⟩
set_option maxRecDepth 100000 in
set_option maxHeartbeats 4000000 in
theorem st_Chart_survey {post : Option Value → jW → Prop} {cut : List Nat} {n : Nat} {ls : jL} {w : jW} {cb sb : Nat} : (∀ (r : List Value), j_go (jmt 49) post cut (n + 1) 0 ls r w cb sb ↔ j_k (jmt 49) post cut n 1 ls (.int (Int32.ofInt 0) :: r) w cb sb) ∧
  (∀ (r : List Value) (x : Int32), j_go (jmt 49) post cut (n + 1) 1 ls (.int x :: r) w cb sb ↔ j_ok1 ls 5 = true ∧ j_k (jmt 49) post cut n 3 (ls.set 5 (some (.int x))) r w cb sb) ∧
  (∀ (r : List Value), j_go (jmt 49) post cut (n + 1) 3 ls r w cb sb ↔ g_ld ls[5]? (fun v => t_i v ∧ j_k (jmt 49) post cut n 5 ls (v :: r) w cb sb)) ∧
  (∀ (r : List Value), j_go (jmt 49) post cut (n + 1) 5 ls r w cb sb ↔ g_ld ls[4]? (fun v => t_i v ∧ j_k (jmt 49) post cut n 7 ls (v :: r) w cb sb)) ∧
  (∀ (r : List Value) (a b : Int32), j_go (jmt 49) post cut (n + 1) 7 ls (.int b :: .int a :: r) w cb sb ↔ (b ≤ a → j_k (jmt 49) post cut n 80 ls r w cb sb) ∧ (¬ (b ≤ a) → j_k (jmt 49) post cut n 10 ls r w cb sb)) ∧
  (∀ (r : List Value), j_go (jmt 49) post cut (n + 1) 10 ls r w cb sb ↔ g_ld ls[2]? (fun v => t_a v ∧ j_k (jmt 49) post cut n 11 ls (v :: r) w cb sb)) ∧
  (∀ (r : List Value), j_go (jmt 49) post cut (n + 1) 11 ls r w cb sb ↔ g_ld ls[3]? (fun v => t_a v ∧ j_k (jmt 49) post cut n 12 ls (v :: r) w cb sb)) ∧
  (∀ (r : List Value), j_go (jmt 49) post cut (n + 1) 12 ls r w cb sb ↔ g_ld ls[5]? (fun v => t_i v ∧ j_k (jmt 49) post cut n 14 ls (v :: r) w cb sb)) ∧
  (∀ (r : List Value) (a : Nat) (j : Int32), j_go (jmt 49) post cut (n + 1) 14 ls (.int j :: .ref a :: r) w cb sb ↔ g_qa 4 (w a) (fun m f => vp_in j m ∧ j_k (jmt 49) post cut n 15 ls (va_rf (f j.toNatClampNeg) :: r) w cb sb)) ∧
  (∀ (r : List Value) (a : Nat), j_go (jmt 49) post cut (n + 1) 15 ls (.ref a :: r) w cb sb ↔ g_ob 2 (w a) (fun fs => g_v fs[0]? (fun v => j_k (jmt 49) post cut n 18 ls (v :: r) w cb sb))) ∧
  (∀ (r : List Value) (a : Nat) (j : Int32), j_go (jmt 49) post cut (n + 1) 18 ls (.int j :: .ref a :: r) w cb sb ↔ g_qa 7 (w a) (fun m f => vp_in j m ∧ j_k (jmt 49) post cut n 19 ls (va_rf (f j.toNatClampNeg) :: r) w cb sb)) ∧
  (∀ (r : List Value) (v : Value), j_go (jmt 49) post cut (n + 1) 19 ls (v :: r) w cb sb ↔ (t_a v ∧ j_ok1 ls 6 = true) ∧ j_k (jmt 49) post cut n 21 (ls.set 6 (some v)) r w cb sb) ∧
  (∀ (r : List Value), j_go (jmt 49) post cut (n + 1) 21 ls r w cb sb ↔ g_ld ls[2]? (fun v => t_a v ∧ j_k (jmt 49) post cut n 22 ls (v :: r) w cb sb)) ∧
  (∀ (r : List Value), j_go (jmt 49) post cut (n + 1) 22 ls r w cb sb ↔ g_ld ls[3]? (fun v => t_a v ∧ j_k (jmt 49) post cut n 23 ls (v :: r) w cb sb)) ∧
  (∀ (r : List Value), j_go (jmt 49) post cut (n + 1) 23 ls r w cb sb ↔ g_ld ls[5]? (fun v => t_i v ∧ j_k (jmt 49) post cut n 25 ls (v :: r) w cb sb)) ∧
  (∀ (r : List Value) (a : Nat) (j : Int32), j_go (jmt 49) post cut (n + 1) 25 ls (.int j :: .ref a :: r) w cb sb ↔ g_qa 4 (w a) (fun m f => vp_in j m ∧ j_k (jmt 49) post cut n 26 ls (va_rf (f j.toNatClampNeg) :: r) w cb sb)) ∧
  (∀ (r : List Value) (a : Nat), j_go (jmt 49) post cut (n + 1) 26 ls (.ref a :: r) w cb sb ↔ g_ob 2 (w a) (fun fs => g_v fs[1]? (fun v => j_k (jmt 49) post cut n 29 ls (v :: r) w cb sb))) ∧
  (∀ (r : List Value) (a : Nat) (j : Int32), j_go (jmt 49) post cut (n + 1) 29 ls (.int j :: .ref a :: r) w cb sb ↔ g_qa 7 (w a) (fun m f => vp_in j m ∧ j_k (jmt 49) post cut n 30 ls (va_rf (f j.toNatClampNeg) :: r) w cb sb)) ∧
  (∀ (r : List Value) (v : Value), j_go (jmt 49) post cut (n + 1) 30 ls (v :: r) w cb sb ↔ (t_a v ∧ j_ok1 ls 7 = true) ∧ j_k (jmt 49) post cut n 32 (ls.set 7 (some v)) r w cb sb) ∧
  (∀ (r : List Value), j_go (jmt 49) post cut (n + 1) 32 ls r w cb sb ↔ g_ld ls[0]? (fun v => t_a v ∧ j_k (jmt 49) post cut n 33 ls (v :: r) w cb sb)) ∧
  (∀ (r : List Value) (a : Nat), j_go (jmt 49) post cut (n + 1) 33 ls (.ref a :: r) w cb sb ↔ g_ob 5 (w a) (fun fs => g_v fs[2]? (fun v => j_k (jmt 49) post cut n 36 ls (v :: r) w cb sb))) ∧
  (∀ (r : List Value), j_go (jmt 49) post cut (n + 1) 36 ls r w cb sb ↔ g_ld ls[5]? (fun v => t_i v ∧ j_k (jmt 49) post cut n 38 ls (v :: r) w cb sb)) ∧
  (∀ (r : List Value), j_go (jmt 49) post cut (n + 1) 38 ls r w cb sb ↔ g_ld ls[6]? (fun v => t_a v ∧ j_k (jmt 49) post cut n 40 ls (v :: r) w cb sb)) ∧
  (∀ (r : List Value), j_go (jmt 49) post cut (n + 1) 40 ls (.null :: r) w cb sb ↔ j_k (jmt 49) post cut n 72 ls r w cb sb) ∧
  (∀ (r : List Value) (a : Nat), j_go (jmt 49) post cut (n + 1) 40 ls (.ref a :: r) w cb sb ↔ j_k (jmt 49) post cut n 43 ls r w cb sb) ∧
  (∀ (r : List Value), j_go (jmt 49) post cut (n + 1) 43 ls r w cb sb ↔ g_ld ls[7]? (fun v => t_a v ∧ j_k (jmt 49) post cut n 45 ls (v :: r) w cb sb)) ∧
  (∀ (r : List Value), j_go (jmt 49) post cut (n + 1) 45 ls (.null :: r) w cb sb ↔ j_k (jmt 49) post cut n 72 ls r w cb sb) ∧
  (∀ (r : List Value) (a : Nat), j_go (jmt 49) post cut (n + 1) 45 ls (.ref a :: r) w cb sb ↔ j_k (jmt 49) post cut n 48 ls r w cb sb) ∧
  (∀ (r : List Value), j_go (jmt 49) post cut (n + 1) 48 ls r w cb sb ↔ g_ld ls[6]? (fun v => t_a v ∧ j_k (jmt 49) post cut n 50 ls (v :: r) w cb sb)) ∧
  (∀ (r : List Value), j_go (jmt 49) post cut (n + 1) 50 ls r w cb sb ↔ g_ld ls[5]? (fun v => t_i v ∧ j_k (jmt 49) post cut n 52 ls (v :: r) w cb sb)) ∧
  (∀ (r : List Value) (a0 : Value) (b : Nat), j_go (jmt 49) post cut (n + 1) 52 ls (a0 :: .ref b :: r) w cb sb ↔ g_ob 4 (w b) (fun _ => True) ∧ j_w8 r ∧ g_call (jmt 50) [.ref b, a0] w cb sb (fun v w' c s => j_k (jmt 49) post cut n 55 ls (v.toList ++ r) w' c s)) ∧
  (∀ (r : List Value) (a : Int32), j_go (jmt 49) post cut (n + 1) 55 ls (.int a :: r) w cb sb ↔ (a = 0 → j_k (jmt 49) post cut n 72 ls r w cb sb) ∧ (¬ (a = 0) → j_k (jmt 49) post cut n 58 ls r w cb sb)) ∧
  (∀ (r : List Value), j_go (jmt 49) post cut (n + 1) 58 ls r w cb sb ↔ g_ld ls[7]? (fun v => t_a v ∧ j_k (jmt 49) post cut n 60 ls (v :: r) w cb sb)) ∧
  (∀ (r : List Value), j_go (jmt 49) post cut (n + 1) 60 ls r w cb sb ↔ g_ld ls[5]? (fun v => t_i v ∧ j_k (jmt 49) post cut n 62 ls (v :: r) w cb sb)) ∧
  (∀ (r : List Value) (a0 : Value) (b : Nat), j_go (jmt 49) post cut (n + 1) 62 ls (a0 :: .ref b :: r) w cb sb ↔ g_ob 4 (w b) (fun _ => True) ∧ j_w8 r ∧ g_call (jmt 50) [.ref b, a0] w cb sb (fun v w' c s => j_k (jmt 49) post cut n 65 ls (v.toList ++ r) w' c s)) ∧
  (∀ (r : List Value) (a : Int32), j_go (jmt 49) post cut (n + 1) 65 ls (.int a :: r) w cb sb ↔ (a = 0 → j_k (jmt 49) post cut n 72 ls r w cb sb) ∧ (¬ (a = 0) → j_k (jmt 49) post cut n 68 ls r w cb sb)) ∧
  (∀ (r : List Value), j_go (jmt 49) post cut (n + 1) 68 ls r w cb sb ↔ j_k (jmt 49) post cut n 69 ls (.int (Int32.ofInt 1) :: r) w cb sb) ∧
  (∀ (r : List Value), j_go (jmt 49) post cut (n + 1) 69 ls r w cb sb ↔ j_k (jmt 49) post cut n 73 ls r w cb sb) ∧
  (∀ (r : List Value), j_go (jmt 49) post cut (n + 1) 72 ls r w cb sb ↔ j_k (jmt 49) post cut n 73 ls (.int (Int32.ofInt 0) :: r) w cb sb) ∧
  (∀ (r : List Value) (a : Nat) (j v : Int32), j_go (jmt 49) post cut (n + 1) 73 ls (.int v :: .int j :: .ref a :: r) w cb sb ↔ g_ia 1 (w a) (fun m f => vp_in j m ∧ j_k (jmt 49) post cut n 74 ls r ((j_up w a (.inl (1, m, .inl (upd f j.toNatClampNeg (vp_nar .boolean v)))))) cb sb)) ∧
  (∀ (r : List Value), j_go (jmt 49) post cut (n + 1) 74 ls r w cb sb ↔ g_ld ls[5]? (fun v => (match v with
      | .int x => j_ok1 ls 5 = true ∧ j_k (jmt 49) post cut n 77 (ls.set 5 (some (.int (x + Int32.ofInt 1)))) r w cb sb
      | _ => False))) ∧
  (∀ (r : List Value), j_go (jmt 49) post cut (n + 1) 77 ls r w cb sb ↔ j_k (jmt 49) post cut n 3 ls r w cb sb) ∧
  (∀ (r : List Value), j_go (jmt 49) post cut (n + 1) 80 ls r w cb sb ↔ g_ld ls[0]? (fun v => t_a v ∧ j_k (jmt 49) post cut n 81 ls (v :: r) w cb sb)) ∧
  (∀ (r : List Value), j_go (jmt 49) post cut (n + 1) 81 ls r w cb sb ↔ g_ld ls[1]? (fun v => t_i v ∧ j_k (jmt 49) post cut n 82 ls (v :: r) w cb sb)) ∧
  (∀ (r : List Value), j_go (jmt 49) post cut (n + 1) 82 ls r w cb sb ↔ g_ld ls[0]? (fun v => t_a v ∧ j_k (jmt 49) post cut n 83 ls (v :: r) w cb sb)) ∧
  (∀ (r : List Value) (a : Nat), j_go (jmt 49) post cut (n + 1) 83 ls (.ref a :: r) w cb sb ↔ g_ob 5 (w a) (fun fs => g_v fs[0]? (fun v => j_k (jmt 49) post cut n 86 ls (v :: r) w cb sb))) ∧
  (∀ (r : List Value), j_go (jmt 49) post cut (n + 1) 86 ls r w cb sb ↔ g_ld ls[3]? (fun v => t_a v ∧ j_k (jmt 49) post cut n 87 ls (v :: r) w cb sb)) ∧
  (∀ (r : List Value), j_go (jmt 49) post cut (n + 1) 87 ls r w cb sb ↔ g_ld ls[4]? (fun v => t_i v ∧ j_k (jmt 49) post cut n 89 ls (v :: r) w cb sb)) ∧
  (∀ (r : List Value) (a0 a1 a2 a3 : Value) (b : Nat), j_go (jmt 49) post cut (n + 1) 89 ls (a3 :: a2 :: a1 :: a0 :: .ref b :: r) w cb sb ↔ g_ob 5 (w b) (fun _ => True) ∧ j_w8 r ∧ g_call (jmt 51) [.ref b, a0, a1, a2, a3] w cb sb (fun v w' c s => j_k (jmt 49) post cut n 92 ls (v.toList ++ r) w' c s)) ∧
  (j_go (jmt 49) post cut (n + 1) 92 ls [] w cb sb ↔ post none w) := ⟨fun _ => (j_go_s rfl).trans e_iconst,
  fun _ _ => (j_go_s rfl).trans e_istore,
  fun _ => (j_go_s rfl).trans e_iload,
  fun _ => (j_go_s rfl).trans e_iload,
  fun _ _ _ => (j_go_s rfl).trans e_icmp,
  fun _ => (j_go_s rfl).trans e_aload_n,
  fun _ => (j_go_s rfl).trans e_aload_n,
  fun _ => (j_go_s rfl).trans e_iload,
  fun _ _ _ => (j_go_s rfl).trans e_aald,
  fun _ _ => (j_go_s rfl).trans e_getf,
  fun _ _ _ => (j_go_s rfl).trans e_aald,
  fun _ _ => (j_go_s rfl).trans e_astore,
  fun _ => (j_go_s rfl).trans e_aload_n,
  fun _ => (j_go_s rfl).trans e_aload_n,
  fun _ => (j_go_s rfl).trans e_iload,
  fun _ _ _ => (j_go_s rfl).trans e_aald,
  fun _ _ => (j_go_s rfl).trans e_getf,
  fun _ _ _ => (j_go_s rfl).trans e_aald,
  fun _ _ => (j_go_s rfl).trans e_astore,
  fun _ => (j_go_s rfl).trans e_aload_n,
  fun _ _ => (j_go_s rfl).trans e_getf,
  fun _ => (j_go_s rfl).trans e_iload,
  fun _ => (j_go_s rfl).trans e_aload,
  fun _ => (j_go_s rfl).trans e_ifnull_n,
  fun _ _ => (j_go_s rfl).trans e_ifnull_r,
  fun _ => (j_go_s rfl).trans e_aload,
  fun _ => (j_go_s rfl).trans e_ifnull_n,
  fun _ _ => (j_go_s rfl).trans e_ifnull_r,
  fun _ => (j_go_s rfl).trans e_aload,
  fun _ => (j_go_s rfl).trans e_iload,
  fun _ _ _ => (j_go_s rfl).trans e_callv,
  fun _ _ => (j_go_s rfl).trans e_if,
  fun _ => (j_go_s rfl).trans e_aload,
  fun _ => (j_go_s rfl).trans e_iload,
  fun _ _ _ => (j_go_s rfl).trans e_callv,
  fun _ _ => (j_go_s rfl).trans e_if,
  fun _ => (j_go_s rfl).trans e_iconst,
  fun _ => (j_go_s rfl).trans e_goto,
  fun _ => (j_go_s rfl).trans e_iconst,
  fun _ _ _ _ => (j_go_s rfl).trans e_zast,
  fun _ => (j_go_s rfl).trans e_iinc,
  fun _ => (j_go_s rfl).trans e_goto,
  fun _ => (j_go_s rfl).trans e_aload_n,
  fun _ => (j_go_s rfl).trans e_iload_n,
  fun _ => (j_go_s rfl).trans e_aload_n,
  fun _ _ => (j_go_s rfl).trans e_getf,
  fun _ => (j_go_s rfl).trans e_aload_n,
  fun _ => (j_go_s rfl).trans e_iload,
  fun _ _ _ _ _ _ => (j_go_s rfl).trans e_callv,
  (j_go_s rfl).trans e_vret⟩
set_option maxRecDepth 100000 in
set_option maxHeartbeats 4000000 in
theorem st_Advert_hasLink {post : Option Value → jW → Prop} {cut : List Nat} {n : Nat} {ls : jL} {w : jW} {cb sb : Nat} : (∀ (r : List Value), j_go (jmt 50) post cut (n + 1) 0 ls r w cb sb ↔ g_ld ls[0]? (fun v => t_a v ∧ j_k (jmt 50) post cut n 1 ls (v :: r) w cb sb)) ∧
  (∀ (r : List Value) (a : Nat), j_go (jmt 50) post cut (n + 1) 1 ls (.ref a :: r) w cb sb ↔ g_ob 4 (w a) (fun fs => g_v fs[2]? (fun v => j_k (jmt 50) post cut n 4 ls (v :: r) w cb sb))) ∧
  (∀ (r : List Value), j_go (jmt 50) post cut (n + 1) 4 ls r w cb sb ↔ g_ld ls[1]? (fun v => t_i v ∧ j_k (jmt 50) post cut n 5 ls (v :: r) w cb sb)) ∧
  (∀ (r : List Value) (x y : Int32), j_go (jmt 50) post cut (n + 1) 5 ls (.int y :: .int x :: r) w cb sb ↔ j_k (jmt 50) post cut n 6 ls (.int (x >>> (y &&& 31)) :: r) w cb sb) ∧
  (∀ (r : List Value), j_go (jmt 50) post cut (n + 1) 6 ls r w cb sb ↔ j_k (jmt 50) post cut n 7 ls (.int (Int32.ofInt 1) :: r) w cb sb) ∧
  (∀ (r : List Value) (x y : Int32), j_go (jmt 50) post cut (n + 1) 7 ls (.int y :: .int x :: r) w cb sb ↔ j_k (jmt 50) post cut n 8 ls (.int (x &&& y) :: r) w cb sb) ∧
  (∀ (r : List Value), j_go (jmt 50) post cut (n + 1) 8 ls r w cb sb ↔ j_k (jmt 50) post cut n 9 ls (.int (Int32.ofInt 1) :: r) w cb sb) ∧
  (∀ (r : List Value) (a b : Int32), j_go (jmt 50) post cut (n + 1) 9 ls (.int b :: .int a :: r) w cb sb ↔ (¬ a = b → j_k (jmt 50) post cut n 16 ls r w cb sb) ∧ (¬ (¬ a = b) → j_k (jmt 50) post cut n 12 ls r w cb sb)) ∧
  (∀ (r : List Value), j_go (jmt 50) post cut (n + 1) 12 ls r w cb sb ↔ j_k (jmt 50) post cut n 13 ls (.int (Int32.ofInt 1) :: r) w cb sb) ∧
  (∀ (r : List Value), j_go (jmt 50) post cut (n + 1) 13 ls r w cb sb ↔ j_k (jmt 50) post cut n 17 ls r w cb sb) ∧
  (∀ (r : List Value), j_go (jmt 50) post cut (n + 1) 16 ls r w cb sb ↔ j_k (jmt 50) post cut n 17 ls (.int (Int32.ofInt 0) :: r) w cb sb) ∧
  (∀ (a : Int32), j_go (jmt 50) post cut (n + 1) 17 ls [.int a] w cb sb ↔ narrow .boolean (.int a) = .int a ∧ post (some (.int a)) w) := ⟨fun _ => (j_go_s rfl).trans e_aload_n,
  fun _ _ => (j_go_s rfl).trans e_getf,
  fun _ => (j_go_s rfl).trans e_iload_n,
  fun _ _ _ => (j_go_s rfl).trans e_ishr,
  fun _ => (j_go_s rfl).trans e_iconst,
  fun _ _ _ => (j_go_s rfl).trans e_iand,
  fun _ => (j_go_s rfl).trans e_iconst,
  fun _ _ _ => (j_go_s rfl).trans e_icmp,
  fun _ => (j_go_s rfl).trans e_iconst,
  fun _ => (j_go_s rfl).trans e_goto,
  fun _ => (j_go_s rfl).trans e_iconst,
  fun _ => (j_go_s rfl).trans e_iret⟩
set_option maxRecDepth 100000 in
set_option maxHeartbeats 4000000 in
theorem st_Chart_measure {post : Option Value → jW → Prop} {cut : List Nat} {n : Nat} {ls : jL} {w : jW} {cb sb : Nat} : (∀ (r : List Value), j_go (jmt 51) post cut (n + 1) 0 ls r w cb sb ↔ g_ld ls[2]? (fun v => t_a v ∧ j_k (jmt 51) post cut n 1 ls (v :: r) w cb sb)) ∧
  (∀ (r : List Value), j_go (jmt 51) post cut (n + 1) 1 ls r w cb sb ↔ j_k (jmt 51) post cut n 3 ls (.int (Int32.ofNat 1000000) :: r) w cb sb) ∧
  (∀ (r : List Value) (a0 a1 : Value), j_go (jmt 51) post cut (n + 1) 3 ls (a1 :: a0 :: r) w cb sb ↔ j_w8 r ∧ g_call (jmt 52) [a0, a1] w cb sb (fun v w' c s => j_k (jmt 51) post cut n 6 ls (v.toList ++ r) w' c s)) ∧
  (∀ (r : List Value), j_go (jmt 51) post cut (n + 1) 6 ls r w cb sb ↔ g_ld ls[2]? (fun v => t_a v ∧ j_k (jmt 51) post cut n 7 ls (v :: r) w cb sb)) ∧
  (∀ (r : List Value), j_go (jmt 51) post cut (n + 1) 7 ls r w cb sb ↔ g_ld ls[1]? (fun v => t_i v ∧ j_k (jmt 51) post cut n 8 ls (v :: r) w cb sb)) ∧
  (∀ (r : List Value), j_go (jmt 51) post cut (n + 1) 8 ls r w cb sb ↔ j_k (jmt 51) post cut n 9 ls (.int (Int32.ofInt 0) :: r) w cb sb) ∧
  (∀ (r : List Value) (a : Nat) (j v : Int32), j_go (jmt 51) post cut (n + 1) 9 ls (.int v :: .int j :: .ref a :: r) w cb sb ↔ g_ia 0 (w a) (fun m f => vp_in j m ∧ j_k (jmt 51) post cut n 10 ls r ((j_up w a (.inl (0, m, .inl (upd f j.toNatClampNeg v))))) cb sb)) ∧
  (∀ (r : List Value), j_go (jmt 51) post cut (n + 1) 10 ls r w cb sb ↔ j_k (jmt 51) post cut n 11 ls (.int (Int32.ofInt 1) :: r) w cb sb) ∧
  (∀ (r : List Value) (x : Int32), j_go (jmt 51) post cut (n + 1) 11 ls (.int x :: r) w cb sb ↔ j_ok1 ls 5 = true ∧ j_k (jmt 51) post cut n 13 (ls.set 5 (some (.int x))) r w cb sb) ∧
  (∀ (r : List Value), j_go (jmt 51) post cut (n + 1) 13 ls r w cb sb ↔ g_ld ls[5]? (fun v => t_i v ∧ j_k (jmt 51) post cut n 15 ls (v :: r) w cb sb)) ∧
  (∀ (r : List Value), j_go (jmt 51) post cut (n + 1) 15 ls r w cb sb ↔ j_k (jmt 51) post cut n 17 ls (.int (Int8.ofInt 8).toInt32 :: r) w cb sb) ∧
  (∀ (r : List Value) (a b : Int32), j_go (jmt 51) post cut (n + 1) 17 ls (.int b :: .int a :: r) w cb sb ↔ (b ≤ a → j_k (jmt 51) post cut n 60 ls r w cb sb) ∧ (¬ (b ≤ a) → j_k (jmt 51) post cut n 20 ls r w cb sb)) ∧
  (∀ (r : List Value), j_go (jmt 51) post cut (n + 1) 20 ls r w cb sb ↔ j_k (jmt 51) post cut n 21 ls (.int (Int32.ofInt 0) :: r) w cb sb) ∧
  (∀ (r : List Value) (x : Int32), j_go (jmt 51) post cut (n + 1) 21 ls (.int x :: r) w cb sb ↔ j_ok1 ls 6 = true ∧ j_k (jmt 51) post cut n 23 (ls.set 6 (some (.int x))) r w cb sb) ∧
  (∀ (r : List Value), j_go (jmt 51) post cut (n + 1) 23 ls r w cb sb ↔ g_ld ls[6]? (fun v => t_i v ∧ j_k (jmt 51) post cut n 25 ls (v :: r) w cb sb)) ∧
  (∀ (r : List Value), j_go (jmt 51) post cut (n + 1) 25 ls r w cb sb ↔ g_ld ls[4]? (fun v => t_i v ∧ j_k (jmt 51) post cut n 27 ls (v :: r) w cb sb)) ∧
  (∀ (r : List Value) (a b : Int32), j_go (jmt 51) post cut (n + 1) 27 ls (.int b :: .int a :: r) w cb sb ↔ (b ≤ a → j_k (jmt 51) post cut n 54 ls r w cb sb) ∧ (¬ (b ≤ a) → j_k (jmt 51) post cut n 30 ls r w cb sb)) ∧
  (∀ (r : List Value), j_go (jmt 51) post cut (n + 1) 30 ls r w cb sb ↔ g_ld ls[0]? (fun v => t_a v ∧ j_k (jmt 51) post cut n 31 ls (v :: r) w cb sb)) ∧
  (∀ (r : List Value) (a : Nat), j_go (jmt 51) post cut (n + 1) 31 ls (.ref a :: r) w cb sb ↔ g_ob 5 (w a) (fun fs => g_v fs[2]? (fun v => j_k (jmt 51) post cut n 34 ls (v :: r) w cb sb))) ∧
  (∀ (r : List Value), j_go (jmt 51) post cut (n + 1) 34 ls r w cb sb ↔ g_ld ls[6]? (fun v => t_i v ∧ j_k (jmt 51) post cut n 36 ls (v :: r) w cb sb)) ∧
  (∀ (r : List Value) (a : Nat) (j : Int32), j_go (jmt 51) post cut (n + 1) 36 ls (.int j :: .ref a :: r) w cb sb ↔ g_ia 1 (w a) (fun m f => vp_in j m ∧ j_k (jmt 51) post cut n 37 ls (.int (f j.toNatClampNeg) :: r) w cb sb)) ∧
  (∀ (r : List Value) (a : Int32), j_go (jmt 51) post cut (n + 1) 37 ls (.int a :: r) w cb sb ↔ (a = 0 → j_k (jmt 51) post cut n 48 ls r w cb sb) ∧ (¬ (a = 0) → j_k (jmt 51) post cut n 40 ls r w cb sb)) ∧
  (∀ (r : List Value), j_go (jmt 51) post cut (n + 1) 40 ls r w cb sb ↔ g_ld ls[2]? (fun v => t_a v ∧ j_k (jmt 51) post cut n 41 ls (v :: r) w cb sb)) ∧
  (∀ (r : List Value), j_go (jmt 51) post cut (n + 1) 41 ls r w cb sb ↔ g_ld ls[3]? (fun v => t_a v ∧ j_k (jmt 51) post cut n 42 ls (v :: r) w cb sb)) ∧
  (∀ (r : List Value), j_go (jmt 51) post cut (n + 1) 42 ls r w cb sb ↔ g_ld ls[6]? (fun v => t_i v ∧ j_k (jmt 51) post cut n 44 ls (v :: r) w cb sb)) ∧
  (∀ (r : List Value) (a : Nat) (j : Int32), j_go (jmt 51) post cut (n + 1) 44 ls (.int j :: .ref a :: r) w cb sb ↔ g_qa 4 (w a) (fun m f => vp_in j m ∧ j_k (jmt 51) post cut n 45 ls (va_rf (f j.toNatClampNeg) :: r) w cb sb)) ∧
  (∀ (r : List Value) (a0 a1 : Value), j_go (jmt 51) post cut (n + 1) 45 ls (a1 :: a0 :: r) w cb sb ↔ j_w8 r ∧ g_call (jmt 53) [a0, a1] w cb sb (fun v w' c s => j_k (jmt 51) post cut n 48 ls (v.toList ++ r) w' c s)) ∧
  (∀ (r : List Value), j_go (jmt 51) post cut (n + 1) 48 ls r w cb sb ↔ g_ld ls[6]? (fun v => (match v with
      | .int x => j_ok1 ls 6 = true ∧ j_k (jmt 51) post cut n 51 (ls.set 6 (some (.int (x + Int32.ofInt 1)))) r w cb sb
      | _ => False))) ∧
  (∀ (r : List Value), j_go (jmt 51) post cut (n + 1) 51 ls r w cb sb ↔ j_k (jmt 51) post cut n 23 ls r w cb sb) ∧
  (∀ (r : List Value), j_go (jmt 51) post cut (n + 1) 54 ls r w cb sb ↔ g_ld ls[5]? (fun v => (match v with
      | .int x => j_ok1 ls 5 = true ∧ j_k (jmt 51) post cut n 57 (ls.set 5 (some (.int (x + Int32.ofInt 1)))) r w cb sb
      | _ => False))) ∧
  (∀ (r : List Value), j_go (jmt 51) post cut (n + 1) 57 ls r w cb sb ↔ j_k (jmt 51) post cut n 13 ls r w cb sb) ∧
  (j_go (jmt 51) post cut (n + 1) 60 ls [] w cb sb ↔ post none w) := ⟨fun _ => (j_go_s rfl).trans e_aload_n,
  fun _ => (j_go_s rfl).trans e_ldc,
  fun _ _ _ => (j_go_s rfl).trans e_calls,
  fun _ => (j_go_s rfl).trans e_aload_n,
  fun _ => (j_go_s rfl).trans e_iload_n,
  fun _ => (j_go_s rfl).trans e_iconst,
  fun _ _ _ _ => (j_go_s rfl).trans e_iast,
  fun _ => (j_go_s rfl).trans e_iconst,
  fun _ _ => (j_go_s rfl).trans e_istore,
  fun _ => (j_go_s rfl).trans e_iload,
  fun _ => (j_go_s rfl).trans e_bipush,
  fun _ _ _ => (j_go_s rfl).trans e_icmp,
  fun _ => (j_go_s rfl).trans e_iconst,
  fun _ _ => (j_go_s rfl).trans e_istore,
  fun _ => (j_go_s rfl).trans e_iload,
  fun _ => (j_go_s rfl).trans e_iload,
  fun _ _ _ => (j_go_s rfl).trans e_icmp,
  fun _ => (j_go_s rfl).trans e_aload_n,
  fun _ _ => (j_go_s rfl).trans e_getf,
  fun _ => (j_go_s rfl).trans e_iload,
  fun _ _ _ => (j_go_s rfl).trans e_zald,
  fun _ _ => (j_go_s rfl).trans e_if,
  fun _ => (j_go_s rfl).trans e_aload_n,
  fun _ => (j_go_s rfl).trans e_aload_n,
  fun _ => (j_go_s rfl).trans e_iload,
  fun _ _ _ => (j_go_s rfl).trans e_aald,
  fun _ _ _ => (j_go_s rfl).trans e_calls,
  fun _ => (j_go_s rfl).trans e_iinc,
  fun _ => (j_go_s rfl).trans e_goto,
  fun _ => (j_go_s rfl).trans e_iinc,
  fun _ => (j_go_s rfl).trans e_goto,
  (j_go_s rfl).trans e_vret⟩
set_option maxRecDepth 100000 in
set_option maxHeartbeats 4000000 in
theorem st_Arrays_fill {post : Option Value → jW → Prop} {cut : List Nat} {n : Nat} {ls : jL} {w : jW} {cb sb : Nat} : (∀ (r : List Value), j_go (jmt 52) post cut (n + 1) 0 ls r w cb sb ↔ j_k (jmt 52) post cut n 1 ls (.int (Int32.ofInt 0) :: r) w cb sb) ∧
  (∀ (r : List Value) (x : Int32), j_go (jmt 52) post cut (n + 1) 1 ls (.int x :: r) w cb sb ↔ j_ok1 ls 2 = true ∧ j_k (jmt 52) post cut n 2 (ls.set 2 (some (.int x))) r w cb sb) ∧
  (∀ (r : List Value), j_go (jmt 52) post cut (n + 1) 2 ls r w cb sb ↔ g_ld ls[0]? (fun v => t_a v ∧ j_k (jmt 52) post cut n 3 ls (v :: r) w cb sb)) ∧
  (∀ (r : List Value) (a : Nat), j_go (jmt 52) post cut (n + 1) 3 ls (.ref a :: r) w cb sb ↔ g_al 0 (w a) (fun m => j_k (jmt 52) post cut n 4 ls (.int (Int32.ofNat m) :: r) w cb sb)) ∧
  (∀ (r : List Value) (x : Int32), j_go (jmt 52) post cut (n + 1) 4 ls (.int x :: r) w cb sb ↔ j_ok1 ls 3 = true ∧ j_k (jmt 52) post cut n 5 (ls.set 3 (some (.int x))) r w cb sb) ∧
  (∀ (r : List Value), j_go (jmt 52) post cut (n + 1) 5 ls r w cb sb ↔ g_ld ls[2]? (fun v => t_i v ∧ j_k (jmt 52) post cut n 6 ls (v :: r) w cb sb)) ∧
  (∀ (r : List Value), j_go (jmt 52) post cut (n + 1) 6 ls r w cb sb ↔ g_ld ls[3]? (fun v => t_i v ∧ j_k (jmt 52) post cut n 7 ls (v :: r) w cb sb)) ∧
  (∀ (r : List Value) (a b : Int32), j_go (jmt 52) post cut (n + 1) 7 ls (.int b :: .int a :: r) w cb sb ↔ (b ≤ a → j_k (jmt 52) post cut n 20 ls r w cb sb) ∧ (¬ (b ≤ a) → j_k (jmt 52) post cut n 10 ls r w cb sb)) ∧
  (∀ (r : List Value), j_go (jmt 52) post cut (n + 1) 10 ls r w cb sb ↔ g_ld ls[0]? (fun v => t_a v ∧ j_k (jmt 52) post cut n 11 ls (v :: r) w cb sb)) ∧
  (∀ (r : List Value), j_go (jmt 52) post cut (n + 1) 11 ls r w cb sb ↔ g_ld ls[2]? (fun v => t_i v ∧ j_k (jmt 52) post cut n 12 ls (v :: r) w cb sb)) ∧
  (∀ (r : List Value), j_go (jmt 52) post cut (n + 1) 12 ls r w cb sb ↔ g_ld ls[1]? (fun v => t_i v ∧ j_k (jmt 52) post cut n 13 ls (v :: r) w cb sb)) ∧
  (∀ (r : List Value) (a : Nat) (j v : Int32), j_go (jmt 52) post cut (n + 1) 13 ls (.int v :: .int j :: .ref a :: r) w cb sb ↔ g_ia 0 (w a) (fun m f => vp_in j m ∧ j_k (jmt 52) post cut n 14 ls r ((j_up w a (.inl (0, m, .inl (upd f j.toNatClampNeg v))))) cb sb)) ∧
  (∀ (r : List Value), j_go (jmt 52) post cut (n + 1) 14 ls r w cb sb ↔ g_ld ls[2]? (fun v => (match v with
      | .int x => j_ok1 ls 2 = true ∧ j_k (jmt 52) post cut n 17 (ls.set 2 (some (.int (x + Int32.ofInt 1)))) r w cb sb
      | _ => False))) ∧
  (∀ (r : List Value), j_go (jmt 52) post cut (n + 1) 17 ls r w cb sb ↔ j_k (jmt 52) post cut n 5 ls r w cb sb) ∧
  (j_go (jmt 52) post cut (n + 1) 20 ls [] w cb sb ↔ post none w) := ⟨fun _ => (j_go_s rfl).trans e_iconst,
  fun _ _ => (j_go_s rfl).trans e_istore_n,
  fun _ => (j_go_s rfl).trans e_aload_n,
  fun _ _ => (j_go_s rfl).trans e_alen,
  fun _ _ => (j_go_s rfl).trans e_istore_n,
  fun _ => (j_go_s rfl).trans e_iload_n,
  fun _ => (j_go_s rfl).trans e_iload_n,
  fun _ _ _ => (j_go_s rfl).trans e_icmp,
  fun _ => (j_go_s rfl).trans e_aload_n,
  fun _ => (j_go_s rfl).trans e_iload_n,
  fun _ => (j_go_s rfl).trans e_iload_n,
  fun _ _ _ _ => (j_go_s rfl).trans e_iast,
  fun _ => (j_go_s rfl).trans e_iinc,
  fun _ => (j_go_s rfl).trans e_goto,
  (j_go_s rfl).trans e_vret⟩
set_option maxRecDepth 100000 in
set_option maxHeartbeats 4000000 in
theorem st_Chart_shorten {post : Option Value → jW → Prop} {cut : List Nat} {n : Nat} {ls : jL} {w : jW} {cb sb : Nat} : (∀ (r : List Value), j_go (jmt 53) post cut (n + 1) 0 ls r w cb sb ↔ g_ld ls[1]? (fun v => t_a v ∧ j_k (jmt 53) post cut n 1 ls (v :: r) w cb sb)) ∧
  (∀ (r : List Value) (a : Nat), j_go (jmt 53) post cut (n + 1) 1 ls (.ref a :: r) w cb sb ↔ g_ob 2 (w a) (fun fs => g_v fs[0]? (fun v => j_k (jmt 53) post cut n 4 ls (v :: r) w cb sb))) ∧
  (∀ (r : List Value) (x : Int32), j_go (jmt 53) post cut (n + 1) 4 ls (.int x :: r) w cb sb ↔ j_ok1 ls 2 = true ∧ j_k (jmt 53) post cut n 5 (ls.set 2 (some (.int x))) r w cb sb) ∧
  (∀ (r : List Value), j_go (jmt 53) post cut (n + 1) 5 ls r w cb sb ↔ g_ld ls[1]? (fun v => t_a v ∧ j_k (jmt 53) post cut n 6 ls (v :: r) w cb sb)) ∧
  (∀ (r : List Value) (a : Nat), j_go (jmt 53) post cut (n + 1) 6 ls (.ref a :: r) w cb sb ↔ g_ob 2 (w a) (fun fs => g_v fs[1]? (fun v => j_k (jmt 53) post cut n 9 ls (v :: r) w cb sb))) ∧
  (∀ (r : List Value) (x : Int32), j_go (jmt 53) post cut (n + 1) 9 ls (.int x :: r) w cb sb ↔ j_ok1 ls 3 = true ∧ j_k (jmt 53) post cut n 10 (ls.set 3 (some (.int x))) r w cb sb) ∧
  (∀ (r : List Value), j_go (jmt 53) post cut (n + 1) 10 ls r w cb sb ↔ g_ld ls[0]? (fun v => t_a v ∧ j_k (jmt 53) post cut n 11 ls (v :: r) w cb sb)) ∧
  (∀ (r : List Value), j_go (jmt 53) post cut (n + 1) 11 ls r w cb sb ↔ g_ld ls[2]? (fun v => t_i v ∧ j_k (jmt 53) post cut n 12 ls (v :: r) w cb sb)) ∧
  (∀ (r : List Value), j_go (jmt 53) post cut (n + 1) 12 ls r w cb sb ↔ g_ld ls[0]? (fun v => t_a v ∧ j_k (jmt 53) post cut n 13 ls (v :: r) w cb sb)) ∧
  (∀ (r : List Value), j_go (jmt 53) post cut (n + 1) 13 ls r w cb sb ↔ g_ld ls[2]? (fun v => t_i v ∧ j_k (jmt 53) post cut n 14 ls (v :: r) w cb sb)) ∧
  (∀ (r : List Value) (a : Nat) (j : Int32), j_go (jmt 53) post cut (n + 1) 14 ls (.int j :: .ref a :: r) w cb sb ↔ g_ia 0 (w a) (fun m f => vp_in j m ∧ j_k (jmt 53) post cut n 15 ls (.int (f j.toNatClampNeg) :: r) w cb sb)) ∧
  (∀ (r : List Value), j_go (jmt 53) post cut (n + 1) 15 ls r w cb sb ↔ g_ld ls[0]? (fun v => t_a v ∧ j_k (jmt 53) post cut n 16 ls (v :: r) w cb sb)) ∧
  (∀ (r : List Value), j_go (jmt 53) post cut (n + 1) 16 ls r w cb sb ↔ g_ld ls[3]? (fun v => t_i v ∧ j_k (jmt 53) post cut n 17 ls (v :: r) w cb sb)) ∧
  (∀ (r : List Value) (a : Nat) (j : Int32), j_go (jmt 53) post cut (n + 1) 17 ls (.int j :: .ref a :: r) w cb sb ↔ g_ia 0 (w a) (fun m f => vp_in j m ∧ j_k (jmt 53) post cut n 18 ls (.int (f j.toNatClampNeg) :: r) w cb sb)) ∧
  (∀ (r : List Value), j_go (jmt 53) post cut (n + 1) 18 ls r w cb sb ↔ g_ld ls[1]? (fun v => t_a v ∧ j_k (jmt 53) post cut n 19 ls (v :: r) w cb sb)) ∧
  (∀ (r : List Value) (a : Nat), j_go (jmt 53) post cut (n + 1) 19 ls (.ref a :: r) w cb sb ↔ g_ob 2 (w a) (fun fs => g_v fs[2]? (fun v => j_k (jmt 53) post cut n 22 ls (v :: r) w cb sb))) ∧
  (∀ (r : List Value) (x y : Int32), j_go (jmt 53) post cut (n + 1) 22 ls (.int y :: .int x :: r) w cb sb ↔ j_k (jmt 53) post cut n 23 ls (.int (x + y) :: r) w cb sb) ∧
  (∀ (r : List Value) (a0 a1 : Value), j_go (jmt 53) post cut (n + 1) 23 ls (a1 :: a0 :: r) w cb sb ↔ j_w8 r ∧ g_call (jmt 2) [a0, a1] w cb sb (fun v w' c s => j_k (jmt 53) post cut n 26 ls (v.toList ++ r) w' c s)) ∧
  (∀ (r : List Value) (a : Nat) (j v : Int32), j_go (jmt 53) post cut (n + 1) 26 ls (.int v :: .int j :: .ref a :: r) w cb sb ↔ g_ia 0 (w a) (fun m f => vp_in j m ∧ j_k (jmt 53) post cut n 27 ls r ((j_up w a (.inl (0, m, .inl (upd f j.toNatClampNeg v))))) cb sb)) ∧
  (∀ (r : List Value), j_go (jmt 53) post cut (n + 1) 27 ls r w cb sb ↔ g_ld ls[0]? (fun v => t_a v ∧ j_k (jmt 53) post cut n 28 ls (v :: r) w cb sb)) ∧
  (∀ (r : List Value), j_go (jmt 53) post cut (n + 1) 28 ls r w cb sb ↔ g_ld ls[3]? (fun v => t_i v ∧ j_k (jmt 53) post cut n 29 ls (v :: r) w cb sb)) ∧
  (∀ (r : List Value), j_go (jmt 53) post cut (n + 1) 29 ls r w cb sb ↔ g_ld ls[0]? (fun v => t_a v ∧ j_k (jmt 53) post cut n 30 ls (v :: r) w cb sb)) ∧
  (∀ (r : List Value), j_go (jmt 53) post cut (n + 1) 30 ls r w cb sb ↔ g_ld ls[3]? (fun v => t_i v ∧ j_k (jmt 53) post cut n 31 ls (v :: r) w cb sb)) ∧
  (∀ (r : List Value) (a : Nat) (j : Int32), j_go (jmt 53) post cut (n + 1) 31 ls (.int j :: .ref a :: r) w cb sb ↔ g_ia 0 (w a) (fun m f => vp_in j m ∧ j_k (jmt 53) post cut n 32 ls (.int (f j.toNatClampNeg) :: r) w cb sb)) ∧
  (∀ (r : List Value), j_go (jmt 53) post cut (n + 1) 32 ls r w cb sb ↔ g_ld ls[0]? (fun v => t_a v ∧ j_k (jmt 53) post cut n 33 ls (v :: r) w cb sb)) ∧
  (∀ (r : List Value), j_go (jmt 53) post cut (n + 1) 33 ls r w cb sb ↔ g_ld ls[2]? (fun v => t_i v ∧ j_k (jmt 53) post cut n 34 ls (v :: r) w cb sb)) ∧
  (∀ (r : List Value) (a : Nat) (j : Int32), j_go (jmt 53) post cut (n + 1) 34 ls (.int j :: .ref a :: r) w cb sb ↔ g_ia 0 (w a) (fun m f => vp_in j m ∧ j_k (jmt 53) post cut n 35 ls (.int (f j.toNatClampNeg) :: r) w cb sb)) ∧
  (∀ (r : List Value), j_go (jmt 53) post cut (n + 1) 35 ls r w cb sb ↔ g_ld ls[1]? (fun v => t_a v ∧ j_k (jmt 53) post cut n 36 ls (v :: r) w cb sb)) ∧
  (∀ (r : List Value) (a : Nat), j_go (jmt 53) post cut (n + 1) 36 ls (.ref a :: r) w cb sb ↔ g_ob 2 (w a) (fun fs => g_v fs[2]? (fun v => j_k (jmt 53) post cut n 39 ls (v :: r) w cb sb))) ∧
  (∀ (r : List Value) (x y : Int32), j_go (jmt 53) post cut (n + 1) 39 ls (.int y :: .int x :: r) w cb sb ↔ j_k (jmt 53) post cut n 40 ls (.int (x + y) :: r) w cb sb) ∧
  (∀ (r : List Value) (a0 a1 : Value), j_go (jmt 53) post cut (n + 1) 40 ls (a1 :: a0 :: r) w cb sb ↔ j_w8 r ∧ g_call (jmt 2) [a0, a1] w cb sb (fun v w' c s => j_k (jmt 53) post cut n 43 ls (v.toList ++ r) w' c s)) ∧
  (∀ (r : List Value) (a : Nat) (j v : Int32), j_go (jmt 53) post cut (n + 1) 43 ls (.int v :: .int j :: .ref a :: r) w cb sb ↔ g_ia 0 (w a) (fun m f => vp_in j m ∧ j_k (jmt 53) post cut n 44 ls r ((j_up w a (.inl (0, m, .inl (upd f j.toNatClampNeg v))))) cb sb)) ∧
  (j_go (jmt 53) post cut (n + 1) 44 ls [] w cb sb ↔ post none w) := ⟨fun _ => (j_go_s rfl).trans e_aload_n,
  fun _ _ => (j_go_s rfl).trans e_getf,
  fun _ _ => (j_go_s rfl).trans e_istore_n,
  fun _ => (j_go_s rfl).trans e_aload_n,
  fun _ _ => (j_go_s rfl).trans e_getf,
  fun _ _ => (j_go_s rfl).trans e_istore_n,
  fun _ => (j_go_s rfl).trans e_aload_n,
  fun _ => (j_go_s rfl).trans e_iload_n,
  fun _ => (j_go_s rfl).trans e_aload_n,
  fun _ => (j_go_s rfl).trans e_iload_n,
  fun _ _ _ => (j_go_s rfl).trans e_iald,
  fun _ => (j_go_s rfl).trans e_aload_n,
  fun _ => (j_go_s rfl).trans e_iload_n,
  fun _ _ _ => (j_go_s rfl).trans e_iald,
  fun _ => (j_go_s rfl).trans e_aload_n,
  fun _ _ => (j_go_s rfl).trans e_getf,
  fun _ _ _ => (j_go_s rfl).trans e_iadd,
  fun _ _ _ => (j_go_s rfl).trans e_calls,
  fun _ _ _ _ => (j_go_s rfl).trans e_iast,
  fun _ => (j_go_s rfl).trans e_aload_n,
  fun _ => (j_go_s rfl).trans e_iload_n,
  fun _ => (j_go_s rfl).trans e_aload_n,
  fun _ => (j_go_s rfl).trans e_iload_n,
  fun _ _ _ => (j_go_s rfl).trans e_iald,
  fun _ => (j_go_s rfl).trans e_aload_n,
  fun _ => (j_go_s rfl).trans e_iload_n,
  fun _ _ _ => (j_go_s rfl).trans e_iald,
  fun _ => (j_go_s rfl).trans e_aload_n,
  fun _ _ => (j_go_s rfl).trans e_getf,
  fun _ _ _ => (j_go_s rfl).trans e_iadd,
  fun _ _ _ => (j_go_s rfl).trans e_calls,
  fun _ _ _ _ => (j_go_s rfl).trans e_iast,
  (j_go_s rfl).trans e_vret⟩
set_option maxRecDepth 100000 in
set_option maxHeartbeats 4000000 in
theorem st_Chart_findEnd {post : Option Value → jW → Prop} {cut : List Nat} {n : Nat} {ls : jL} {w : jW} {cb sb : Nat} : (∀ (r : List Value), j_go (jmt 54) post cut (n + 1) 0 ls r w cb sb ↔ j_k (jmt 54) post cut n 2 ls (.int (Int8.ofInt (-3)).toInt32 :: r) w cb sb) ∧
  (∀ (r : List Value) (x : Int32), j_go (jmt 54) post cut (n + 1) 2 ls (.int x :: r) w cb sb ↔ j_ok1 ls 3 = true ∧ j_k (jmt 54) post cut n 3 (ls.set 3 (some (.int x))) r w cb sb) ∧
  (∀ (r : List Value), j_go (jmt 54) post cut (n + 1) 3 ls r w cb sb ↔ j_k (jmt 54) post cut n 4 ls (.int (Int32.ofInt (-1)) :: r) w cb sb) ∧
  (∀ (r : List Value) (x : Int32), j_go (jmt 54) post cut (n + 1) 4 ls (.int x :: r) w cb sb ↔ j_ok1 ls 4 = true ∧ j_k (jmt 54) post cut n 6 (ls.set 4 (some (.int x))) r w cb sb) ∧
  (∀ (r : List Value), j_go (jmt 54) post cut (n + 1) 6 ls r w cb sb ↔ j_k (jmt 54) post cut n 7 ls (.int (Int32.ofInt 0) :: r) w cb sb) ∧
  (∀ (r : List Value) (x : Int32), j_go (jmt 54) post cut (n + 1) 7 ls (.int x :: r) w cb sb ↔ j_ok1 ls 5 = true ∧ j_k (jmt 54) post cut n 9 (ls.set 5 (some (.int x))) r w cb sb) ∧
  (∀ (r : List Value), j_go (jmt 54) post cut (n + 1) 9 ls r w cb sb ↔ g_ld ls[5]? (fun v => t_i v ∧ j_k (jmt 54) post cut n 11 ls (v :: r) w cb sb)) ∧
  (∀ (r : List Value), j_go (jmt 54) post cut (n + 1) 11 ls r w cb sb ↔ g_ld ls[1]? (fun v => t_a v ∧ j_k (jmt 54) post cut n 12 ls (v :: r) w cb sb)) ∧
  (∀ (r : List Value) (a : Nat), j_go (jmt 54) post cut (n + 1) 12 ls (.ref a :: r) w cb sb ↔ g_al 7 (w a) (fun m => j_k (jmt 54) post cut n 13 ls (.int (Int32.ofNat m) :: r) w cb sb)) ∧
  (∀ (r : List Value) (a b : Int32), j_go (jmt 54) post cut (n + 1) 13 ls (.int b :: .int a :: r) w cb sb ↔ (b ≤ a → j_k (jmt 54) post cut n 109 ls r w cb sb) ∧ (¬ (b ≤ a) → j_k (jmt 54) post cut n 16 ls r w cb sb)) ∧
  (∀ (r : List Value), j_go (jmt 54) post cut (n + 1) 16 ls r w cb sb ↔ g_ld ls[1]? (fun v => t_a v ∧ j_k (jmt 54) post cut n 17 ls (v :: r) w cb sb)) ∧
  (∀ (r : List Value), j_go (jmt 54) post cut (n + 1) 17 ls r w cb sb ↔ g_ld ls[5]? (fun v => t_i v ∧ j_k (jmt 54) post cut n 19 ls (v :: r) w cb sb)) ∧
  (∀ (r : List Value) (a : Nat) (j : Int32), j_go (jmt 54) post cut (n + 1) 19 ls (.int j :: .ref a :: r) w cb sb ↔ g_qa 7 (w a) (fun m f => vp_in j m ∧ j_k (jmt 54) post cut n 20 ls (va_rf (f j.toNatClampNeg) :: r) w cb sb)) ∧
  (∀ (r : List Value), j_go (jmt 54) post cut (n + 1) 20 ls (.null :: r) w cb sb ↔ j_k (jmt 54) post cut n 103 ls r w cb sb) ∧
  (∀ (r : List Value) (a : Nat), j_go (jmt 54) post cut (n + 1) 20 ls (.ref a :: r) w cb sb ↔ j_k (jmt 54) post cut n 23 ls r w cb sb) ∧
  (∀ (r : List Value), j_go (jmt 54) post cut (n + 1) 23 ls r w cb sb ↔ g_ld ls[0]? (fun v => t_a v ∧ j_k (jmt 54) post cut n 24 ls (v :: r) w cb sb)) ∧
  (∀ (r : List Value) (a : Nat), j_go (jmt 54) post cut (n + 1) 24 ls (.ref a :: r) w cb sb ↔ g_ob 5 (w a) (fun fs => g_v fs[0]? (fun v => j_k (jmt 54) post cut n 27 ls (v :: r) w cb sb))) ∧
  (∀ (r : List Value), j_go (jmt 54) post cut (n + 1) 27 ls r w cb sb ↔ g_ld ls[5]? (fun v => t_i v ∧ j_k (jmt 54) post cut n 29 ls (v :: r) w cb sb)) ∧
  (∀ (r : List Value) (a : Nat) (j : Int32), j_go (jmt 54) post cut (n + 1) 29 ls (.int j :: .ref a :: r) w cb sb ↔ g_ia 0 (w a) (fun m f => vp_in j m ∧ j_k (jmt 54) post cut n 30 ls (.int (f j.toNatClampNeg) :: r) w cb sb)) ∧
  (∀ (r : List Value), j_go (jmt 54) post cut (n + 1) 30 ls r w cb sb ↔ j_k (jmt 54) post cut n 32 ls (.int (Int32.ofNat 1000000) :: r) w cb sb) ∧
  (∀ (r : List Value) (a b : Int32), j_go (jmt 54) post cut (n + 1) 32 ls (.int b :: .int a :: r) w cb sb ↔ (¬ a = b → j_k (jmt 54) post cut n 38 ls r w cb sb) ∧ (¬ (¬ a = b) → j_k (jmt 54) post cut n 35 ls r w cb sb)) ∧
  (∀ (r : List Value), j_go (jmt 54) post cut (n + 1) 35 ls r w cb sb ↔ j_k (jmt 54) post cut n 103 ls r w cb sb) ∧
  (∀ (r : List Value), j_go (jmt 54) post cut (n + 1) 38 ls r w cb sb ↔ g_ld ls[1]? (fun v => t_a v ∧ j_k (jmt 54) post cut n 39 ls (v :: r) w cb sb)) ∧
  (∀ (r : List Value), j_go (jmt 54) post cut (n + 1) 39 ls r w cb sb ↔ g_ld ls[5]? (fun v => t_i v ∧ j_k (jmt 54) post cut n 41 ls (v :: r) w cb sb)) ∧
  (∀ (r : List Value) (a : Nat) (j : Int32), j_go (jmt 54) post cut (n + 1) 41 ls (.int j :: .ref a :: r) w cb sb ↔ g_qa 7 (w a) (fun m f => vp_in j m ∧ j_k (jmt 54) post cut n 42 ls (va_rf (f j.toNatClampNeg) :: r) w cb sb)) ∧
  (∀ (r : List Value), j_go (jmt 54) post cut (n + 1) 42 ls r w cb sb ↔ g_ld ls[2]? (fun v => t_i v ∧ j_k (jmt 54) post cut n 43 ls (v :: r) w cb sb)) ∧
  (∀ (r : List Value) (a0 : Value) (b : Nat), j_go (jmt 54) post cut (n + 1) 43 ls (a0 :: .ref b :: r) w cb sb ↔ g_ob 4 (w b) (fun _ => True) ∧ j_w8 r ∧ g_call (jmt 55) [.ref b, a0] w cb sb (fun v w' c s => j_k (jmt 54) post cut n 46 ls (v.toList ++ r) w' c s)) ∧
  (∀ (r : List Value) (x : Int32), j_go (jmt 54) post cut (n + 1) 46 ls (.int x :: r) w cb sb ↔ j_ok1 ls 6 = true ∧ j_k (jmt 54) post cut n 48 (ls.set 6 (some (.int x))) r w cb sb) ∧
  (∀ (r : List Value), j_go (jmt 54) post cut (n + 1) 48 ls r w cb sb ↔ g_ld ls[3]? (fun v => t_i v ∧ j_k (jmt 54) post cut n 49 ls (v :: r) w cb sb)) ∧
  (∀ (r : List Value), j_go (jmt 54) post cut (n + 1) 49 ls r w cb sb ↔ j_k (jmt 54) post cut n 51 ls (.int (Int8.ofInt (-3)).toInt32 :: r) w cb sb) ∧
  (∀ (r : List Value) (a b : Int32), j_go (jmt 54) post cut (n + 1) 51 ls (.int b :: .int a :: r) w cb sb ↔ (a = b → j_k (jmt 54) post cut n 81 ls r w cb sb) ∧ (¬ (a = b) → j_k (jmt 54) post cut n 54 ls r w cb sb)) ∧
  (∀ (r : List Value), j_go (jmt 54) post cut (n + 1) 54 ls r w cb sb ↔ g_ld ls[6]? (fun v => t_i v ∧ j_k (jmt 54) post cut n 56 ls (v :: r) w cb sb)) ∧
  (∀ (r : List Value), j_go (jmt 54) post cut (n + 1) 56 ls r w cb sb ↔ g_ld ls[4]? (fun v => t_i v ∧ j_k (jmt 54) post cut n 58 ls (v :: r) w cb sb)) ∧
  (∀ (r : List Value) (a b : Int32), j_go (jmt 54) post cut (n + 1) 58 ls (.int b :: .int a :: r) w cb sb ↔ (¬ a = b → j_k (jmt 54) post cut n 81 ls r w cb sb) ∧ (¬ (¬ a = b) → j_k (jmt 54) post cut n 61 ls r w cb sb)) ∧
  (∀ (r : List Value), j_go (jmt 54) post cut (n + 1) 61 ls r w cb sb ↔ g_ld ls[0]? (fun v => t_a v ∧ j_k (jmt 54) post cut n 62 ls (v :: r) w cb sb)) ∧
  (∀ (r : List Value) (a : Nat), j_go (jmt 54) post cut (n + 1) 62 ls (.ref a :: r) w cb sb ↔ g_ob 5 (w a) (fun fs => g_v fs[0]? (fun v => j_k (jmt 54) post cut n 65 ls (v :: r) w cb sb))) ∧
  (∀ (r : List Value), j_go (jmt 54) post cut (n + 1) 65 ls r w cb sb ↔ g_ld ls[5]? (fun v => t_i v ∧ j_k (jmt 54) post cut n 67 ls (v :: r) w cb sb)) ∧
  (∀ (r : List Value) (a : Nat) (j : Int32), j_go (jmt 54) post cut (n + 1) 67 ls (.int j :: .ref a :: r) w cb sb ↔ g_ia 0 (w a) (fun m f => vp_in j m ∧ j_k (jmt 54) post cut n 68 ls (.int (f j.toNatClampNeg) :: r) w cb sb)) ∧
  (∀ (r : List Value), j_go (jmt 54) post cut (n + 1) 68 ls r w cb sb ↔ g_ld ls[0]? (fun v => t_a v ∧ j_k (jmt 54) post cut n 69 ls (v :: r) w cb sb)) ∧
  (∀ (r : List Value) (a : Nat), j_go (jmt 54) post cut (n + 1) 69 ls (.ref a :: r) w cb sb ↔ g_ob 5 (w a) (fun fs => g_v fs[0]? (fun v => j_k (jmt 54) post cut n 72 ls (v :: r) w cb sb))) ∧
  (∀ (r : List Value), j_go (jmt 54) post cut (n + 1) 72 ls r w cb sb ↔ g_ld ls[3]? (fun v => t_i v ∧ j_k (jmt 54) post cut n 73 ls (v :: r) w cb sb)) ∧
  (∀ (r : List Value) (a : Nat) (j : Int32), j_go (jmt 54) post cut (n + 1) 73 ls (.int j :: .ref a :: r) w cb sb ↔ g_ia 0 (w a) (fun m f => vp_in j m ∧ j_k (jmt 54) post cut n 74 ls (.int (f j.toNatClampNeg) :: r) w cb sb)) ∧
  (∀ (r : List Value) (a b : Int32), j_go (jmt 54) post cut (n + 1) 74 ls (.int b :: .int a :: r) w cb sb ↔ (b ≤ a → j_k (jmt 54) post cut n 81 ls r w cb sb) ∧ (¬ (b ≤ a) → j_k (jmt 54) post cut n 77 ls r w cb sb)) ∧
  (∀ (r : List Value), j_go (jmt 54) post cut (n + 1) 77 ls r w cb sb ↔ j_k (jmt 54) post cut n 78 ls (.int (Int32.ofInt 1) :: r) w cb sb) ∧
  (∀ (r : List Value), j_go (jmt 54) post cut (n + 1) 78 ls r w cb sb ↔ j_k (jmt 54) post cut n 82 ls r w cb sb) ∧
  (∀ (r : List Value), j_go (jmt 54) post cut (n + 1) 81 ls r w cb sb ↔ j_k (jmt 54) post cut n 82 ls (.int (Int32.ofInt 0) :: r) w cb sb) ∧
  (∀ (r : List Value) (x : Int32), j_go (jmt 54) post cut (n + 1) 82 ls (.int x :: r) w cb sb ↔ j_ok1 ls 7 = true ∧ j_k (jmt 54) post cut n 84 (ls.set 7 (some (.int x))) r w cb sb) ∧
  (∀ (r : List Value), j_go (jmt 54) post cut (n + 1) 84 ls r w cb sb ↔ g_ld ls[6]? (fun v => t_i v ∧ j_k (jmt 54) post cut n 86 ls (v :: r) w cb sb)) ∧
  (∀ (r : List Value), j_go (jmt 54) post cut (n + 1) 86 ls r w cb sb ↔ g_ld ls[4]? (fun v => t_i v ∧ j_k (jmt 54) post cut n 88 ls (v :: r) w cb sb)) ∧
  (∀ (r : List Value) (a b : Int32), j_go (jmt 54) post cut (n + 1) 88 ls (.int b :: .int a :: r) w cb sb ↔ (b < a → j_k (jmt 54) post cut n 96 ls r w cb sb) ∧ (¬ (b < a) → j_k (jmt 54) post cut n 91 ls r w cb sb)) ∧
  (∀ (r : List Value), j_go (jmt 54) post cut (n + 1) 91 ls r w cb sb ↔ g_ld ls[7]? (fun v => t_i v ∧ j_k (jmt 54) post cut n 93 ls (v :: r) w cb sb)) ∧
  (∀ (r : List Value) (a : Int32), j_go (jmt 54) post cut (n + 1) 93 ls (.int a :: r) w cb sb ↔ (a = 0 → j_k (jmt 54) post cut n 103 ls r w cb sb) ∧ (¬ (a = 0) → j_k (jmt 54) post cut n 96 ls r w cb sb)) ∧
  (∀ (r : List Value), j_go (jmt 54) post cut (n + 1) 96 ls r w cb sb ↔ g_ld ls[5]? (fun v => t_i v ∧ j_k (jmt 54) post cut n 98 ls (v :: r) w cb sb)) ∧
  (∀ (r : List Value) (x : Int32), j_go (jmt 54) post cut (n + 1) 98 ls (.int x :: r) w cb sb ↔ j_ok1 ls 3 = true ∧ j_k (jmt 54) post cut n 99 (ls.set 3 (some (.int x))) r w cb sb) ∧
  (∀ (r : List Value), j_go (jmt 54) post cut (n + 1) 99 ls r w cb sb ↔ g_ld ls[6]? (fun v => t_i v ∧ j_k (jmt 54) post cut n 101 ls (v :: r) w cb sb)) ∧
  (∀ (r : List Value) (x : Int32), j_go (jmt 54) post cut (n + 1) 101 ls (.int x :: r) w cb sb ↔ j_ok1 ls 4 = true ∧ j_k (jmt 54) post cut n 103 (ls.set 4 (some (.int x))) r w cb sb) ∧
  (∀ (r : List Value), j_go (jmt 54) post cut (n + 1) 103 ls r w cb sb ↔ g_ld ls[5]? (fun v => (match v with
      | .int x => j_ok1 ls 5 = true ∧ j_k (jmt 54) post cut n 106 (ls.set 5 (some (.int (x + Int32.ofInt 1)))) r w cb sb
      | _ => False))) ∧
  (∀ (r : List Value), j_go (jmt 54) post cut (n + 1) 106 ls r w cb sb ↔ j_k (jmt 54) post cut n 9 ls r w cb sb) ∧
  (∀ (r : List Value), j_go (jmt 54) post cut (n + 1) 109 ls r w cb sb ↔ g_ld ls[3]? (fun v => t_i v ∧ j_k (jmt 54) post cut n 110 ls (v :: r) w cb sb)) ∧
  (∀ (a : Int32), j_go (jmt 54) post cut (n + 1) 110 ls [.int a] w cb sb ↔ narrow .int (.int a) = .int a ∧ post (some (.int a)) w) := ⟨fun _ => (j_go_s rfl).trans e_bipush,
  fun _ _ => (j_go_s rfl).trans e_istore_n,
  fun _ => (j_go_s rfl).trans e_iconst,
  fun _ _ => (j_go_s rfl).trans e_istore,
  fun _ => (j_go_s rfl).trans e_iconst,
  fun _ _ => (j_go_s rfl).trans e_istore,
  fun _ => (j_go_s rfl).trans e_iload,
  fun _ => (j_go_s rfl).trans e_aload_n,
  fun _ _ => (j_go_s rfl).trans e_alen,
  fun _ _ _ => (j_go_s rfl).trans e_icmp,
  fun _ => (j_go_s rfl).trans e_aload_n,
  fun _ => (j_go_s rfl).trans e_iload,
  fun _ _ _ => (j_go_s rfl).trans e_aald,
  fun _ => (j_go_s rfl).trans e_ifnull_n,
  fun _ _ => (j_go_s rfl).trans e_ifnull_r,
  fun _ => (j_go_s rfl).trans e_aload_n,
  fun _ _ => (j_go_s rfl).trans e_getf,
  fun _ => (j_go_s rfl).trans e_iload,
  fun _ _ _ => (j_go_s rfl).trans e_iald,
  fun _ => (j_go_s rfl).trans e_ldc,
  fun _ _ _ => (j_go_s rfl).trans e_icmp,
  fun _ => (j_go_s rfl).trans e_goto,
  fun _ => (j_go_s rfl).trans e_aload_n,
  fun _ => (j_go_s rfl).trans e_iload,
  fun _ _ _ => (j_go_s rfl).trans e_aald,
  fun _ => (j_go_s rfl).trans e_iload_n,
  fun _ _ _ => (j_go_s rfl).trans e_callv,
  fun _ _ => (j_go_s rfl).trans e_istore,
  fun _ => (j_go_s rfl).trans e_iload_n,
  fun _ => (j_go_s rfl).trans e_bipush,
  fun _ _ _ => (j_go_s rfl).trans e_icmp,
  fun _ => (j_go_s rfl).trans e_iload,
  fun _ => (j_go_s rfl).trans e_iload,
  fun _ _ _ => (j_go_s rfl).trans e_icmp,
  fun _ => (j_go_s rfl).trans e_aload_n,
  fun _ _ => (j_go_s rfl).trans e_getf,
  fun _ => (j_go_s rfl).trans e_iload,
  fun _ _ _ => (j_go_s rfl).trans e_iald,
  fun _ => (j_go_s rfl).trans e_aload_n,
  fun _ _ => (j_go_s rfl).trans e_getf,
  fun _ => (j_go_s rfl).trans e_iload_n,
  fun _ _ _ => (j_go_s rfl).trans e_iald,
  fun _ _ _ => (j_go_s rfl).trans e_icmp,
  fun _ => (j_go_s rfl).trans e_iconst,
  fun _ => (j_go_s rfl).trans e_goto,
  fun _ => (j_go_s rfl).trans e_iconst,
  fun _ _ => (j_go_s rfl).trans e_istore,
  fun _ => (j_go_s rfl).trans e_iload,
  fun _ => (j_go_s rfl).trans e_iload,
  fun _ _ _ => (j_go_s rfl).trans e_icmp,
  fun _ => (j_go_s rfl).trans e_iload,
  fun _ _ => (j_go_s rfl).trans e_if,
  fun _ => (j_go_s rfl).trans e_iload,
  fun _ _ => (j_go_s rfl).trans e_istore_n,
  fun _ => (j_go_s rfl).trans e_iload,
  fun _ _ => (j_go_s rfl).trans e_istore,
  fun _ => (j_go_s rfl).trans e_iinc,
  fun _ => (j_go_s rfl).trans e_goto,
  fun _ => (j_go_s rfl).trans e_iload_n,
  fun _ => (j_go_s rfl).trans e_iret⟩
set_option maxRecDepth 100000 in
set_option maxHeartbeats 4000000 in
theorem st_Advert_longestMatch {post : Option Value → jW → Prop} {cut : List Nat} {n : Nat} {ls : jL} {w : jW} {cb sb : Nat} : (∀ (r : List Value), j_go (jmt 55) post cut (n + 1) 0 ls r w cb sb ↔ j_k (jmt 55) post cut n 1 ls (.int (Int32.ofInt (-1)) :: r) w cb sb) ∧
  (∀ (r : List Value) (x : Int32), j_go (jmt 55) post cut (n + 1) 1 ls (.int x :: r) w cb sb ↔ j_ok1 ls 2 = true ∧ j_k (jmt 55) post cut n 2 (ls.set 2 (some (.int x))) r w cb sb) ∧
  (∀ (r : List Value), j_go (jmt 55) post cut (n + 1) 2 ls r w cb sb ↔ j_k (jmt 55) post cut n 3 ls (.int (Int32.ofInt 0) :: r) w cb sb) ∧
  (∀ (r : List Value) (x : Int32), j_go (jmt 55) post cut (n + 1) 3 ls (.int x :: r) w cb sb ↔ j_ok1 ls 3 = true ∧ j_k (jmt 55) post cut n 4 (ls.set 3 (some (.int x))) r w cb sb) ∧
  (∀ (r : List Value), j_go (jmt 55) post cut (n + 1) 4 ls r w cb sb ↔ g_ld ls[3]? (fun v => t_i v ∧ j_k (jmt 55) post cut n 5 ls (v :: r) w cb sb)) ∧
  (∀ (r : List Value), j_go (jmt 55) post cut (n + 1) 5 ls r w cb sb ↔ g_ld ls[0]? (fun v => t_a v ∧ j_k (jmt 55) post cut n 6 ls (v :: r) w cb sb)) ∧
  (∀ (r : List Value) (a : Nat), j_go (jmt 55) post cut (n + 1) 6 ls (.ref a :: r) w cb sb ↔ g_ob 4 (w a) (fun fs => g_v fs[3]? (fun v => j_k (jmt 55) post cut n 9 ls (v :: r) w cb sb))) ∧
  (∀ (r : List Value) (a : Nat), j_go (jmt 55) post cut (n + 1) 9 ls (.ref a :: r) w cb sb ↔ g_al 0 (w a) (fun m => j_k (jmt 55) post cut n 10 ls (.int (Int32.ofNat m) :: r) w cb sb)) ∧
  (∀ (r : List Value) (a b : Int32), j_go (jmt 55) post cut (n + 1) 10 ls (.int b :: .int a :: r) w cb sb ↔ (b ≤ a → j_k (jmt 55) post cut n 46 ls r w cb sb) ∧ (¬ (b ≤ a) → j_k (jmt 55) post cut n 13 ls r w cb sb)) ∧
  (∀ (r : List Value), j_go (jmt 55) post cut (n + 1) 13 ls r w cb sb ↔ g_ld ls[0]? (fun v => t_a v ∧ j_k (jmt 55) post cut n 14 ls (v :: r) w cb sb)) ∧
  (∀ (r : List Value) (a : Nat), j_go (jmt 55) post cut (n + 1) 14 ls (.ref a :: r) w cb sb ↔ g_ob 4 (w a) (fun fs => g_v fs[3]? (fun v => j_k (jmt 55) post cut n 17 ls (v :: r) w cb sb))) ∧
  (∀ (r : List Value), j_go (jmt 55) post cut (n + 1) 17 ls r w cb sb ↔ g_ld ls[3]? (fun v => t_i v ∧ j_k (jmt 55) post cut n 18 ls (v :: r) w cb sb)) ∧
  (∀ (r : List Value) (a : Nat) (j : Int32), j_go (jmt 55) post cut (n + 1) 18 ls (.int j :: .ref a :: r) w cb sb ↔ g_ia 0 (w a) (fun m f => vp_in j m ∧ j_k (jmt 55) post cut n 19 ls (.int (f j.toNatClampNeg) :: r) w cb sb)) ∧
  (∀ (r : List Value), j_go (jmt 55) post cut (n + 1) 19 ls r w cb sb ↔ g_ld ls[1]? (fun v => t_i v ∧ j_k (jmt 55) post cut n 20 ls (v :: r) w cb sb)) ∧
  (∀ (r : List Value) (a0 a1 : Value), j_go (jmt 55) post cut (n + 1) 20 ls (a1 :: a0 :: r) w cb sb ↔ j_w8 r ∧ g_call (jmt 56) [a0, a1] w cb sb (fun v w' c s => j_k (jmt 55) post cut n 23 ls (v.toList ++ r) w' c s)) ∧
  (∀ (r : List Value) (a : Int32), j_go (jmt 55) post cut (n + 1) 23 ls (.int a :: r) w cb sb ↔ (a = 0 → j_k (jmt 55) post cut n 40 ls r w cb sb) ∧ (¬ (a = 0) → j_k (jmt 55) post cut n 26 ls r w cb sb)) ∧
  (∀ (r : List Value), j_go (jmt 55) post cut (n + 1) 26 ls r w cb sb ↔ g_ld ls[2]? (fun v => t_i v ∧ j_k (jmt 55) post cut n 27 ls (v :: r) w cb sb)) ∧
  (∀ (r : List Value), j_go (jmt 55) post cut (n + 1) 27 ls r w cb sb ↔ g_ld ls[0]? (fun v => t_a v ∧ j_k (jmt 55) post cut n 28 ls (v :: r) w cb sb)) ∧
  (∀ (r : List Value) (a : Nat), j_go (jmt 55) post cut (n + 1) 28 ls (.ref a :: r) w cb sb ↔ g_ob 4 (w a) (fun fs => g_v fs[3]? (fun v => j_k (jmt 55) post cut n 31 ls (v :: r) w cb sb))) ∧
  (∀ (r : List Value), j_go (jmt 55) post cut (n + 1) 31 ls r w cb sb ↔ g_ld ls[3]? (fun v => t_i v ∧ j_k (jmt 55) post cut n 32 ls (v :: r) w cb sb)) ∧
  (∀ (r : List Value) (a : Nat) (j : Int32), j_go (jmt 55) post cut (n + 1) 32 ls (.int j :: .ref a :: r) w cb sb ↔ g_ia 0 (w a) (fun m f => vp_in j m ∧ j_k (jmt 55) post cut n 33 ls (.int (f j.toNatClampNeg) :: r) w cb sb)) ∧
  (∀ (r : List Value) (a0 : Value), j_go (jmt 55) post cut (n + 1) 33 ls (a0 :: r) w cb sb ↔ j_w8 r ∧ g_call (jmt 57) [a0] w cb sb (fun v w' c s => j_k (jmt 55) post cut n 36 ls (v.toList ++ r) w' c s)) ∧
  (∀ (r : List Value) (a0 a1 : Value), j_go (jmt 55) post cut (n + 1) 36 ls (a1 :: a0 :: r) w cb sb ↔ j_w8 r ∧ g_call (jmt 3) [a0, a1] w cb sb (fun v w' c s => j_k (jmt 55) post cut n 39 ls (v.toList ++ r) w' c s)) ∧
  (∀ (r : List Value) (x : Int32), j_go (jmt 55) post cut (n + 1) 39 ls (.int x :: r) w cb sb ↔ j_ok1 ls 2 = true ∧ j_k (jmt 55) post cut n 40 (ls.set 2 (some (.int x))) r w cb sb) ∧
  (∀ (r : List Value), j_go (jmt 55) post cut (n + 1) 40 ls r w cb sb ↔ g_ld ls[3]? (fun v => (match v with
      | .int x => j_ok1 ls 3 = true ∧ j_k (jmt 55) post cut n 43 (ls.set 3 (some (.int (x + Int32.ofInt 1)))) r w cb sb
      | _ => False))) ∧
  (∀ (r : List Value), j_go (jmt 55) post cut (n + 1) 43 ls r w cb sb ↔ j_k (jmt 55) post cut n 4 ls r w cb sb) ∧
  (∀ (r : List Value), j_go (jmt 55) post cut (n + 1) 46 ls r w cb sb ↔ g_ld ls[2]? (fun v => t_i v ∧ j_k (jmt 55) post cut n 47 ls (v :: r) w cb sb)) ∧
  (∀ (a : Int32), j_go (jmt 55) post cut (n + 1) 47 ls [.int a] w cb sb ↔ narrow .int (.int a) = .int a ∧ post (some (.int a)) w) := ⟨fun _ => (j_go_s rfl).trans e_iconst,
  fun _ _ => (j_go_s rfl).trans e_istore_n,
  fun _ => (j_go_s rfl).trans e_iconst,
  fun _ _ => (j_go_s rfl).trans e_istore_n,
  fun _ => (j_go_s rfl).trans e_iload_n,
  fun _ => (j_go_s rfl).trans e_aload_n,
  fun _ _ => (j_go_s rfl).trans e_getf,
  fun _ _ => (j_go_s rfl).trans e_alen,
  fun _ _ _ => (j_go_s rfl).trans e_icmp,
  fun _ => (j_go_s rfl).trans e_aload_n,
  fun _ _ => (j_go_s rfl).trans e_getf,
  fun _ => (j_go_s rfl).trans e_iload_n,
  fun _ _ _ => (j_go_s rfl).trans e_iald,
  fun _ => (j_go_s rfl).trans e_iload_n,
  fun _ _ _ => (j_go_s rfl).trans e_calls,
  fun _ _ => (j_go_s rfl).trans e_if,
  fun _ => (j_go_s rfl).trans e_iload_n,
  fun _ => (j_go_s rfl).trans e_aload_n,
  fun _ _ => (j_go_s rfl).trans e_getf,
  fun _ => (j_go_s rfl).trans e_iload_n,
  fun _ _ _ => (j_go_s rfl).trans e_iald,
  fun _ _ => (j_go_s rfl).trans e_calls,
  fun _ _ _ => (j_go_s rfl).trans e_calls,
  fun _ _ => (j_go_s rfl).trans e_istore_n,
  fun _ => (j_go_s rfl).trans e_iinc,
  fun _ => (j_go_s rfl).trans e_goto,
  fun _ => (j_go_s rfl).trans e_iload_n,
  fun _ => (j_go_s rfl).trans e_iret⟩
set_option maxRecDepth 100000 in
set_option maxHeartbeats 4000000 in
theorem st_Prefix_covers {post : Option Value → jW → Prop} {cut : List Nat} {n : Nat} {ls : jL} {w : jW} {cb sb : Nat} : (∀ (r : List Value), j_go (jmt 56) post cut (n + 1) 0 ls r w cb sb ↔ g_ld ls[1]? (fun v => t_i v ∧ j_k (jmt 56) post cut n 1 ls (v :: r) w cb sb)) ∧
  (∀ (r : List Value), j_go (jmt 56) post cut (n + 1) 1 ls r w cb sb ↔ g_ld ls[0]? (fun v => t_i v ∧ j_k (jmt 56) post cut n 2 ls (v :: r) w cb sb)) ∧
  (∀ (r : List Value) (a0 : Value), j_go (jmt 56) post cut (n + 1) 2 ls (a0 :: r) w cb sb ↔ j_w8 r ∧ g_call (jmt 57) [a0] w cb sb (fun v w' c s => j_k (jmt 56) post cut n 5 ls (v.toList ++ r) w' c s)) ∧
  (∀ (r : List Value) (a0 a1 : Value), j_go (jmt 56) post cut (n + 1) 5 ls (a1 :: a0 :: r) w cb sb ↔ j_w8 r ∧ g_call (jmt 29) [a0, a1] w cb sb (fun v w' c s => j_k (jmt 56) post cut n 8 ls (v.toList ++ r) w' c s)) ∧
  (∀ (r : List Value), j_go (jmt 56) post cut (n + 1) 8 ls r w cb sb ↔ g_ld ls[0]? (fun v => t_i v ∧ j_k (jmt 56) post cut n 9 ls (v :: r) w cb sb)) ∧
  (∀ (r : List Value) (a b : Int32), j_go (jmt 56) post cut (n + 1) 9 ls (.int b :: .int a :: r) w cb sb ↔ (¬ a = b → j_k (jmt 56) post cut n 16 ls r w cb sb) ∧ (¬ (¬ a = b) → j_k (jmt 56) post cut n 12 ls r w cb sb)) ∧
  (∀ (r : List Value), j_go (jmt 56) post cut (n + 1) 12 ls r w cb sb ↔ j_k (jmt 56) post cut n 13 ls (.int (Int32.ofInt 1) :: r) w cb sb) ∧
  (∀ (r : List Value), j_go (jmt 56) post cut (n + 1) 13 ls r w cb sb ↔ j_k (jmt 56) post cut n 17 ls r w cb sb) ∧
  (∀ (r : List Value), j_go (jmt 56) post cut (n + 1) 16 ls r w cb sb ↔ j_k (jmt 56) post cut n 17 ls (.int (Int32.ofInt 0) :: r) w cb sb) ∧
  (∀ (a : Int32), j_go (jmt 56) post cut (n + 1) 17 ls [.int a] w cb sb ↔ narrow .boolean (.int a) = .int a ∧ post (some (.int a)) w) := ⟨fun _ => (j_go_s rfl).trans e_iload_n,
  fun _ => (j_go_s rfl).trans e_iload_n,
  fun _ _ => (j_go_s rfl).trans e_calls,
  fun _ _ _ => (j_go_s rfl).trans e_calls,
  fun _ => (j_go_s rfl).trans e_iload_n,
  fun _ _ _ => (j_go_s rfl).trans e_icmp,
  fun _ => (j_go_s rfl).trans e_iconst,
  fun _ => (j_go_s rfl).trans e_goto,
  fun _ => (j_go_s rfl).trans e_iconst,
  fun _ => (j_go_s rfl).trans e_iret⟩
