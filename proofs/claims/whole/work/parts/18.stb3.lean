set_option maxRecDepth 100000 in
set_option maxHeartbeats 4000000 in
theorem st_Net_route {post : Option Value → jW → Prop} {cut : List Nat} {n : Nat} {ls : jL} {w : jW} {cb sb : Nat} : (∀ (r : List Value), j_go (jmt 68) post cut (n + 1) 0 ls r w cb sb ↔ g_ld ls[1]? (fun v => t_i v ∧ j_k (jmt 68) post cut n 1 ls (v :: r) w cb sb)) ∧
  (∀ (r : List Value) (a0 : Value), j_go (jmt 68) post cut (n + 1) 1 ls (a0 :: r) w cb sb ↔ j_w8 r ∧ g_call (jmt 6) [a0] w cb sb (fun v w' c s => j_k (jmt 68) post cut n 4 ls (v.toList ++ r) w' c s)) ∧
  (∀ (r : List Value) (a : Int32), j_go (jmt 68) post cut (n + 1) 4 ls (.int a :: r) w cb sb ↔ (a = 0 → j_k (jmt 68) post cut n 14 ls r w cb sb) ∧ (¬ (a = 0) → j_k (jmt 68) post cut n 7 ls r w cb sb)) ∧
  (∀ (r : List Value), j_go (jmt 68) post cut (n + 1) 7 ls r w cb sb ↔ g_ld ls[2]? (fun v => t_i v ∧ j_k (jmt 68) post cut n 8 ls (v :: r) w cb sb)) ∧
  (∀ (r : List Value) (a0 : Value), j_go (jmt 68) post cut (n + 1) 8 ls (a0 :: r) w cb sb ↔ j_w8 r ∧ g_call (jmt 28) [a0] w cb sb (fun v w' c s => j_k (jmt 68) post cut n 11 ls (v.toList ++ r) w' c s)) ∧
  (∀ (r : List Value) (a : Int32), j_go (jmt 68) post cut (n + 1) 11 ls (.int a :: r) w cb sb ↔ (¬ a = 0 → j_k (jmt 68) post cut n 16 ls r w cb sb) ∧ (¬ (¬ a = 0) → j_k (jmt 68) post cut n 14 ls r w cb sb)) ∧
  (∀ (r : List Value), j_go (jmt 68) post cut (n + 1) 14 ls r w cb sb ↔ j_k (jmt 68) post cut n 15 ls (.int (Int32.ofInt (-1)) :: r) w cb sb) ∧
  (∀ (a : Int32), j_go (jmt 68) post cut (n + 1) 15 ls [.int a] w cb sb ↔ narrow .int (.int a) = .int a ∧ post (some (.int a)) w) ∧
  (∀ (r : List Value), j_go (jmt 68) post cut (n + 1) 16 ls r w cb sb ↔ g_ld ls[0]? (fun v => t_a v ∧ j_k (jmt 68) post cut n 17 ls (v :: r) w cb sb)) ∧
  (∀ (r : List Value), j_go (jmt 68) post cut (n + 1) 17 ls r w cb sb ↔ g_ld ls[1]? (fun v => t_i v ∧ j_k (jmt 68) post cut n 18 ls (v :: r) w cb sb)) ∧
  (∀ (r : List Value), j_go (jmt 68) post cut (n + 1) 18 ls r w cb sb ↔ g_ld ls[2]? (fun v => t_i v ∧ j_k (jmt 68) post cut n 19 ls (v :: r) w cb sb)) ∧
  (∀ (r : List Value) (a0 a1 : Value) (b : Nat), j_go (jmt 68) post cut (n + 1) 19 ls (a1 :: a0 :: .ref b :: r) w cb sb ↔ g_ob 0 (w b) (fun _ => True) ∧ j_w8 r ∧ g_call (jmt 48) [.ref b, a0, a1] w cb sb (fun v w' c s => j_k (jmt 68) post cut n 22 ls (v.toList ++ r) w' c s)) ∧
  (∀ (a : Int32), j_go (jmt 68) post cut (n + 1) 22 ls [.int a] w cb sb ↔ narrow .int (.int a) = .int a ∧ post (some (.int a)) w) := ⟨fun _ => (j_go_s rfl).trans e_iload_n,
  fun _ _ => (j_go_s rfl).trans e_calls,
  fun _ _ => (j_go_s rfl).trans e_if,
  fun _ => (j_go_s rfl).trans e_iload_n,
  fun _ _ => (j_go_s rfl).trans e_calls,
  fun _ _ => (j_go_s rfl).trans e_if,
  fun _ => (j_go_s rfl).trans e_iconst,
  fun _ => (j_go_s rfl).trans e_iret,
  fun _ => (j_go_s rfl).trans e_aload_n,
  fun _ => (j_go_s rfl).trans e_iload_n,
  fun _ => (j_go_s rfl).trans e_iload_n,
  fun _ _ _ _ => (j_go_s rfl).trans e_callv,
  fun _ => (j_go_s rfl).trans e_iret⟩
set_option maxRecDepth 100000 in
set_option maxHeartbeats 4000000 in
theorem st_Net_distance {post : Option Value → jW → Prop} {cut : List Nat} {n : Nat} {ls : jL} {w : jW} {cb sb : Nat} : (∀ (r : List Value), j_go (jmt 69) post cut (n + 1) 0 ls r w cb sb ↔ g_ld ls[1]? (fun v => t_i v ∧ j_k (jmt 69) post cut n 1 ls (v :: r) w cb sb)) ∧
  (∀ (r : List Value) (a0 : Value), j_go (jmt 69) post cut (n + 1) 1 ls (a0 :: r) w cb sb ↔ j_w8 r ∧ g_call (jmt 6) [a0] w cb sb (fun v w' c s => j_k (jmt 69) post cut n 4 ls (v.toList ++ r) w' c s)) ∧
  (∀ (r : List Value) (a : Int32), j_go (jmt 69) post cut (n + 1) 4 ls (.int a :: r) w cb sb ↔ (a = 0 → j_k (jmt 69) post cut n 14 ls r w cb sb) ∧ (¬ (a = 0) → j_k (jmt 69) post cut n 7 ls r w cb sb)) ∧
  (∀ (r : List Value), j_go (jmt 69) post cut (n + 1) 7 ls r w cb sb ↔ g_ld ls[2]? (fun v => t_i v ∧ j_k (jmt 69) post cut n 8 ls (v :: r) w cb sb)) ∧
  (∀ (r : List Value) (a0 : Value), j_go (jmt 69) post cut (n + 1) 8 ls (a0 :: r) w cb sb ↔ j_w8 r ∧ g_call (jmt 6) [a0] w cb sb (fun v w' c s => j_k (jmt 69) post cut n 11 ls (v.toList ++ r) w' c s)) ∧
  (∀ (r : List Value) (a : Int32), j_go (jmt 69) post cut (n + 1) 11 ls (.int a :: r) w cb sb ↔ (¬ a = 0 → j_k (jmt 69) post cut n 16 ls r w cb sb) ∧ (¬ (¬ a = 0) → j_k (jmt 69) post cut n 14 ls r w cb sb)) ∧
  (∀ (r : List Value), j_go (jmt 69) post cut (n + 1) 14 ls r w cb sb ↔ j_k (jmt 69) post cut n 15 ls (.int (Int32.ofInt (-1)) :: r) w cb sb) ∧
  (∀ (a : Int32), j_go (jmt 69) post cut (n + 1) 15 ls [.int a] w cb sb ↔ narrow .int (.int a) = .int a ∧ post (some (.int a)) w) ∧
  (∀ (r : List Value), j_go (jmt 69) post cut (n + 1) 16 ls r w cb sb ↔ g_ld ls[0]? (fun v => t_a v ∧ j_k (jmt 69) post cut n 17 ls (v :: r) w cb sb)) ∧
  (∀ (r : List Value) (a : Nat), j_go (jmt 69) post cut (n + 1) 17 ls (.ref a :: r) w cb sb ↔ g_ob 0 (w a) (fun fs => g_v fs[5]? (fun v => j_k (jmt 69) post cut n 20 ls (v :: r) w cb sb))) ∧
  (∀ (r : List Value), j_go (jmt 69) post cut (n + 1) 20 ls r w cb sb ↔ g_ld ls[1]? (fun v => t_i v ∧ j_k (jmt 69) post cut n 21 ls (v :: r) w cb sb)) ∧
  (∀ (r : List Value), j_go (jmt 69) post cut (n + 1) 21 ls r w cb sb ↔ g_ld ls[0]? (fun v => t_a v ∧ j_k (jmt 69) post cut n 22 ls (v :: r) w cb sb)) ∧
  (∀ (r : List Value) (a : Nat), j_go (jmt 69) post cut (n + 1) 22 ls (.ref a :: r) w cb sb ↔ g_ob 0 (w a) (fun fs => g_v fs[1]? (fun v => j_k (jmt 69) post cut n 25 ls (v :: r) w cb sb))) ∧
  (∀ (r : List Value), j_go (jmt 69) post cut (n + 1) 25 ls r w cb sb ↔ g_ld ls[1]? (fun v => t_i v ∧ j_k (jmt 69) post cut n 26 ls (v :: r) w cb sb)) ∧
  (∀ (r : List Value) (a : Nat) (j : Int32), j_go (jmt 69) post cut (n + 1) 26 ls (.int j :: .ref a :: r) w cb sb ↔ g_qa 3 (w a) (fun m f => vp_in j m ∧ j_k (jmt 69) post cut n 27 ls (va_rf (f j.toNatClampNeg) :: r) w cb sb)) ∧
  (∀ (r : List Value) (a : Nat), j_go (jmt 69) post cut (n + 1) 27 ls (.ref a :: r) w cb sb ↔ g_ob 1 (w a) (fun fs => g_v fs[1]? (fun v => j_k (jmt 69) post cut n 30 ls (v :: r) w cb sb))) ∧
  (∀ (r : List Value), j_go (jmt 69) post cut (n + 1) 30 ls r w cb sb ↔ g_ld ls[0]? (fun v => t_a v ∧ j_k (jmt 69) post cut n 31 ls (v :: r) w cb sb)) ∧
  (∀ (r : List Value) (a : Nat), j_go (jmt 69) post cut (n + 1) 31 ls (.ref a :: r) w cb sb ↔ g_ob 0 (w a) (fun fs => g_v fs[2]? (fun v => j_k (jmt 69) post cut n 34 ls (v :: r) w cb sb))) ∧
  (∀ (r : List Value), j_go (jmt 69) post cut (n + 1) 34 ls r w cb sb ↔ g_ld ls[0]? (fun v => t_a v ∧ j_k (jmt 69) post cut n 35 ls (v :: r) w cb sb)) ∧
  (∀ (r : List Value) (a : Nat), j_go (jmt 69) post cut (n + 1) 35 ls (.ref a :: r) w cb sb ↔ g_ob 0 (w a) (fun fs => g_v fs[6]? (fun v => j_k (jmt 69) post cut n 38 ls (v :: r) w cb sb))) ∧
  (∀ (r : List Value) (a0 a1 a2 a3 : Value) (b : Nat), j_go (jmt 69) post cut (n + 1) 38 ls (a3 :: a2 :: a1 :: a0 :: .ref b :: r) w cb sb ↔ g_ob 5 (w b) (fun _ => True) ∧ j_w8 r ∧ g_call (jmt 49) [.ref b, a0, a1, a2, a3] w cb sb (fun v w' c s => j_k (jmt 69) post cut n 41 ls (v.toList ++ r) w' c s)) ∧
  (∀ (r : List Value), j_go (jmt 69) post cut (n + 1) 41 ls r w cb sb ↔ g_ld ls[0]? (fun v => t_a v ∧ j_k (jmt 69) post cut n 42 ls (v :: r) w cb sb)) ∧
  (∀ (r : List Value) (a : Nat), j_go (jmt 69) post cut (n + 1) 42 ls (.ref a :: r) w cb sb ↔ g_ob 0 (w a) (fun fs => g_v fs[5]? (fun v => j_k (jmt 69) post cut n 45 ls (v :: r) w cb sb))) ∧
  (∀ (r : List Value) (a : Nat), j_go (jmt 69) post cut (n + 1) 45 ls (.ref a :: r) w cb sb ↔ g_ob 5 (w a) (fun fs => g_v fs[0]? (fun v => j_k (jmt 69) post cut n 48 ls (v :: r) w cb sb))) ∧
  (∀ (r : List Value), j_go (jmt 69) post cut (n + 1) 48 ls r w cb sb ↔ g_ld ls[2]? (fun v => t_i v ∧ j_k (jmt 69) post cut n 49 ls (v :: r) w cb sb)) ∧
  (∀ (r : List Value) (a : Nat) (j : Int32), j_go (jmt 69) post cut (n + 1) 49 ls (.int j :: .ref a :: r) w cb sb ↔ g_ia 0 (w a) (fun m f => vp_in j m ∧ j_k (jmt 69) post cut n 50 ls (.int (f j.toNatClampNeg) :: r) w cb sb)) ∧
  (∀ (r : List Value), j_go (jmt 69) post cut (n + 1) 50 ls r w cb sb ↔ j_k (jmt 69) post cut n 52 ls (.int (Int32.ofNat 1000000) :: r) w cb sb) ∧
  (∀ (r : List Value) (a b : Int32), j_go (jmt 69) post cut (n + 1) 52 ls (.int b :: .int a :: r) w cb sb ↔ (¬ a = b → j_k (jmt 69) post cut n 60 ls r w cb sb) ∧ (¬ (¬ a = b) → j_k (jmt 69) post cut n 55 ls r w cb sb)) ∧
  (∀ (r : List Value), j_go (jmt 69) post cut (n + 1) 55 ls r w cb sb ↔ j_k (jmt 69) post cut n 57 ls (.int (Int8.ofInt (-3)).toInt32 :: r) w cb sb) ∧
  (∀ (r : List Value), j_go (jmt 69) post cut (n + 1) 57 ls r w cb sb ↔ j_k (jmt 69) post cut n 69 ls r w cb sb) ∧
  (∀ (r : List Value), j_go (jmt 69) post cut (n + 1) 60 ls r w cb sb ↔ g_ld ls[0]? (fun v => t_a v ∧ j_k (jmt 69) post cut n 61 ls (v :: r) w cb sb)) ∧
  (∀ (r : List Value) (a : Nat), j_go (jmt 69) post cut (n + 1) 61 ls (.ref a :: r) w cb sb ↔ g_ob 0 (w a) (fun fs => g_v fs[5]? (fun v => j_k (jmt 69) post cut n 64 ls (v :: r) w cb sb))) ∧
  (∀ (r : List Value) (a : Nat), j_go (jmt 69) post cut (n + 1) 64 ls (.ref a :: r) w cb sb ↔ g_ob 5 (w a) (fun fs => g_v fs[0]? (fun v => j_k (jmt 69) post cut n 67 ls (v :: r) w cb sb))) ∧
  (∀ (r : List Value), j_go (jmt 69) post cut (n + 1) 67 ls r w cb sb ↔ g_ld ls[2]? (fun v => t_i v ∧ j_k (jmt 69) post cut n 68 ls (v :: r) w cb sb)) ∧
  (∀ (r : List Value) (a : Nat) (j : Int32), j_go (jmt 69) post cut (n + 1) 68 ls (.int j :: .ref a :: r) w cb sb ↔ g_ia 0 (w a) (fun m f => vp_in j m ∧ j_k (jmt 69) post cut n 69 ls (.int (f j.toNatClampNeg) :: r) w cb sb)) ∧
  (∀ (a : Int32), j_go (jmt 69) post cut (n + 1) 69 ls [.int a] w cb sb ↔ narrow .int (.int a) = .int a ∧ post (some (.int a)) w) := ⟨fun _ => (j_go_s rfl).trans e_iload_n,
  fun _ _ => (j_go_s rfl).trans e_calls,
  fun _ _ => (j_go_s rfl).trans e_if,
  fun _ => (j_go_s rfl).trans e_iload_n,
  fun _ _ => (j_go_s rfl).trans e_calls,
  fun _ _ => (j_go_s rfl).trans e_if,
  fun _ => (j_go_s rfl).trans e_iconst,
  fun _ => (j_go_s rfl).trans e_iret,
  fun _ => (j_go_s rfl).trans e_aload_n,
  fun _ _ => (j_go_s rfl).trans e_getf,
  fun _ => (j_go_s rfl).trans e_iload_n,
  fun _ => (j_go_s rfl).trans e_aload_n,
  fun _ _ => (j_go_s rfl).trans e_getf,
  fun _ => (j_go_s rfl).trans e_iload_n,
  fun _ _ _ => (j_go_s rfl).trans e_aald,
  fun _ _ => (j_go_s rfl).trans e_getf,
  fun _ => (j_go_s rfl).trans e_aload_n,
  fun _ _ => (j_go_s rfl).trans e_getf,
  fun _ => (j_go_s rfl).trans e_aload_n,
  fun _ _ => (j_go_s rfl).trans e_getf,
  fun _ _ _ _ _ _ => (j_go_s rfl).trans e_callv,
  fun _ => (j_go_s rfl).trans e_aload_n,
  fun _ _ => (j_go_s rfl).trans e_getf,
  fun _ _ => (j_go_s rfl).trans e_getf,
  fun _ => (j_go_s rfl).trans e_iload_n,
  fun _ _ _ => (j_go_s rfl).trans e_iald,
  fun _ => (j_go_s rfl).trans e_ldc,
  fun _ _ _ => (j_go_s rfl).trans e_icmp,
  fun _ => (j_go_s rfl).trans e_bipush,
  fun _ => (j_go_s rfl).trans e_goto,
  fun _ => (j_go_s rfl).trans e_aload_n,
  fun _ _ => (j_go_s rfl).trans e_getf,
  fun _ _ => (j_go_s rfl).trans e_getf,
  fun _ => (j_go_s rfl).trans e_iload_n,
  fun _ _ _ => (j_go_s rfl).trans e_iald,
  fun _ => (j_go_s rfl).trans e_iret⟩
set_option maxRecDepth 100000 in
set_option maxHeartbeats 4000000 in
theorem st_Net_held {post : Option Value → jW → Prop} {cut : List Nat} {n : Nat} {ls : jL} {w : jW} {cb sb : Nat} : (∀ (r : List Value), j_go (jmt 70) post cut (n + 1) 0 ls r w cb sb ↔ g_ld ls[1]? (fun v => t_i v ∧ j_k (jmt 70) post cut n 1 ls (v :: r) w cb sb)) ∧
  (∀ (r : List Value) (a0 : Value), j_go (jmt 70) post cut (n + 1) 1 ls (a0 :: r) w cb sb ↔ j_w8 r ∧ g_call (jmt 6) [a0] w cb sb (fun v w' c s => j_k (jmt 70) post cut n 4 ls (v.toList ++ r) w' c s)) ∧
  (∀ (r : List Value) (a : Int32), j_go (jmt 70) post cut (n + 1) 4 ls (.int a :: r) w cb sb ↔ (a = 0 → j_k (jmt 70) post cut n 14 ls r w cb sb) ∧ (¬ (a = 0) → j_k (jmt 70) post cut n 7 ls r w cb sb)) ∧
  (∀ (r : List Value), j_go (jmt 70) post cut (n + 1) 7 ls r w cb sb ↔ g_ld ls[2]? (fun v => t_i v ∧ j_k (jmt 70) post cut n 8 ls (v :: r) w cb sb)) ∧
  (∀ (r : List Value) (a0 : Value), j_go (jmt 70) post cut (n + 1) 8 ls (a0 :: r) w cb sb ↔ j_w8 r ∧ g_call (jmt 6) [a0] w cb sb (fun v w' c s => j_k (jmt 70) post cut n 11 ls (v.toList ++ r) w' c s)) ∧
  (∀ (r : List Value) (a : Int32), j_go (jmt 70) post cut (n + 1) 11 ls (.int a :: r) w cb sb ↔ (¬ a = 0 → j_k (jmt 70) post cut n 16 ls r w cb sb) ∧ (¬ (¬ a = 0) → j_k (jmt 70) post cut n 14 ls r w cb sb)) ∧
  (∀ (r : List Value), j_go (jmt 70) post cut (n + 1) 14 ls r w cb sb ↔ j_k (jmt 70) post cut n 15 ls (.int (Int32.ofInt (-1)) :: r) w cb sb) ∧
  (∀ (a : Int32), j_go (jmt 70) post cut (n + 1) 15 ls [.int a] w cb sb ↔ narrow .int (.int a) = .int a ∧ post (some (.int a)) w) ∧
  (∀ (r : List Value), j_go (jmt 70) post cut (n + 1) 16 ls r w cb sb ↔ g_ld ls[0]? (fun v => t_a v ∧ j_k (jmt 70) post cut n 17 ls (v :: r) w cb sb)) ∧
  (∀ (r : List Value) (a : Nat), j_go (jmt 70) post cut (n + 1) 17 ls (.ref a :: r) w cb sb ↔ g_ob 0 (w a) (fun fs => g_v fs[1]? (fun v => j_k (jmt 70) post cut n 20 ls (v :: r) w cb sb))) ∧
  (∀ (r : List Value), j_go (jmt 70) post cut (n + 1) 20 ls r w cb sb ↔ g_ld ls[1]? (fun v => t_i v ∧ j_k (jmt 70) post cut n 21 ls (v :: r) w cb sb)) ∧
  (∀ (r : List Value) (a : Nat) (j : Int32), j_go (jmt 70) post cut (n + 1) 21 ls (.int j :: .ref a :: r) w cb sb ↔ g_qa 3 (w a) (fun m f => vp_in j m ∧ j_k (jmt 70) post cut n 22 ls (va_rf (f j.toNatClampNeg) :: r) w cb sb)) ∧
  (∀ (r : List Value) (a : Nat), j_go (jmt 70) post cut (n + 1) 22 ls (.ref a :: r) w cb sb ↔ g_ob 1 (w a) (fun fs => g_v fs[1]? (fun v => j_k (jmt 70) post cut n 25 ls (v :: r) w cb sb))) ∧
  (∀ (r : List Value), j_go (jmt 70) post cut (n + 1) 25 ls r w cb sb ↔ g_ld ls[2]? (fun v => t_i v ∧ j_k (jmt 70) post cut n 26 ls (v :: r) w cb sb)) ∧
  (∀ (r : List Value) (a : Nat) (j : Int32), j_go (jmt 70) post cut (n + 1) 26 ls (.int j :: .ref a :: r) w cb sb ↔ g_qa 7 (w a) (fun m f => vp_in j m ∧ j_k (jmt 70) post cut n 27 ls (va_rf (f j.toNatClampNeg) :: r) w cb sb)) ∧
  (∀ (r : List Value) (v : Value), j_go (jmt 70) post cut (n + 1) 27 ls (v :: r) w cb sb ↔ (t_a v ∧ j_ok1 ls 3 = true) ∧ j_k (jmt 70) post cut n 28 (ls.set 3 (some v)) r w cb sb) ∧
  (∀ (r : List Value), j_go (jmt 70) post cut (n + 1) 28 ls r w cb sb ↔ g_ld ls[3]? (fun v => t_a v ∧ j_k (jmt 70) post cut n 29 ls (v :: r) w cb sb)) ∧
  (∀ (r : List Value), j_go (jmt 70) post cut (n + 1) 29 ls (.null :: r) w cb sb ↔ j_k (jmt 70) post cut n 32 ls r w cb sb) ∧
  (∀ (r : List Value) (a : Nat), j_go (jmt 70) post cut (n + 1) 29 ls (.ref a :: r) w cb sb ↔ j_k (jmt 70) post cut n 36 ls r w cb sb) ∧
  (∀ (r : List Value), j_go (jmt 70) post cut (n + 1) 32 ls r w cb sb ↔ j_k (jmt 70) post cut n 33 ls (.int (Int32.ofInt 0) :: r) w cb sb) ∧
  (∀ (r : List Value), j_go (jmt 70) post cut (n + 1) 33 ls r w cb sb ↔ j_k (jmt 70) post cut n 40 ls r w cb sb) ∧
  (∀ (r : List Value), j_go (jmt 70) post cut (n + 1) 36 ls r w cb sb ↔ g_ld ls[3]? (fun v => t_a v ∧ j_k (jmt 70) post cut n 37 ls (v :: r) w cb sb)) ∧
  (∀ (r : List Value) (a : Nat), j_go (jmt 70) post cut (n + 1) 37 ls (.ref a :: r) w cb sb ↔ g_ob 4 (w a) (fun fs => g_v fs[1]? (fun v => j_k (jmt 70) post cut n 40 ls (v :: r) w cb sb))) ∧
  (∀ (a : Int32), j_go (jmt 70) post cut (n + 1) 40 ls [.int a] w cb sb ↔ narrow .int (.int a) = .int a ∧ post (some (.int a)) w) := ⟨fun _ => (j_go_s rfl).trans e_iload_n,
  fun _ _ => (j_go_s rfl).trans e_calls,
  fun _ _ => (j_go_s rfl).trans e_if,
  fun _ => (j_go_s rfl).trans e_iload_n,
  fun _ _ => (j_go_s rfl).trans e_calls,
  fun _ _ => (j_go_s rfl).trans e_if,
  fun _ => (j_go_s rfl).trans e_iconst,
  fun _ => (j_go_s rfl).trans e_iret,
  fun _ => (j_go_s rfl).trans e_aload_n,
  fun _ _ => (j_go_s rfl).trans e_getf,
  fun _ => (j_go_s rfl).trans e_iload_n,
  fun _ _ _ => (j_go_s rfl).trans e_aald,
  fun _ _ => (j_go_s rfl).trans e_getf,
  fun _ => (j_go_s rfl).trans e_iload_n,
  fun _ _ _ => (j_go_s rfl).trans e_aald,
  fun _ _ => (j_go_s rfl).trans e_astore_n,
  fun _ => (j_go_s rfl).trans e_aload_n,
  fun _ => (j_go_s rfl).trans e_ifnonnull_n,
  fun _ _ => (j_go_s rfl).trans e_ifnonnull_r,
  fun _ => (j_go_s rfl).trans e_iconst,
  fun _ => (j_go_s rfl).trans e_goto,
  fun _ => (j_go_s rfl).trans e_aload_n,
  fun _ _ => (j_go_s rfl).trans e_getf,
  fun _ => (j_go_s rfl).trans e_iret⟩
set_option maxRecDepth 100000 in
set_option maxHeartbeats 4000000 in
theorem st_Net_waiting {post : Option Value → jW → Prop} {cut : List Nat} {n : Nat} {ls : jL} {w : jW} {cb sb : Nat} : (∀ (r : List Value), j_go (jmt 71) post cut (n + 1) 0 ls r w cb sb ↔ g_ld ls[0]? (fun v => t_a v ∧ j_k (jmt 71) post cut n 1 ls (v :: r) w cb sb)) ∧
  (∀ (r : List Value), j_go (jmt 71) post cut (n + 1) 1 ls r w cb sb ↔ g_ld ls[1]? (fun v => t_i v ∧ j_k (jmt 71) post cut n 2 ls (v :: r) w cb sb)) ∧
  (∀ (r : List Value), j_go (jmt 71) post cut (n + 1) 2 ls r w cb sb ↔ g_ld ls[2]? (fun v => t_i v ∧ j_k (jmt 71) post cut n 3 ls (v :: r) w cb sb)) ∧
  (∀ (r : List Value) (a0 a1 : Value) (b : Nat), j_go (jmt 71) post cut (n + 1) 3 ls (a1 :: a0 :: .ref b :: r) w cb sb ↔ g_ob 0 (w b) (fun _ => True) ∧ j_w8 r ∧ g_call (jmt 35) [.ref b, a0, a1] w cb sb (fun v w' c s => j_k (jmt 71) post cut n 6 ls (v.toList ++ r) w' c s)) ∧
  (∀ (r : List Value) (a : Int32), j_go (jmt 71) post cut (n + 1) 6 ls (.int a :: r) w cb sb ↔ (¬ a = 0 → j_k (jmt 71) post cut n 11 ls r w cb sb) ∧ (¬ (¬ a = 0) → j_k (jmt 71) post cut n 9 ls r w cb sb)) ∧
  (∀ (r : List Value), j_go (jmt 71) post cut (n + 1) 9 ls r w cb sb ↔ j_k (jmt 71) post cut n 10 ls (.int (Int32.ofInt (-1)) :: r) w cb sb) ∧
  (∀ (a : Int32), j_go (jmt 71) post cut (n + 1) 10 ls [.int a] w cb sb ↔ narrow .int (.int a) = .int a ∧ post (some (.int a)) w) ∧
  (∀ (r : List Value), j_go (jmt 71) post cut (n + 1) 11 ls r w cb sb ↔ g_ld ls[0]? (fun v => t_a v ∧ j_k (jmt 71) post cut n 12 ls (v :: r) w cb sb)) ∧
  (∀ (r : List Value) (a : Nat), j_go (jmt 71) post cut (n + 1) 12 ls (.ref a :: r) w cb sb ↔ g_ob 0 (w a) (fun fs => g_v fs[2]? (fun v => j_k (jmt 71) post cut n 15 ls (v :: r) w cb sb))) ∧
  (∀ (r : List Value), j_go (jmt 71) post cut (n + 1) 15 ls r w cb sb ↔ g_ld ls[1]? (fun v => t_i v ∧ j_k (jmt 71) post cut n 16 ls (v :: r) w cb sb)) ∧
  (∀ (r : List Value) (a : Nat) (j : Int32), j_go (jmt 71) post cut (n + 1) 16 ls (.int j :: .ref a :: r) w cb sb ↔ g_qa 4 (w a) (fun m f => vp_in j m ∧ j_k (jmt 71) post cut n 17 ls (va_rf (f j.toNatClampNeg) :: r) w cb sb)) ∧
  (∀ (r : List Value), j_go (jmt 71) post cut (n + 1) 17 ls r w cb sb ↔ g_ld ls[2]? (fun v => t_i v ∧ j_k (jmt 71) post cut n 18 ls (v :: r) w cb sb)) ∧
  (∀ (r : List Value) (a0 : Value) (b : Nat), j_go (jmt 71) post cut (n + 1) 18 ls (a0 :: .ref b :: r) w cb sb ↔ g_ob 2 (w b) (fun _ => True) ∧ j_w8 r ∧ g_call (jmt 36) [.ref b, a0] w cb sb (fun v w' c s => j_k (jmt 71) post cut n 21 ls (v.toList ++ r) w' c s)) ∧
  (∀ (r : List Value) (a : Nat), j_go (jmt 71) post cut (n + 1) 21 ls (.ref a :: r) w cb sb ↔ g_ob 3 (w a) (fun fs => g_v fs[2]? (fun v => j_k (jmt 71) post cut n 24 ls (v :: r) w cb sb))) ∧
  (∀ (a : Int32), j_go (jmt 71) post cut (n + 1) 24 ls [.int a] w cb sb ↔ narrow .int (.int a) = .int a ∧ post (some (.int a)) w) := ⟨fun _ => (j_go_s rfl).trans e_aload_n,
  fun _ => (j_go_s rfl).trans e_iload_n,
  fun _ => (j_go_s rfl).trans e_iload_n,
  fun _ _ _ _ => (j_go_s rfl).trans e_callv,
  fun _ _ => (j_go_s rfl).trans e_if,
  fun _ => (j_go_s rfl).trans e_iconst,
  fun _ => (j_go_s rfl).trans e_iret,
  fun _ => (j_go_s rfl).trans e_aload_n,
  fun _ _ => (j_go_s rfl).trans e_getf,
  fun _ => (j_go_s rfl).trans e_iload_n,
  fun _ _ _ => (j_go_s rfl).trans e_aald,
  fun _ => (j_go_s rfl).trans e_iload_n,
  fun _ _ _ => (j_go_s rfl).trans e_callv,
  fun _ _ => (j_go_s rfl).trans e_getf,
  fun _ => (j_go_s rfl).trans e_iret⟩
set_option maxRecDepth 100000 in
set_option maxHeartbeats 4000000 in
theorem st_Net_piece {post : Option Value → jW → Prop} {cut : List Nat} {n : Nat} {ls : jL} {w : jW} {cb sb : Nat} : (∀ (r : List Value), j_go (jmt 72) post cut (n + 1) 0 ls r w cb sb ↔ g_ld ls[0]? (fun v => t_a v ∧ j_k (jmt 72) post cut n 1 ls (v :: r) w cb sb)) ∧
  (∀ (r : List Value), j_go (jmt 72) post cut (n + 1) 1 ls r w cb sb ↔ g_ld ls[1]? (fun v => t_i v ∧ j_k (jmt 72) post cut n 2 ls (v :: r) w cb sb)) ∧
  (∀ (r : List Value) (a0 : Value) (b : Nat), j_go (jmt 72) post cut (n + 1) 2 ls (a0 :: .ref b :: r) w cb sb ↔ g_ob 0 (w b) (fun _ => True) ∧ j_w8 r ∧ g_call (jmt 47) [.ref b, a0] w cb sb (fun v w' c s => j_k (jmt 72) post cut n 5 ls (v.toList ++ r) w' c s)) ∧
  (∀ (r : List Value) (a : Int32), j_go (jmt 72) post cut (n + 1) 5 ls (.int a :: r) w cb sb ↔ (¬ a = 0 → j_k (jmt 72) post cut n 10 ls r w cb sb) ∧ (¬ (¬ a = 0) → j_k (jmt 72) post cut n 8 ls r w cb sb)) ∧
  (∀ (r : List Value), j_go (jmt 72) post cut (n + 1) 8 ls r w cb sb ↔ j_k (jmt 72) post cut n 9 ls (.int (Int32.ofInt (-1)) :: r) w cb sb) ∧
  (∀ (a : Int32), j_go (jmt 72) post cut (n + 1) 9 ls [.int a] w cb sb ↔ narrow .int (.int a) = .int a ∧ post (some (.int a)) w) ∧
  (∀ (r : List Value), j_go (jmt 72) post cut (n + 1) 10 ls r w cb sb ↔ g_ld ls[0]? (fun v => t_a v ∧ j_k (jmt 72) post cut n 11 ls (v :: r) w cb sb)) ∧
  (∀ (r : List Value) (a : Nat), j_go (jmt 72) post cut (n + 1) 11 ls (.ref a :: r) w cb sb ↔ g_ob 0 (w a) (fun fs => g_v fs[4]? (fun v => j_k (jmt 72) post cut n 14 ls (v :: r) w cb sb))) ∧
  (∀ (r : List Value), j_go (jmt 72) post cut (n + 1) 14 ls r w cb sb ↔ g_ld ls[1]? (fun v => t_i v ∧ j_k (jmt 72) post cut n 15 ls (v :: r) w cb sb)) ∧
  (∀ (r : List Value), j_go (jmt 72) post cut (n + 1) 15 ls r w cb sb ↔ j_k (jmt 72) post cut n 16 ls (.int (Int32.ofInt 1) :: r) w cb sb) ∧
  (∀ (r : List Value) (x y : Int32), j_go (jmt 72) post cut (n + 1) 16 ls (.int y :: .int x :: r) w cb sb ↔ j_k (jmt 72) post cut n 17 ls (.int (x - y) :: r) w cb sb) ∧
  (∀ (r : List Value) (a : Nat) (j : Int32), j_go (jmt 72) post cut (n + 1) 17 ls (.int j :: .ref a :: r) w cb sb ↔ g_qa 6 (w a) (fun m f => vp_in j m ∧ j_k (jmt 72) post cut n 18 ls (va_rf (f j.toNatClampNeg) :: r) w cb sb)) ∧
  (∀ (r : List Value) (v : Value), j_go (jmt 72) post cut (n + 1) 18 ls (v :: r) w cb sb ↔ (t_a v ∧ j_ok1 ls 3 = true) ∧ j_k (jmt 72) post cut n 19 (ls.set 3 (some v)) r w cb sb) ∧
  (∀ (r : List Value), j_go (jmt 72) post cut (n + 1) 19 ls r w cb sb ↔ g_ld ls[2]? (fun v => t_i v ∧ j_k (jmt 72) post cut n 20 ls (v :: r) w cb sb)) ∧
  (∀ (r : List Value) (a : Int32), j_go (jmt 72) post cut (n + 1) 20 ls (.int a :: r) w cb sb ↔ (a.toInt < 0 ∨ 5 < a.toInt → j_k (jmt 72) post cut n 90 ls r w cb sb) ∧ j_sw (fun t => j_k (jmt 72) post cut n t ls r w cb sb) 20 a.toInt 0 [40, 45, 50, 55, 60, 65]) ∧
  (∀ (r : List Value), j_go (jmt 72) post cut (n + 1) 60 ls r w cb sb ↔ g_ld ls[3]? (fun v => t_a v ∧ j_k (jmt 72) post cut n 61 ls (v :: r) w cb sb)) ∧
  (∀ (r : List Value) (a : Nat), j_go (jmt 72) post cut (n + 1) 61 ls (.ref a :: r) w cb sb ↔ g_ob 7 (w a) (fun fs => g_v fs[0]? (fun v => j_k (jmt 72) post cut n 64 ls (v :: r) w cb sb))) ∧
  (∀ (a : Int32), j_go (jmt 72) post cut (n + 1) 64 ls [.int a] w cb sb ↔ narrow .int (.int a) = .int a ∧ post (some (.int a)) w) ∧
  (∀ (r : List Value), j_go (jmt 72) post cut (n + 1) 65 ls r w cb sb ↔ g_ld ls[3]? (fun v => t_a v ∧ j_k (jmt 72) post cut n 66 ls (v :: r) w cb sb)) ∧
  (∀ (r : List Value) (a : Nat), j_go (jmt 72) post cut (n + 1) 66 ls (.ref a :: r) w cb sb ↔ g_ob 7 (w a) (fun fs => g_v fs[1]? (fun v => j_k (jmt 72) post cut n 69 ls (v :: r) w cb sb))) ∧
  (∀ (a : Int32), j_go (jmt 72) post cut (n + 1) 69 ls [.int a] w cb sb ↔ narrow .int (.int a) = .int a ∧ post (some (.int a)) w) ∧
  (∀ (r : List Value), j_go (jmt 72) post cut (n + 1) 70 ls r w cb sb ↔ g_ld ls[3]? (fun v => t_a v ∧ j_k (jmt 72) post cut n 71 ls (v :: r) w cb sb)) ∧
  (∀ (r : List Value) (a : Nat), j_go (jmt 72) post cut (n + 1) 71 ls (.ref a :: r) w cb sb ↔ g_ob 7 (w a) (fun fs => g_v fs[2]? (fun v => j_k (jmt 72) post cut n 74 ls (v :: r) w cb sb))) ∧
  (∀ (a : Int32), j_go (jmt 72) post cut (n + 1) 74 ls [.int a] w cb sb ↔ narrow .int (.int a) = .int a ∧ post (some (.int a)) w) ∧
  (∀ (r : List Value), j_go (jmt 72) post cut (n + 1) 75 ls r w cb sb ↔ g_ld ls[3]? (fun v => t_a v ∧ j_k (jmt 72) post cut n 76 ls (v :: r) w cb sb)) ∧
  (∀ (r : List Value) (a : Nat), j_go (jmt 72) post cut (n + 1) 76 ls (.ref a :: r) w cb sb ↔ g_ob 7 (w a) (fun fs => g_v fs[3]? (fun v => j_k (jmt 72) post cut n 79 ls (v :: r) w cb sb))) ∧
  (∀ (a : Int32), j_go (jmt 72) post cut (n + 1) 79 ls [.int a] w cb sb ↔ narrow .int (.int a) = .int a ∧ post (some (.int a)) w) ∧
  (∀ (r : List Value), j_go (jmt 72) post cut (n + 1) 80 ls r w cb sb ↔ g_ld ls[3]? (fun v => t_a v ∧ j_k (jmt 72) post cut n 81 ls (v :: r) w cb sb)) ∧
  (∀ (r : List Value) (a : Nat), j_go (jmt 72) post cut (n + 1) 81 ls (.ref a :: r) w cb sb ↔ g_ob 7 (w a) (fun fs => g_v fs[4]? (fun v => j_k (jmt 72) post cut n 84 ls (v :: r) w cb sb))) ∧
  (∀ (a : Int32), j_go (jmt 72) post cut (n + 1) 84 ls [.int a] w cb sb ↔ narrow .int (.int a) = .int a ∧ post (some (.int a)) w) ∧
  (∀ (r : List Value), j_go (jmt 72) post cut (n + 1) 85 ls r w cb sb ↔ g_ld ls[3]? (fun v => t_a v ∧ j_k (jmt 72) post cut n 86 ls (v :: r) w cb sb)) ∧
  (∀ (r : List Value) (a : Nat), j_go (jmt 72) post cut (n + 1) 86 ls (.ref a :: r) w cb sb ↔ g_ob 7 (w a) (fun fs => g_v fs[5]? (fun v => j_k (jmt 72) post cut n 89 ls (v :: r) w cb sb))) ∧
  (∀ (a : Int32), j_go (jmt 72) post cut (n + 1) 89 ls [.int a] w cb sb ↔ narrow .int (.int a) = .int a ∧ post (some (.int a)) w) ∧
  (∀ (r : List Value), j_go (jmt 72) post cut (n + 1) 90 ls r w cb sb ↔ j_k (jmt 72) post cut n 91 ls (.int (Int32.ofInt (-1)) :: r) w cb sb) ∧
  (∀ (a : Int32), j_go (jmt 72) post cut (n + 1) 91 ls [.int a] w cb sb ↔ narrow .int (.int a) = .int a ∧ post (some (.int a)) w) := ⟨fun _ => (j_go_s rfl).trans e_aload_n,
  fun _ => (j_go_s rfl).trans e_iload_n,
  fun _ _ _ => (j_go_s rfl).trans e_callv,
  fun _ _ => (j_go_s rfl).trans e_if,
  fun _ => (j_go_s rfl).trans e_iconst,
  fun _ => (j_go_s rfl).trans e_iret,
  fun _ => (j_go_s rfl).trans e_aload_n,
  fun _ _ => (j_go_s rfl).trans e_getf,
  fun _ => (j_go_s rfl).trans e_iload_n,
  fun _ => (j_go_s rfl).trans e_iconst,
  fun _ _ _ => (j_go_s rfl).trans e_isub,
  fun _ _ _ => (j_go_s rfl).trans e_aald,
  fun _ _ => (j_go_s rfl).trans e_astore_n,
  fun _ => (j_go_s rfl).trans e_iload_n,
  fun _ _ => (j_go_s rfl).trans e_tsw,
  fun _ => (j_go_s rfl).trans e_aload_n,
  fun _ _ => (j_go_s rfl).trans e_getf,
  fun _ => (j_go_s rfl).trans e_iret,
  fun _ => (j_go_s rfl).trans e_aload_n,
  fun _ _ => (j_go_s rfl).trans e_getf,
  fun _ => (j_go_s rfl).trans e_iret,
  fun _ => (j_go_s rfl).trans e_aload_n,
  fun _ _ => (j_go_s rfl).trans e_getf,
  fun _ => (j_go_s rfl).trans e_iret,
  fun _ => (j_go_s rfl).trans e_aload_n,
  fun _ _ => (j_go_s rfl).trans e_getf,
  fun _ => (j_go_s rfl).trans e_iret,
  fun _ => (j_go_s rfl).trans e_aload_n,
  fun _ _ => (j_go_s rfl).trans e_getf,
  fun _ => (j_go_s rfl).trans e_iret,
  fun _ => (j_go_s rfl).trans e_aload_n,
  fun _ _ => (j_go_s rfl).trans e_getf,
  fun _ => (j_go_s rfl).trans e_iret,
  fun _ => (j_go_s rfl).trans e_iconst,
  fun _ => (j_go_s rfl).trans e_iret⟩
set_option maxRecDepth 100000 in
set_option maxHeartbeats 4000000 in
theorem st_Net_ended {post : Option Value → jW → Prop} {cut : List Nat} {n : Nat} {ls : jL} {w : jW} {cb sb : Nat} : (∀ (r : List Value), j_go (jmt 73) post cut (n + 1) 0 ls r w cb sb ↔ g_ld ls[0]? (fun v => t_a v ∧ j_k (jmt 73) post cut n 1 ls (v :: r) w cb sb)) ∧
  (∀ (r : List Value), j_go (jmt 73) post cut (n + 1) 1 ls r w cb sb ↔ g_ld ls[1]? (fun v => t_i v ∧ j_k (jmt 73) post cut n 2 ls (v :: r) w cb sb)) ∧
  (∀ (r : List Value) (a0 : Value) (b : Nat), j_go (jmt 73) post cut (n + 1) 2 ls (a0 :: .ref b :: r) w cb sb ↔ g_ob 0 (w b) (fun _ => True) ∧ j_w8 r ∧ g_call (jmt 74) [.ref b, a0] w cb sb (fun v w' c s => j_k (jmt 73) post cut n 5 ls (v.toList ++ r) w' c s)) ∧
  (∀ (r : List Value) (a : Int32), j_go (jmt 73) post cut (n + 1) 5 ls (.int a :: r) w cb sb ↔ (a = 0 → j_k (jmt 73) post cut n 15 ls r w cb sb) ∧ (¬ (a = 0) → j_k (jmt 73) post cut n 8 ls r w cb sb)) ∧
  (∀ (r : List Value), j_go (jmt 73) post cut (n + 1) 8 ls r w cb sb ↔ g_ld ls[2]? (fun v => t_i v ∧ j_k (jmt 73) post cut n 9 ls (v :: r) w cb sb)) ∧
  (∀ (r : List Value) (a0 : Value), j_go (jmt 73) post cut (n + 1) 9 ls (a0 :: r) w cb sb ↔ j_w8 r ∧ g_call (jmt 6) [a0] w cb sb (fun v w' c s => j_k (jmt 73) post cut n 12 ls (v.toList ++ r) w' c s)) ∧
  (∀ (r : List Value) (a : Int32), j_go (jmt 73) post cut (n + 1) 12 ls (.int a :: r) w cb sb ↔ (¬ a = 0 → j_k (jmt 73) post cut n 17 ls r w cb sb) ∧ (¬ (¬ a = 0) → j_k (jmt 73) post cut n 15 ls r w cb sb)) ∧
  (∀ (r : List Value), j_go (jmt 73) post cut (n + 1) 15 ls r w cb sb ↔ j_k (jmt 73) post cut n 16 ls (.int (Int32.ofInt (-1)) :: r) w cb sb) ∧
  (∀ (a : Int32), j_go (jmt 73) post cut (n + 1) 16 ls [.int a] w cb sb ↔ narrow .int (.int a) = .int a ∧ post (some (.int a)) w) ∧
  (∀ (r : List Value), j_go (jmt 73) post cut (n + 1) 17 ls r w cb sb ↔ g_ld ls[0]? (fun v => t_a v ∧ j_k (jmt 73) post cut n 18 ls (v :: r) w cb sb)) ∧
  (∀ (r : List Value) (a : Nat), j_go (jmt 73) post cut (n + 1) 18 ls (.ref a :: r) w cb sb ↔ g_ob 0 (w a) (fun fs => g_v fs[3]? (fun v => j_k (jmt 73) post cut n 21 ls (v :: r) w cb sb))) ∧
  (∀ (r : List Value), j_go (jmt 73) post cut (n + 1) 21 ls r w cb sb ↔ g_ld ls[1]? (fun v => t_i v ∧ j_k (jmt 73) post cut n 22 ls (v :: r) w cb sb)) ∧
  (∀ (r : List Value), j_go (jmt 73) post cut (n + 1) 22 ls r w cb sb ↔ j_k (jmt 73) post cut n 23 ls (.int (Int32.ofInt 1) :: r) w cb sb) ∧
  (∀ (r : List Value) (x y : Int32), j_go (jmt 73) post cut (n + 1) 23 ls (.int y :: .int x :: r) w cb sb ↔ j_k (jmt 73) post cut n 24 ls (.int (x - y) :: r) w cb sb) ∧
  (∀ (r : List Value) (a : Nat) (j : Int32), j_go (jmt 73) post cut (n + 1) 24 ls (.int j :: .ref a :: r) w cb sb ↔ g_qa 5 (w a) (fun m f => vp_in j m ∧ j_k (jmt 73) post cut n 25 ls (va_rf (f j.toNatClampNeg) :: r) w cb sb)) ∧
  (∀ (r : List Value), j_go (jmt 73) post cut (n + 1) 25 ls r w cb sb ↔ g_ld ls[2]? (fun v => t_i v ∧ j_k (jmt 73) post cut n 26 ls (v :: r) w cb sb)) ∧
  (∀ (r : List Value) (a0 : Value) (b : Nat), j_go (jmt 73) post cut (n + 1) 26 ls (a0 :: .ref b :: r) w cb sb ↔ g_ob 6 (w b) (fun _ => True) ∧ j_w8 r ∧ g_call (jmt 75) [.ref b, a0] w cb sb (fun v w' c s => j_k (jmt 73) post cut n 29 ls (v.toList ++ r) w' c s)) ∧
  (∀ (a : Int32), j_go (jmt 73) post cut (n + 1) 29 ls [.int a] w cb sb ↔ narrow .int (.int a) = .int a ∧ post (some (.int a)) w) := ⟨fun _ => (j_go_s rfl).trans e_aload_n,
  fun _ => (j_go_s rfl).trans e_iload_n,
  fun _ _ _ => (j_go_s rfl).trans e_callv,
  fun _ _ => (j_go_s rfl).trans e_if,
  fun _ => (j_go_s rfl).trans e_iload_n,
  fun _ _ => (j_go_s rfl).trans e_calls,
  fun _ _ => (j_go_s rfl).trans e_if,
  fun _ => (j_go_s rfl).trans e_iconst,
  fun _ => (j_go_s rfl).trans e_iret,
  fun _ => (j_go_s rfl).trans e_aload_n,
  fun _ _ => (j_go_s rfl).trans e_getf,
  fun _ => (j_go_s rfl).trans e_iload_n,
  fun _ => (j_go_s rfl).trans e_iconst,
  fun _ _ _ => (j_go_s rfl).trans e_isub,
  fun _ _ _ => (j_go_s rfl).trans e_aald,
  fun _ => (j_go_s rfl).trans e_iload_n,
  fun _ _ _ => (j_go_s rfl).trans e_callv,
  fun _ => (j_go_s rfl).trans e_iret⟩
set_option maxRecDepth 100000 in
set_option maxHeartbeats 4000000 in
theorem st_Net_isPacket {post : Option Value → jW → Prop} {cut : List Nat} {n : Nat} {ls : jL} {w : jW} {cb sb : Nat} : (∀ (r : List Value), j_go (jmt 74) post cut (n + 1) 0 ls r w cb sb ↔ g_ld ls[1]? (fun v => t_i v ∧ j_k (jmt 74) post cut n 1 ls (v :: r) w cb sb)) ∧
  (∀ (r : List Value), j_go (jmt 74) post cut (n + 1) 1 ls r w cb sb ↔ j_k (jmt 74) post cut n 2 ls (.int (Int32.ofInt 1) :: r) w cb sb) ∧
  (∀ (r : List Value), j_go (jmt 74) post cut (n + 1) 2 ls r w cb sb ↔ g_ld ls[0]? (fun v => t_a v ∧ j_k (jmt 74) post cut n 3 ls (v :: r) w cb sb)) ∧
  (∀ (r : List Value) (a : Nat), j_go (jmt 74) post cut (n + 1) 3 ls (.ref a :: r) w cb sb ↔ g_ob 0 (w a) (fun fs => g_v fs[7]? (fun v => j_k (jmt 74) post cut n 6 ls (v :: r) w cb sb))) ∧
  (∀ (r : List Value) (a0 a1 a2 : Value), j_go (jmt 74) post cut (n + 1) 6 ls (a2 :: a1 :: a0 :: r) w cb sb ↔ j_w8 r ∧ g_call (jmt 7) [a0, a1, a2] w cb sb (fun v w' c s => j_k (jmt 74) post cut n 9 ls (v.toList ++ r) w' c s)) ∧
  (∀ (a : Int32), j_go (jmt 74) post cut (n + 1) 9 ls [.int a] w cb sb ↔ narrow .boolean (.int a) = .int a ∧ post (some (.int a)) w) := ⟨fun _ => (j_go_s rfl).trans e_iload_n,
  fun _ => (j_go_s rfl).trans e_iconst,
  fun _ => (j_go_s rfl).trans e_aload_n,
  fun _ _ => (j_go_s rfl).trans e_getf,
  fun _ _ _ _ => (j_go_s rfl).trans e_calls,
  fun _ => (j_go_s rfl).trans e_iret⟩
set_option maxRecDepth 100000 in
set_option maxHeartbeats 4000000 in
theorem st_Net_arrived {post : Option Value → jW → Prop} {cut : List Nat} {n : Nat} {ls : jL} {w : jW} {cb sb : Nat} : (∀ (r : List Value), j_go (jmt 77) post cut (n + 1) 0 ls r w cb sb ↔ g_ld ls[0]? (fun v => t_a v ∧ j_k (jmt 77) post cut n 1 ls (v :: r) w cb sb)) ∧
  (∀ (r : List Value), j_go (jmt 77) post cut (n + 1) 1 ls r w cb sb ↔ g_ld ls[1]? (fun v => t_i v ∧ j_k (jmt 77) post cut n 2 ls (v :: r) w cb sb)) ∧
  (∀ (r : List Value) (a0 : Value) (b : Nat), j_go (jmt 77) post cut (n + 1) 2 ls (a0 :: .ref b :: r) w cb sb ↔ g_ob 0 (w b) (fun _ => True) ∧ j_w8 r ∧ g_call (jmt 74) [.ref b, a0] w cb sb (fun v w' c s => j_k (jmt 77) post cut n 5 ls (v.toList ++ r) w' c s)) ∧
  (∀ (r : List Value) (a : Int32), j_go (jmt 77) post cut (n + 1) 5 ls (.int a :: r) w cb sb ↔ (a = 0 → j_k (jmt 77) post cut n 26 ls r w cb sb) ∧ (¬ (a = 0) → j_k (jmt 77) post cut n 8 ls r w cb sb)) ∧
  (∀ (r : List Value), j_go (jmt 77) post cut (n + 1) 8 ls r w cb sb ↔ g_ld ls[2]? (fun v => t_i v ∧ j_k (jmt 77) post cut n 9 ls (v :: r) w cb sb)) ∧
  (∀ (r : List Value) (a0 : Value), j_go (jmt 77) post cut (n + 1) 9 ls (a0 :: r) w cb sb ↔ j_w8 r ∧ g_call (jmt 6) [a0] w cb sb (fun v w' c s => j_k (jmt 77) post cut n 12 ls (v.toList ++ r) w' c s)) ∧
  (∀ (r : List Value) (a : Int32), j_go (jmt 77) post cut (n + 1) 12 ls (.int a :: r) w cb sb ↔ (a = 0 → j_k (jmt 77) post cut n 26 ls r w cb sb) ∧ (¬ (a = 0) → j_k (jmt 77) post cut n 15 ls r w cb sb)) ∧
  (∀ (r : List Value), j_go (jmt 77) post cut (n + 1) 15 ls r w cb sb ↔ g_ld ls[3]? (fun v => t_i v ∧ j_k (jmt 77) post cut n 16 ls (v :: r) w cb sb)) ∧
  (∀ (r : List Value), j_go (jmt 77) post cut (n + 1) 16 ls r w cb sb ↔ j_k (jmt 77) post cut n 17 ls (.int (Int32.ofInt 0) :: r) w cb sb) ∧
  (∀ (r : List Value), j_go (jmt 77) post cut (n + 1) 17 ls r w cb sb ↔ j_k (jmt 77) post cut n 20 ls (.int (Int16.ofInt 499).toInt32 :: r) w cb sb) ∧
  (∀ (r : List Value) (a0 a1 a2 : Value), j_go (jmt 77) post cut (n + 1) 20 ls (a2 :: a1 :: a0 :: r) w cb sb ↔ j_w8 r ∧ g_call (jmt 7) [a0, a1, a2] w cb sb (fun v w' c s => j_k (jmt 77) post cut n 23 ls (v.toList ++ r) w' c s)) ∧
  (∀ (r : List Value) (a : Int32), j_go (jmt 77) post cut (n + 1) 23 ls (.int a :: r) w cb sb ↔ (¬ a = 0 → j_k (jmt 77) post cut n 28 ls r w cb sb) ∧ (¬ (¬ a = 0) → j_k (jmt 77) post cut n 26 ls r w cb sb)) ∧
  (∀ (r : List Value), j_go (jmt 77) post cut (n + 1) 26 ls r w cb sb ↔ j_k (jmt 77) post cut n 27 ls (.int (Int32.ofInt 0) :: r) w cb sb) ∧
  (∀ (a : Int32), j_go (jmt 77) post cut (n + 1) 27 ls [.int a] w cb sb ↔ narrow .boolean (.int a) = .int a ∧ post (some (.int a)) w) ∧
  (∀ (r : List Value), j_go (jmt 77) post cut (n + 1) 28 ls r w cb sb ↔ g_ld ls[0]? (fun v => t_a v ∧ j_k (jmt 77) post cut n 29 ls (v :: r) w cb sb)) ∧
  (∀ (r : List Value) (a : Nat), j_go (jmt 77) post cut (n + 1) 29 ls (.ref a :: r) w cb sb ↔ g_ob 0 (w a) (fun fs => g_v fs[3]? (fun v => j_k (jmt 77) post cut n 32 ls (v :: r) w cb sb))) ∧
  (∀ (r : List Value), j_go (jmt 77) post cut (n + 1) 32 ls r w cb sb ↔ g_ld ls[1]? (fun v => t_i v ∧ j_k (jmt 77) post cut n 33 ls (v :: r) w cb sb)) ∧
  (∀ (r : List Value), j_go (jmt 77) post cut (n + 1) 33 ls r w cb sb ↔ j_k (jmt 77) post cut n 34 ls (.int (Int32.ofInt 1) :: r) w cb sb) ∧
  (∀ (r : List Value) (x y : Int32), j_go (jmt 77) post cut (n + 1) 34 ls (.int y :: .int x :: r) w cb sb ↔ j_k (jmt 77) post cut n 35 ls (.int (x - y) :: r) w cb sb) ∧
  (∀ (r : List Value) (a : Nat) (j : Int32), j_go (jmt 77) post cut (n + 1) 35 ls (.int j :: .ref a :: r) w cb sb ↔ g_qa 5 (w a) (fun m f => vp_in j m ∧ j_k (jmt 77) post cut n 36 ls (va_rf (f j.toNatClampNeg) :: r) w cb sb)) ∧
  (∀ (r : List Value), j_go (jmt 77) post cut (n + 1) 36 ls r w cb sb ↔ g_ld ls[2]? (fun v => t_i v ∧ j_k (jmt 77) post cut n 37 ls (v :: r) w cb sb)) ∧
  (∀ (r : List Value), j_go (jmt 77) post cut (n + 1) 37 ls r w cb sb ↔ g_ld ls[3]? (fun v => t_i v ∧ j_k (jmt 77) post cut n 38 ls (v :: r) w cb sb)) ∧
  (∀ (r : List Value) (a0 a1 : Value) (b : Nat), j_go (jmt 77) post cut (n + 1) 38 ls (a1 :: a0 :: .ref b :: r) w cb sb ↔ g_ob 6 (w b) (fun _ => True) ∧ j_w8 r ∧ g_call (jmt 78) [.ref b, a0, a1] w cb sb (fun v w' c s => j_k (jmt 77) post cut n 41 ls (v.toList ++ r) w' c s)) ∧
  (∀ (a : Int32), j_go (jmt 77) post cut (n + 1) 41 ls [.int a] w cb sb ↔ narrow .boolean (.int a) = .int a ∧ post (some (.int a)) w) := ⟨fun _ => (j_go_s rfl).trans e_aload_n,
  fun _ => (j_go_s rfl).trans e_iload_n,
  fun _ _ _ => (j_go_s rfl).trans e_callv,
  fun _ _ => (j_go_s rfl).trans e_if,
  fun _ => (j_go_s rfl).trans e_iload_n,
  fun _ _ => (j_go_s rfl).trans e_calls,
  fun _ _ => (j_go_s rfl).trans e_if,
  fun _ => (j_go_s rfl).trans e_iload_n,
  fun _ => (j_go_s rfl).trans e_iconst,
  fun _ => (j_go_s rfl).trans e_sipush,
  fun _ _ _ _ => (j_go_s rfl).trans e_calls,
  fun _ _ => (j_go_s rfl).trans e_if,
  fun _ => (j_go_s rfl).trans e_iconst,
  fun _ => (j_go_s rfl).trans e_iret,
  fun _ => (j_go_s rfl).trans e_aload_n,
  fun _ _ => (j_go_s rfl).trans e_getf,
  fun _ => (j_go_s rfl).trans e_iload_n,
  fun _ => (j_go_s rfl).trans e_iconst,
  fun _ _ _ => (j_go_s rfl).trans e_isub,
  fun _ _ _ => (j_go_s rfl).trans e_aald,
  fun _ => (j_go_s rfl).trans e_iload_n,
  fun _ => (j_go_s rfl).trans e_iload_n,
  fun _ _ _ _ => (j_go_s rfl).trans e_callv,
  fun _ => (j_go_s rfl).trans e_iret⟩
