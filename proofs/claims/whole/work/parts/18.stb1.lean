set_option maxRecDepth 100000 in
set_option maxHeartbeats 4000000 in
theorem st_Net_isLink {post : Option Value → jW → Prop} {cut : List Nat} {n : Nat} {ls : jL} {w : jW} {cb sb : Nat} : (∀ (r : List Value), j_go (jmt 23) post cut (n + 1) 0 ls r w cb sb ↔ g_ld ls[1]? (fun v => t_i v ∧ j_k (jmt 23) post cut n 1 ls (v :: r) w cb sb)) ∧
  (∀ (r : List Value), j_go (jmt 23) post cut (n + 1) 1 ls r w cb sb ↔ j_k (jmt 23) post cut n 2 ls (.int (Int32.ofInt 0) :: r) w cb sb) ∧
  (∀ (r : List Value), j_go (jmt 23) post cut (n + 1) 2 ls r w cb sb ↔ g_ld ls[0]? (fun v => t_a v ∧ j_k (jmt 23) post cut n 3 ls (v :: r) w cb sb)) ∧
  (∀ (r : List Value) (a : Nat), j_go (jmt 23) post cut (n + 1) 3 ls (.ref a :: r) w cb sb ↔ g_ob 0 (w a) (fun fs => g_v fs[6]? (fun v => j_k (jmt 23) post cut n 6 ls (v :: r) w cb sb))) ∧
  (∀ (r : List Value), j_go (jmt 23) post cut (n + 1) 6 ls r w cb sb ↔ j_k (jmt 23) post cut n 7 ls (.int (Int32.ofInt 1) :: r) w cb sb) ∧
  (∀ (r : List Value) (x y : Int32), j_go (jmt 23) post cut (n + 1) 7 ls (.int y :: .int x :: r) w cb sb ↔ j_k (jmt 23) post cut n 8 ls (.int (x - y) :: r) w cb sb) ∧
  (∀ (r : List Value) (a0 a1 a2 : Value), j_go (jmt 23) post cut (n + 1) 8 ls (a2 :: a1 :: a0 :: r) w cb sb ↔ j_w8 r ∧ g_call (jmt 7) [a0, a1, a2] w cb sb (fun v w' c s => j_k (jmt 23) post cut n 11 ls (v.toList ++ r) w' c s)) ∧
  (∀ (a : Int32), j_go (jmt 23) post cut (n + 1) 11 ls [.int a] w cb sb ↔ narrow .boolean (.int a) = .int a ∧ post (some (.int a)) w) := ⟨fun _ => (j_go_s rfl).trans e_iload_n,
  fun _ => (j_go_s rfl).trans e_iconst,
  fun _ => (j_go_s rfl).trans e_aload_n,
  fun _ _ => (j_go_s rfl).trans e_getf,
  fun _ => (j_go_s rfl).trans e_iconst,
  fun _ _ _ => (j_go_s rfl).trans e_isub,
  fun _ _ _ _ => (j_go_s rfl).trans e_calls,
  fun _ => (j_go_s rfl).trans e_iret⟩
set_option maxRecDepth 100000 in
set_option maxHeartbeats 4000000 in
theorem st_Net_mend {post : Option Value → jW → Prop} {cut : List Nat} {n : Nat} {ls : jL} {w : jW} {cb sb : Nat} : (∀ (r : List Value), j_go (jmt 25) post cut (n + 1) 0 ls r w cb sb ↔ g_ld ls[0]? (fun v => t_a v ∧ j_k (jmt 25) post cut n 1 ls (v :: r) w cb sb)) ∧
  (∀ (r : List Value), j_go (jmt 25) post cut (n + 1) 1 ls r w cb sb ↔ g_ld ls[1]? (fun v => t_i v ∧ j_k (jmt 25) post cut n 2 ls (v :: r) w cb sb)) ∧
  (∀ (r : List Value) (a0 : Value) (b : Nat), j_go (jmt 25) post cut (n + 1) 2 ls (a0 :: .ref b :: r) w cb sb ↔ g_ob 0 (w b) (fun _ => True) ∧ j_w8 r ∧ g_call (jmt 23) [.ref b, a0] w cb sb (fun v w' c s => j_k (jmt 25) post cut n 5 ls (v.toList ++ r) w' c s)) ∧
  (∀ (r : List Value) (a : Int32), j_go (jmt 25) post cut (n + 1) 5 ls (.int a :: r) w cb sb ↔ (a = 0 → j_k (jmt 25) post cut n 20 ls r w cb sb) ∧ (¬ (a = 0) → j_k (jmt 25) post cut n 8 ls r w cb sb)) ∧
  (∀ (r : List Value), j_go (jmt 25) post cut (n + 1) 8 ls r w cb sb ↔ g_ld ls[0]? (fun v => t_a v ∧ j_k (jmt 25) post cut n 9 ls (v :: r) w cb sb)) ∧
  (∀ (r : List Value) (a : Nat), j_go (jmt 25) post cut (n + 1) 9 ls (.ref a :: r) w cb sb ↔ g_ob 0 (w a) (fun fs => g_v fs[2]? (fun v => j_k (jmt 25) post cut n 12 ls (v :: r) w cb sb))) ∧
  (∀ (r : List Value), j_go (jmt 25) post cut (n + 1) 12 ls r w cb sb ↔ g_ld ls[1]? (fun v => t_i v ∧ j_k (jmt 25) post cut n 13 ls (v :: r) w cb sb)) ∧
  (∀ (r : List Value) (a : Nat) (j : Int32), j_go (jmt 25) post cut (n + 1) 13 ls (.int j :: .ref a :: r) w cb sb ↔ g_qa 4 (w a) (fun m f => vp_in j m ∧ j_k (jmt 25) post cut n 14 ls (va_rf (f j.toNatClampNeg) :: r) w cb sb)) ∧
  (∀ (r : List Value) (a : Nat), j_go (jmt 25) post cut (n + 1) 14 ls (.ref a :: r) w cb sb ↔ g_ob 2 (w a) (fun fs => g_v fs[6]? (fun v => j_k (jmt 25) post cut n 17 ls (v :: r) w cb sb))) ∧
  (∀ (r : List Value) (a : Int32), j_go (jmt 25) post cut (n + 1) 17 ls (.int a :: r) w cb sb ↔ (a = 0 → j_k (jmt 25) post cut n 22 ls r w cb sb) ∧ (¬ (a = 0) → j_k (jmt 25) post cut n 20 ls r w cb sb)) ∧
  (∀ (r : List Value), j_go (jmt 25) post cut (n + 1) 20 ls r w cb sb ↔ j_k (jmt 25) post cut n 21 ls (.int (Int32.ofInt (-1)) :: r) w cb sb) ∧
  (∀ (a : Int32), j_go (jmt 25) post cut (n + 1) 21 ls [.int a] w cb sb ↔ narrow .int (.int a) = .int a ∧ post (some (.int a)) w) ∧
  (∀ (r : List Value), j_go (jmt 25) post cut (n + 1) 22 ls r w cb sb ↔ g_ld ls[0]? (fun v => t_a v ∧ j_k (jmt 25) post cut n 23 ls (v :: r) w cb sb)) ∧
  (∀ (r : List Value), j_go (jmt 25) post cut (n + 1) 23 ls r w cb sb ↔ g_ld ls[0]? (fun v => t_a v ∧ j_k (jmt 25) post cut n 24 ls (v :: r) w cb sb)) ∧
  (∀ (r : List Value) (a : Nat), j_go (jmt 25) post cut (n + 1) 24 ls (.ref a :: r) w cb sb ↔ g_ob 0 (w a) (fun fs => g_v fs[2]? (fun v => j_k (jmt 25) post cut n 27 ls (v :: r) w cb sb))) ∧
  (∀ (r : List Value), j_go (jmt 25) post cut (n + 1) 27 ls r w cb sb ↔ g_ld ls[1]? (fun v => t_i v ∧ j_k (jmt 25) post cut n 28 ls (v :: r) w cb sb)) ∧
  (∀ (r : List Value) (a : Nat) (j : Int32), j_go (jmt 25) post cut (n + 1) 28 ls (.int j :: .ref a :: r) w cb sb ↔ g_qa 4 (w a) (fun m f => vp_in j m ∧ j_k (jmt 25) post cut n 29 ls (va_rf (f j.toNatClampNeg) :: r) w cb sb)) ∧
  (∀ (r : List Value) (a0 : Value) (b : Nat), j_go (jmt 25) post cut (n + 1) 29 ls (a0 :: .ref b :: r) w cb sb ↔ g_ob 0 (w b) (fun _ => True) ∧ j_w8 r ∧ g_call (jmt 10) [.ref b, a0] w cb sb (fun v w' c s => j_k (jmt 25) post cut n 32 ls (v.toList ++ r) w' c s)) ∧
  (∀ (r : List Value), j_go (jmt 25) post cut (n + 1) 32 ls r w cb sb ↔ j_k (jmt 25) post cut n 33 ls (.int (Int32.ofInt 0) :: r) w cb sb) ∧
  (∀ (a : Int32), j_go (jmt 25) post cut (n + 1) 33 ls [.int a] w cb sb ↔ narrow .int (.int a) = .int a ∧ post (some (.int a)) w) := ⟨fun _ => (j_go_s rfl).trans e_aload_n,
  fun _ => (j_go_s rfl).trans e_iload_n,
  fun _ _ _ => (j_go_s rfl).trans e_callv,
  fun _ _ => (j_go_s rfl).trans e_if,
  fun _ => (j_go_s rfl).trans e_aload_n,
  fun _ _ => (j_go_s rfl).trans e_getf,
  fun _ => (j_go_s rfl).trans e_iload_n,
  fun _ _ _ => (j_go_s rfl).trans e_aald,
  fun _ _ => (j_go_s rfl).trans e_getf,
  fun _ _ => (j_go_s rfl).trans e_if,
  fun _ => (j_go_s rfl).trans e_iconst,
  fun _ => (j_go_s rfl).trans e_iret,
  fun _ => (j_go_s rfl).trans e_aload_n,
  fun _ => (j_go_s rfl).trans e_aload_n,
  fun _ _ => (j_go_s rfl).trans e_getf,
  fun _ => (j_go_s rfl).trans e_iload_n,
  fun _ _ _ => (j_go_s rfl).trans e_aald,
  fun _ _ _ => (j_go_s rfl).trans e_callv,
  fun _ => (j_go_s rfl).trans e_iconst,
  fun _ => (j_go_s rfl).trans e_iret⟩
set_option maxRecDepth 100000 in
set_option maxHeartbeats 4000000 in
theorem st_Net_share {post : Option Value → jW → Prop} {cut : List Nat} {n : Nat} {ls : jL} {w : jW} {cb sb : Nat} : (∀ (r : List Value), j_go (jmt 26) post cut (n + 1) 0 ls r w cb sb ↔ g_ld ls[0]? (fun v => t_a v ∧ j_k (jmt 26) post cut n 1 ls (v :: r) w cb sb)) ∧
  (∀ (r : List Value), j_go (jmt 26) post cut (n + 1) 1 ls r w cb sb ↔ g_ld ls[1]? (fun v => t_i v ∧ j_k (jmt 26) post cut n 2 ls (v :: r) w cb sb)) ∧
  (∀ (r : List Value) (a0 : Value) (b : Nat), j_go (jmt 26) post cut (n + 1) 2 ls (a0 :: .ref b :: r) w cb sb ↔ g_ob 0 (w b) (fun _ => True) ∧ j_w8 r ∧ g_call (jmt 23) [.ref b, a0] w cb sb (fun v w' c s => j_k (jmt 26) post cut n 5 ls (v.toList ++ r) w' c s)) ∧
  (∀ (r : List Value) (a : Int32), j_go (jmt 26) post cut (n + 1) 5 ls (.int a :: r) w cb sb ↔ (a = 0 → j_k (jmt 26) post cut n 20 ls r w cb sb) ∧ (¬ (a = 0) → j_k (jmt 26) post cut n 8 ls r w cb sb)) ∧
  (∀ (r : List Value), j_go (jmt 26) post cut (n + 1) 8 ls r w cb sb ↔ g_ld ls[0]? (fun v => t_a v ∧ j_k (jmt 26) post cut n 9 ls (v :: r) w cb sb)) ∧
  (∀ (r : List Value) (a : Nat), j_go (jmt 26) post cut (n + 1) 9 ls (.ref a :: r) w cb sb ↔ g_ob 0 (w a) (fun fs => g_v fs[2]? (fun v => j_k (jmt 26) post cut n 12 ls (v :: r) w cb sb))) ∧
  (∀ (r : List Value), j_go (jmt 26) post cut (n + 1) 12 ls r w cb sb ↔ g_ld ls[1]? (fun v => t_i v ∧ j_k (jmt 26) post cut n 13 ls (v :: r) w cb sb)) ∧
  (∀ (r : List Value) (a : Nat) (j : Int32), j_go (jmt 26) post cut (n + 1) 13 ls (.int j :: .ref a :: r) w cb sb ↔ g_qa 4 (w a) (fun m f => vp_in j m ∧ j_k (jmt 26) post cut n 14 ls (va_rf (f j.toNatClampNeg) :: r) w cb sb)) ∧
  (∀ (r : List Value) (a : Nat), j_go (jmt 26) post cut (n + 1) 14 ls (.ref a :: r) w cb sb ↔ g_ob 2 (w a) (fun fs => g_v fs[6]? (fun v => j_k (jmt 26) post cut n 17 ls (v :: r) w cb sb))) ∧
  (∀ (r : List Value) (a : Int32), j_go (jmt 26) post cut (n + 1) 17 ls (.int a :: r) w cb sb ↔ (¬ a = 0 → j_k (jmt 26) post cut n 22 ls r w cb sb) ∧ (¬ (¬ a = 0) → j_k (jmt 26) post cut n 20 ls r w cb sb)) ∧
  (∀ (r : List Value), j_go (jmt 26) post cut (n + 1) 20 ls r w cb sb ↔ j_k (jmt 26) post cut n 21 ls (.int (Int32.ofInt (-1)) :: r) w cb sb) ∧
  (∀ (a : Int32), j_go (jmt 26) post cut (n + 1) 21 ls [.int a] w cb sb ↔ narrow .int (.int a) = .int a ∧ post (some (.int a)) w) ∧
  (∀ (r : List Value), j_go (jmt 26) post cut (n + 1) 22 ls r w cb sb ↔ g_ld ls[0]? (fun v => t_a v ∧ j_k (jmt 26) post cut n 23 ls (v :: r) w cb sb)) ∧
  (∀ (r : List Value), j_go (jmt 26) post cut (n + 1) 23 ls r w cb sb ↔ g_ld ls[0]? (fun v => t_a v ∧ j_k (jmt 26) post cut n 24 ls (v :: r) w cb sb)) ∧
  (∀ (r : List Value) (a : Nat), j_go (jmt 26) post cut (n + 1) 24 ls (.ref a :: r) w cb sb ↔ g_ob 0 (w a) (fun fs => g_v fs[2]? (fun v => j_k (jmt 26) post cut n 27 ls (v :: r) w cb sb))) ∧
  (∀ (r : List Value), j_go (jmt 26) post cut (n + 1) 27 ls r w cb sb ↔ g_ld ls[1]? (fun v => t_i v ∧ j_k (jmt 26) post cut n 28 ls (v :: r) w cb sb)) ∧
  (∀ (r : List Value) (a : Nat) (j : Int32), j_go (jmt 26) post cut (n + 1) 28 ls (.int j :: .ref a :: r) w cb sb ↔ g_qa 4 (w a) (fun m f => vp_in j m ∧ j_k (jmt 26) post cut n 29 ls (va_rf (f j.toNatClampNeg) :: r) w cb sb)) ∧
  (∀ (r : List Value) (a0 : Value) (b : Nat), j_go (jmt 26) post cut (n + 1) 29 ls (a0 :: .ref b :: r) w cb sb ↔ g_ob 0 (w b) (fun _ => True) ∧ j_w8 r ∧ g_call (jmt 20) [.ref b, a0] w cb sb (fun v w' c s => j_k (jmt 26) post cut n 32 ls (v.toList ++ r) w' c s)) ∧
  (∀ (r : List Value), j_go (jmt 26) post cut (n + 1) 32 ls r w cb sb ↔ j_k (jmt 26) post cut n 33 ls (.int (Int32.ofInt 0) :: r) w cb sb) ∧
  (∀ (a : Int32), j_go (jmt 26) post cut (n + 1) 33 ls [.int a] w cb sb ↔ narrow .int (.int a) = .int a ∧ post (some (.int a)) w) := ⟨fun _ => (j_go_s rfl).trans e_aload_n,
  fun _ => (j_go_s rfl).trans e_iload_n,
  fun _ _ _ => (j_go_s rfl).trans e_callv,
  fun _ _ => (j_go_s rfl).trans e_if,
  fun _ => (j_go_s rfl).trans e_aload_n,
  fun _ _ => (j_go_s rfl).trans e_getf,
  fun _ => (j_go_s rfl).trans e_iload_n,
  fun _ _ _ => (j_go_s rfl).trans e_aald,
  fun _ _ => (j_go_s rfl).trans e_getf,
  fun _ _ => (j_go_s rfl).trans e_if,
  fun _ => (j_go_s rfl).trans e_iconst,
  fun _ => (j_go_s rfl).trans e_iret,
  fun _ => (j_go_s rfl).trans e_aload_n,
  fun _ => (j_go_s rfl).trans e_aload_n,
  fun _ _ => (j_go_s rfl).trans e_getf,
  fun _ => (j_go_s rfl).trans e_iload_n,
  fun _ _ _ => (j_go_s rfl).trans e_aald,
  fun _ _ _ => (j_go_s rfl).trans e_callv,
  fun _ => (j_go_s rfl).trans e_iconst,
  fun _ => (j_go_s rfl).trans e_iret⟩
set_option maxRecDepth 100000 in
set_option maxHeartbeats 4000000 in
theorem st_Net_announce {post : Option Value → jW → Prop} {cut : List Nat} {n : Nat} {ls : jL} {w : jW} {cb sb : Nat} : (∀ (r : List Value), j_go (jmt 27) post cut (n + 1) 0 ls r w cb sb ↔ g_ld ls[1]? (fun v => t_i v ∧ j_k (jmt 27) post cut n 1 ls (v :: r) w cb sb)) ∧
  (∀ (r : List Value) (a0 : Value), j_go (jmt 27) post cut (n + 1) 1 ls (a0 :: r) w cb sb ↔ j_w8 r ∧ g_call (jmt 6) [a0] w cb sb (fun v w' c s => j_k (jmt 27) post cut n 4 ls (v.toList ++ r) w' c s)) ∧
  (∀ (r : List Value) (a : Int32), j_go (jmt 27) post cut (n + 1) 4 ls (.int a :: r) w cb sb ↔ (a = 0 → j_k (jmt 27) post cut n 24 ls r w cb sb) ∧ (¬ (a = 0) → j_k (jmt 27) post cut n 7 ls r w cb sb)) ∧
  (∀ (r : List Value), j_go (jmt 27) post cut (n + 1) 7 ls r w cb sb ↔ g_ld ls[2]? (fun v => t_i v ∧ j_k (jmt 27) post cut n 8 ls (v :: r) w cb sb)) ∧
  (∀ (r : List Value) (a0 : Value), j_go (jmt 27) post cut (n + 1) 8 ls (a0 :: r) w cb sb ↔ j_w8 r ∧ g_call (jmt 28) [a0] w cb sb (fun v w' c s => j_k (jmt 27) post cut n 11 ls (v.toList ++ r) w' c s)) ∧
  (∀ (r : List Value) (a : Int32), j_go (jmt 27) post cut (n + 1) 11 ls (.int a :: r) w cb sb ↔ (a = 0 → j_k (jmt 27) post cut n 24 ls r w cb sb) ∧ (¬ (a = 0) → j_k (jmt 27) post cut n 14 ls r w cb sb)) ∧
  (∀ (r : List Value), j_go (jmt 27) post cut (n + 1) 14 ls r w cb sb ↔ g_ld ls[3]? (fun v => t_i v ∧ j_k (jmt 27) post cut n 15 ls (v :: r) w cb sb)) ∧
  (∀ (r : List Value), j_go (jmt 27) post cut (n + 1) 15 ls r w cb sb ↔ j_k (jmt 27) post cut n 16 ls (.int (Int32.ofInt 0) :: r) w cb sb) ∧
  (∀ (r : List Value), j_go (jmt 27) post cut (n + 1) 16 ls r w cb sb ↔ j_k (jmt 27) post cut n 18 ls (.int (Int8.ofInt 8).toInt32 :: r) w cb sb) ∧
  (∀ (r : List Value) (a0 a1 a2 : Value), j_go (jmt 27) post cut (n + 1) 18 ls (a2 :: a1 :: a0 :: r) w cb sb ↔ j_w8 r ∧ g_call (jmt 7) [a0, a1, a2] w cb sb (fun v w' c s => j_k (jmt 27) post cut n 21 ls (v.toList ++ r) w' c s)) ∧
  (∀ (r : List Value) (a : Int32), j_go (jmt 27) post cut (n + 1) 21 ls (.int a :: r) w cb sb ↔ (¬ a = 0 → j_k (jmt 27) post cut n 26 ls r w cb sb) ∧ (¬ (¬ a = 0) → j_k (jmt 27) post cut n 24 ls r w cb sb)) ∧
  (∀ (r : List Value), j_go (jmt 27) post cut (n + 1) 24 ls r w cb sb ↔ j_k (jmt 27) post cut n 25 ls (.int (Int32.ofInt (-1)) :: r) w cb sb) ∧
  (∀ (a : Int32), j_go (jmt 27) post cut (n + 1) 25 ls [.int a] w cb sb ↔ narrow .int (.int a) = .int a ∧ post (some (.int a)) w) ∧
  (∀ (r : List Value), j_go (jmt 27) post cut (n + 1) 26 ls r w cb sb ↔ g_ld ls[0]? (fun v => t_a v ∧ j_k (jmt 27) post cut n 27 ls (v :: r) w cb sb)) ∧
  (∀ (r : List Value) (a : Nat), j_go (jmt 27) post cut (n + 1) 27 ls (.ref a :: r) w cb sb ↔ g_ob 0 (w a) (fun fs => g_v fs[1]? (fun v => j_k (jmt 27) post cut n 30 ls (v :: r) w cb sb))) ∧
  (∀ (r : List Value), j_go (jmt 27) post cut (n + 1) 30 ls r w cb sb ↔ g_ld ls[1]? (fun v => t_i v ∧ j_k (jmt 27) post cut n 31 ls (v :: r) w cb sb)) ∧
  (∀ (r : List Value) (a : Nat) (j : Int32), j_go (jmt 27) post cut (n + 1) 31 ls (.int j :: .ref a :: r) w cb sb ↔ g_qa 3 (w a) (fun m f => vp_in j m ∧ j_k (jmt 27) post cut n 32 ls (va_rf (f j.toNatClampNeg) :: r) w cb sb)) ∧
  (∀ (r : List Value) (v : Value), j_go (jmt 27) post cut (n + 1) 32 ls (v :: r) w cb sb ↔ (t_a v ∧ j_ok1 ls 4 = true) ∧ j_k (jmt 27) post cut n 34 (ls.set 4 (some v)) r w cb sb) ∧
  (∀ (r : List Value), j_go (jmt 27) post cut (n + 1) 34 ls r w cb sb ↔ g_ld ls[2]? (fun v => t_i v ∧ j_k (jmt 27) post cut n 35 ls (v :: r) w cb sb)) ∧
  (∀ (r : List Value), j_go (jmt 27) post cut (n + 1) 35 ls r w cb sb ↔ g_ld ls[3]? (fun v => t_i v ∧ j_k (jmt 27) post cut n 36 ls (v :: r) w cb sb)) ∧
  (∀ (r : List Value) (a0 a1 : Value), j_go (jmt 27) post cut (n + 1) 36 ls (a1 :: a0 :: r) w cb sb ↔ j_w8 r ∧ g_call (jmt 29) [a0, a1] w cb sb (fun v w' c s => j_k (jmt 27) post cut n 39 ls (v.toList ++ r) w' c s)) ∧
  (∀ (r : List Value) (x : Int32), j_go (jmt 27) post cut (n + 1) 39 ls (.int x :: r) w cb sb ↔ j_ok1 ls 5 = true ∧ j_k (jmt 27) post cut n 41 (ls.set 5 (some (.int x))) r w cb sb) ∧
  (∀ (r : List Value), j_go (jmt 27) post cut (n + 1) 41 ls r w cb sb ↔ g_ld ls[4]? (fun v => t_a v ∧ j_k (jmt 27) post cut n 43 ls (v :: r) w cb sb)) ∧
  (∀ (r : List Value), j_go (jmt 27) post cut (n + 1) 43 ls r w cb sb ↔ g_ld ls[5]? (fun v => t_i v ∧ j_k (jmt 27) post cut n 45 ls (v :: r) w cb sb)) ∧
  (∀ (r : List Value) (a0 : Value) (b : Nat), j_go (jmt 27) post cut (n + 1) 45 ls (a0 :: .ref b :: r) w cb sb ↔ g_ob 1 (w b) (fun _ => True) ∧ j_w8 r ∧ g_call (jmt 31) [.ref b, a0] w cb sb (fun v w' c s => j_k (jmt 27) post cut n 48 ls (v.toList ++ r) w' c s)) ∧
  (∀ (r : List Value) (a : Int32), j_go (jmt 27) post cut (n + 1) 48 ls (.int a :: r) w cb sb ↔ (a = 0 → j_k (jmt 27) post cut n 53 ls r w cb sb) ∧ (¬ (a = 0) → j_k (jmt 27) post cut n 51 ls r w cb sb)) ∧
  (∀ (r : List Value), j_go (jmt 27) post cut (n + 1) 51 ls r w cb sb ↔ j_k (jmt 27) post cut n 52 ls (.int (Int32.ofInt (-1)) :: r) w cb sb) ∧
  (∀ (a : Int32), j_go (jmt 27) post cut (n + 1) 52 ls [.int a] w cb sb ↔ narrow .int (.int a) = .int a ∧ post (some (.int a)) w) ∧
  (∀ (r : List Value), j_go (jmt 27) post cut (n + 1) 53 ls r w cb sb ↔ g_ld ls[4]? (fun v => t_a v ∧ j_k (jmt 27) post cut n 55 ls (v :: r) w cb sb)) ∧
  (∀ (r : List Value) (a : Nat), j_go (jmt 27) post cut (n + 1) 55 ls (.ref a :: r) w cb sb ↔ g_ob 1 (w a) (fun fs => g_v fs[2]? (fun v => j_k (jmt 27) post cut n 58 ls (v :: r) w cb sb))) ∧
  (∀ (r : List Value), j_go (jmt 27) post cut (n + 1) 58 ls r w cb sb ↔ j_k (jmt 27) post cut n 59 ls (.int (Int32.ofInt 3) :: r) w cb sb) ∧
  (∀ (r : List Value) (a b : Int32), j_go (jmt 27) post cut (n + 1) 59 ls (.int b :: .int a :: r) w cb sb ↔ (¬ a = b → j_k (jmt 27) post cut n 65 ls r w cb sb) ∧ (¬ (¬ a = b) → j_k (jmt 27) post cut n 62 ls r w cb sb)) ∧
  (∀ (r : List Value), j_go (jmt 27) post cut (n + 1) 62 ls r w cb sb ↔ j_k (jmt 27) post cut n 64 ls (.int (Int8.ofInt (-2)).toInt32 :: r) w cb sb) ∧
  (∀ (a : Int32), j_go (jmt 27) post cut (n + 1) 64 ls [.int a] w cb sb ↔ narrow .int (.int a) = .int a ∧ post (some (.int a)) w) ∧
  (∀ (r : List Value), j_go (jmt 27) post cut (n + 1) 65 ls r w cb sb ↔ g_ld ls[4]? (fun v => t_a v ∧ j_k (jmt 27) post cut n 67 ls (v :: r) w cb sb)) ∧
  (∀ (r : List Value) (a : Nat), j_go (jmt 27) post cut (n + 1) 67 ls (.ref a :: r) w cb sb ↔ g_ob 1 (w a) (fun fs => g_v fs[0]? (fun v => j_k (jmt 27) post cut n 70 ls (v :: r) w cb sb))) ∧
  (∀ (r : List Value), j_go (jmt 27) post cut (n + 1) 70 ls r w cb sb ↔ g_ld ls[4]? (fun v => t_a v ∧ j_k (jmt 27) post cut n 72 ls (v :: r) w cb sb)) ∧
  (∀ (r : List Value) (a : Nat), j_go (jmt 27) post cut (n + 1) 72 ls (.ref a :: r) w cb sb ↔ g_ob 1 (w a) (fun fs => g_v fs[2]? (fun v => j_k (jmt 27) post cut n 75 ls (v :: r) w cb sb))) ∧
  (∀ (r : List Value), j_go (jmt 27) post cut (n + 1) 75 ls r w cb sb ↔ g_ld ls[5]? (fun v => t_i v ∧ j_k (jmt 27) post cut n 77 ls (v :: r) w cb sb)) ∧
  (∀ (r : List Value) (a : Nat) (j v : Int32), j_go (jmt 27) post cut (n + 1) 77 ls (.int v :: .int j :: .ref a :: r) w cb sb ↔ g_ia 0 (w a) (fun m f => vp_in j m ∧ j_k (jmt 27) post cut n 78 ls r ((j_up w a (.inl (0, m, .inl (upd f j.toNatClampNeg v))))) cb sb)) ∧
  (∀ (r : List Value), j_go (jmt 27) post cut (n + 1) 78 ls r w cb sb ↔ g_ld ls[4]? (fun v => t_a v ∧ j_k (jmt 27) post cut n 80 ls (v :: r) w cb sb)) ∧
  (∀ (r : List Value) (v : Value), j_go (jmt 27) post cut (n + 1) 80 ls (v :: r) w cb sb ↔ v.category = 1 ∧ j_k (jmt 27) post cut n 81 ls (v :: v :: r) w cb sb) ∧
  (∀ (r : List Value) (a : Nat), j_go (jmt 27) post cut (n + 1) 81 ls (.ref a :: r) w cb sb ↔ g_ob 1 (w a) (fun fs => g_v fs[2]? (fun v => j_k (jmt 27) post cut n 84 ls (v :: r) w cb sb))) ∧
  (∀ (r : List Value), j_go (jmt 27) post cut (n + 1) 84 ls r w cb sb ↔ j_k (jmt 27) post cut n 85 ls (.int (Int32.ofInt 1) :: r) w cb sb) ∧
  (∀ (r : List Value) (x y : Int32), j_go (jmt 27) post cut (n + 1) 85 ls (.int y :: .int x :: r) w cb sb ↔ j_k (jmt 27) post cut n 86 ls (.int (x + y) :: r) w cb sb) ∧
  (∀ (r : List Value) (v : Value) (a : Nat), j_go (jmt 27) post cut (n + 1) 86 ls (v :: .ref a :: r) w cb sb ↔ g_ob 1 (w a) (fun fs => 2 < fs.length ∧ j_okv 0 v ∧ j_k (jmt 27) post cut n 89 ls r ((j_up w a (.inr (1, fs.set 2 v)))) cb sb)) ∧
  (∀ (r : List Value), j_go (jmt 27) post cut (n + 1) 89 ls r w cb sb ↔ g_ld ls[0]? (fun v => t_a v ∧ j_k (jmt 27) post cut n 90 ls (v :: r) w cb sb)) ∧
  (∀ (r : List Value), j_go (jmt 27) post cut (n + 1) 90 ls r w cb sb ↔ g_ld ls[1]? (fun v => t_i v ∧ j_k (jmt 27) post cut n 91 ls (v :: r) w cb sb)) ∧
  (∀ (r : List Value) (a0 : Value) (b : Nat), j_go (jmt 27) post cut (n + 1) 91 ls (a0 :: .ref b :: r) w cb sb ↔ g_ob 0 (w b) (fun _ => True) ∧ j_w8 r ∧ g_call (jmt 11) [.ref b, a0] w cb sb (fun v w' c s => j_k (jmt 27) post cut n 94 ls (v.toList ++ r) w' c s)) ∧
  (∀ (r : List Value), j_go (jmt 27) post cut (n + 1) 94 ls r w cb sb ↔ g_ld ls[4]? (fun v => t_a v ∧ j_k (jmt 27) post cut n 96 ls (v :: r) w cb sb)) ∧
  (∀ (r : List Value) (a : Nat), j_go (jmt 27) post cut (n + 1) 96 ls (.ref a :: r) w cb sb ↔ g_ob 1 (w a) (fun fs => g_v fs[2]? (fun v => j_k (jmt 27) post cut n 99 ls (v :: r) w cb sb))) ∧
  (∀ (a : Int32), j_go (jmt 27) post cut (n + 1) 99 ls [.int a] w cb sb ↔ narrow .int (.int a) = .int a ∧ post (some (.int a)) w) := ⟨fun _ => (j_go_s rfl).trans e_iload_n,
  fun _ _ => (j_go_s rfl).trans e_calls,
  fun _ _ => (j_go_s rfl).trans e_if,
  fun _ => (j_go_s rfl).trans e_iload_n,
  fun _ _ => (j_go_s rfl).trans e_calls,
  fun _ _ => (j_go_s rfl).trans e_if,
  fun _ => (j_go_s rfl).trans e_iload_n,
  fun _ => (j_go_s rfl).trans e_iconst,
  fun _ => (j_go_s rfl).trans e_bipush,
  fun _ _ _ _ => (j_go_s rfl).trans e_calls,
  fun _ _ => (j_go_s rfl).trans e_if,
  fun _ => (j_go_s rfl).trans e_iconst,
  fun _ => (j_go_s rfl).trans e_iret,
  fun _ => (j_go_s rfl).trans e_aload_n,
  fun _ _ => (j_go_s rfl).trans e_getf,
  fun _ => (j_go_s rfl).trans e_iload_n,
  fun _ _ _ => (j_go_s rfl).trans e_aald,
  fun _ _ => (j_go_s rfl).trans e_astore,
  fun _ => (j_go_s rfl).trans e_iload_n,
  fun _ => (j_go_s rfl).trans e_iload_n,
  fun _ _ _ => (j_go_s rfl).trans e_calls,
  fun _ _ => (j_go_s rfl).trans e_istore,
  fun _ => (j_go_s rfl).trans e_aload,
  fun _ => (j_go_s rfl).trans e_iload,
  fun _ _ _ => (j_go_s rfl).trans e_callv,
  fun _ _ => (j_go_s rfl).trans e_if,
  fun _ => (j_go_s rfl).trans e_iconst,
  fun _ => (j_go_s rfl).trans e_iret,
  fun _ => (j_go_s rfl).trans e_aload,
  fun _ _ => (j_go_s rfl).trans e_getf,
  fun _ => (j_go_s rfl).trans e_iconst,
  fun _ _ _ => (j_go_s rfl).trans e_icmp,
  fun _ => (j_go_s rfl).trans e_bipush,
  fun _ => (j_go_s rfl).trans e_iret,
  fun _ => (j_go_s rfl).trans e_aload,
  fun _ _ => (j_go_s rfl).trans e_getf,
  fun _ => (j_go_s rfl).trans e_aload,
  fun _ _ => (j_go_s rfl).trans e_getf,
  fun _ => (j_go_s rfl).trans e_iload,
  fun _ _ _ _ => (j_go_s rfl).trans e_iast,
  fun _ => (j_go_s rfl).trans e_aload,
  fun _ _ => (j_go_s rfl).trans e_dup,
  fun _ _ => (j_go_s rfl).trans e_getf,
  fun _ => (j_go_s rfl).trans e_iconst,
  fun _ _ _ => (j_go_s rfl).trans e_iadd,
  fun _ _ _ => (j_go_s rfl).trans e_putf,
  fun _ => (j_go_s rfl).trans e_aload_n,
  fun _ => (j_go_s rfl).trans e_iload_n,
  fun _ _ _ => (j_go_s rfl).trans e_callv,
  fun _ => (j_go_s rfl).trans e_aload,
  fun _ _ => (j_go_s rfl).trans e_getf,
  fun _ => (j_go_s rfl).trans e_iret⟩
set_option maxRecDepth 100000 in
set_option maxHeartbeats 4000000 in
theorem st_Net_isAddress {post : Option Value → jW → Prop} {cut : List Nat} {n : Nat} {ls : jL} {w : jW} {cb sb : Nat} : (∀ (r : List Value), j_go (jmt 28) post cut (n + 1) 0 ls r w cb sb ↔ g_ld ls[0]? (fun v => t_i v ∧ j_k (jmt 28) post cut n 1 ls (v :: r) w cb sb)) ∧
  (∀ (r : List Value), j_go (jmt 28) post cut (n + 1) 1 ls r w cb sb ↔ j_k (jmt 28) post cut n 2 ls (.int (Int32.ofInt 0) :: r) w cb sb) ∧
  (∀ (r : List Value), j_go (jmt 28) post cut (n + 1) 2 ls r w cb sb ↔ j_k (jmt 28) post cut n 5 ls (.int (Int16.ofInt 255).toInt32 :: r) w cb sb) ∧
  (∀ (r : List Value) (a0 a1 a2 : Value), j_go (jmt 28) post cut (n + 1) 5 ls (a2 :: a1 :: a0 :: r) w cb sb ↔ j_w8 r ∧ g_call (jmt 7) [a0, a1, a2] w cb sb (fun v w' c s => j_k (jmt 28) post cut n 8 ls (v.toList ++ r) w' c s)) ∧
  (∀ (a : Int32), j_go (jmt 28) post cut (n + 1) 8 ls [.int a] w cb sb ↔ narrow .boolean (.int a) = .int a ∧ post (some (.int a)) w) := ⟨fun _ => (j_go_s rfl).trans e_iload_n,
  fun _ => (j_go_s rfl).trans e_iconst,
  fun _ => (j_go_s rfl).trans e_sipush,
  fun _ _ _ _ => (j_go_s rfl).trans e_calls,
  fun _ => (j_go_s rfl).trans e_iret⟩
set_option maxRecDepth 100000 in
set_option maxHeartbeats 4000000 in
theorem st_Net_withdraw {post : Option Value → jW → Prop} {cut : List Nat} {n : Nat} {ls : jL} {w : jW} {cb sb : Nat} : (∀ (r : List Value), j_go (jmt 32) post cut (n + 1) 0 ls r w cb sb ↔ g_ld ls[1]? (fun v => t_i v ∧ j_k (jmt 32) post cut n 1 ls (v :: r) w cb sb)) ∧
  (∀ (r : List Value) (a0 : Value), j_go (jmt 32) post cut (n + 1) 1 ls (a0 :: r) w cb sb ↔ j_w8 r ∧ g_call (jmt 6) [a0] w cb sb (fun v w' c s => j_k (jmt 32) post cut n 4 ls (v.toList ++ r) w' c s)) ∧
  (∀ (r : List Value) (a : Int32), j_go (jmt 32) post cut (n + 1) 4 ls (.int a :: r) w cb sb ↔ (a = 0 → j_k (jmt 32) post cut n 26 ls r w cb sb) ∧ (¬ (a = 0) → j_k (jmt 32) post cut n 7 ls r w cb sb)) ∧
  (∀ (r : List Value), j_go (jmt 32) post cut (n + 1) 7 ls r w cb sb ↔ g_ld ls[2]? (fun v => t_i v ∧ j_k (jmt 32) post cut n 8 ls (v :: r) w cb sb)) ∧
  (∀ (r : List Value), j_go (jmt 32) post cut (n + 1) 8 ls r w cb sb ↔ j_k (jmt 32) post cut n 9 ls (.int (Int32.ofInt 0) :: r) w cb sb) ∧
  (∀ (r : List Value), j_go (jmt 32) post cut (n + 1) 9 ls r w cb sb ↔ g_ld ls[0]? (fun v => t_a v ∧ j_k (jmt 32) post cut n 10 ls (v :: r) w cb sb)) ∧
  (∀ (r : List Value) (a : Nat), j_go (jmt 32) post cut (n + 1) 10 ls (.ref a :: r) w cb sb ↔ g_ob 0 (w a) (fun fs => g_v fs[1]? (fun v => j_k (jmt 32) post cut n 13 ls (v :: r) w cb sb))) ∧
  (∀ (r : List Value), j_go (jmt 32) post cut (n + 1) 13 ls r w cb sb ↔ g_ld ls[1]? (fun v => t_i v ∧ j_k (jmt 32) post cut n 14 ls (v :: r) w cb sb)) ∧
  (∀ (r : List Value) (a : Nat) (j : Int32), j_go (jmt 32) post cut (n + 1) 14 ls (.int j :: .ref a :: r) w cb sb ↔ g_qa 3 (w a) (fun m f => vp_in j m ∧ j_k (jmt 32) post cut n 15 ls (va_rf (f j.toNatClampNeg) :: r) w cb sb)) ∧
  (∀ (r : List Value) (a : Nat), j_go (jmt 32) post cut (n + 1) 15 ls (.ref a :: r) w cb sb ↔ g_ob 1 (w a) (fun fs => g_v fs[2]? (fun v => j_k (jmt 32) post cut n 18 ls (v :: r) w cb sb))) ∧
  (∀ (r : List Value), j_go (jmt 32) post cut (n + 1) 18 ls r w cb sb ↔ j_k (jmt 32) post cut n 19 ls (.int (Int32.ofInt 1) :: r) w cb sb) ∧
  (∀ (r : List Value) (x y : Int32), j_go (jmt 32) post cut (n + 1) 19 ls (.int y :: .int x :: r) w cb sb ↔ j_k (jmt 32) post cut n 20 ls (.int (x - y) :: r) w cb sb) ∧
  (∀ (r : List Value) (a0 a1 a2 : Value), j_go (jmt 32) post cut (n + 1) 20 ls (a2 :: a1 :: a0 :: r) w cb sb ↔ j_w8 r ∧ g_call (jmt 7) [a0, a1, a2] w cb sb (fun v w' c s => j_k (jmt 32) post cut n 23 ls (v.toList ++ r) w' c s)) ∧
  (∀ (r : List Value) (a : Int32), j_go (jmt 32) post cut (n + 1) 23 ls (.int a :: r) w cb sb ↔ (¬ a = 0 → j_k (jmt 32) post cut n 28 ls r w cb sb) ∧ (¬ (¬ a = 0) → j_k (jmt 32) post cut n 26 ls r w cb sb)) ∧
  (∀ (r : List Value), j_go (jmt 32) post cut (n + 1) 26 ls r w cb sb ↔ j_k (jmt 32) post cut n 27 ls (.int (Int32.ofInt (-1)) :: r) w cb sb) ∧
  (∀ (a : Int32), j_go (jmt 32) post cut (n + 1) 27 ls [.int a] w cb sb ↔ narrow .int (.int a) = .int a ∧ post (some (.int a)) w) ∧
  (∀ (r : List Value), j_go (jmt 32) post cut (n + 1) 28 ls r w cb sb ↔ g_ld ls[0]? (fun v => t_a v ∧ j_k (jmt 32) post cut n 29 ls (v :: r) w cb sb)) ∧
  (∀ (r : List Value) (a : Nat), j_go (jmt 32) post cut (n + 1) 29 ls (.ref a :: r) w cb sb ↔ g_ob 0 (w a) (fun fs => g_v fs[1]? (fun v => j_k (jmt 32) post cut n 32 ls (v :: r) w cb sb))) ∧
  (∀ (r : List Value), j_go (jmt 32) post cut (n + 1) 32 ls r w cb sb ↔ g_ld ls[1]? (fun v => t_i v ∧ j_k (jmt 32) post cut n 33 ls (v :: r) w cb sb)) ∧
  (∀ (r : List Value) (a : Nat) (j : Int32), j_go (jmt 32) post cut (n + 1) 33 ls (.int j :: .ref a :: r) w cb sb ↔ g_qa 3 (w a) (fun m f => vp_in j m ∧ j_k (jmt 32) post cut n 34 ls (va_rf (f j.toNatClampNeg) :: r) w cb sb)) ∧
  (∀ (r : List Value), j_go (jmt 32) post cut (n + 1) 34 ls r w cb sb ↔ g_ld ls[2]? (fun v => t_i v ∧ j_k (jmt 32) post cut n 35 ls (v :: r) w cb sb)) ∧
  (∀ (r : List Value) (a0 : Value) (b : Nat), j_go (jmt 32) post cut (n + 1) 35 ls (a0 :: .ref b :: r) w cb sb ↔ g_ob 1 (w b) (fun _ => True) ∧ j_w8 r ∧ g_call (jmt 33) [.ref b, a0] w cb sb (fun v w' c s => j_k (jmt 32) post cut n 38 ls (v.toList ++ r) w' c s)) ∧
  (∀ (r : List Value), j_go (jmt 32) post cut (n + 1) 38 ls r w cb sb ↔ g_ld ls[0]? (fun v => t_a v ∧ j_k (jmt 32) post cut n 39 ls (v :: r) w cb sb)) ∧
  (∀ (r : List Value), j_go (jmt 32) post cut (n + 1) 39 ls r w cb sb ↔ g_ld ls[1]? (fun v => t_i v ∧ j_k (jmt 32) post cut n 40 ls (v :: r) w cb sb)) ∧
  (∀ (r : List Value) (a0 : Value) (b : Nat), j_go (jmt 32) post cut (n + 1) 40 ls (a0 :: .ref b :: r) w cb sb ↔ g_ob 0 (w b) (fun _ => True) ∧ j_w8 r ∧ g_call (jmt 11) [.ref b, a0] w cb sb (fun v w' c s => j_k (jmt 32) post cut n 43 ls (v.toList ++ r) w' c s)) ∧
  (∀ (r : List Value), j_go (jmt 32) post cut (n + 1) 43 ls r w cb sb ↔ g_ld ls[0]? (fun v => t_a v ∧ j_k (jmt 32) post cut n 44 ls (v :: r) w cb sb)) ∧
  (∀ (r : List Value) (a : Nat), j_go (jmt 32) post cut (n + 1) 44 ls (.ref a :: r) w cb sb ↔ g_ob 0 (w a) (fun fs => g_v fs[1]? (fun v => j_k (jmt 32) post cut n 47 ls (v :: r) w cb sb))) ∧
  (∀ (r : List Value), j_go (jmt 32) post cut (n + 1) 47 ls r w cb sb ↔ g_ld ls[1]? (fun v => t_i v ∧ j_k (jmt 32) post cut n 48 ls (v :: r) w cb sb)) ∧
  (∀ (r : List Value) (a : Nat) (j : Int32), j_go (jmt 32) post cut (n + 1) 48 ls (.int j :: .ref a :: r) w cb sb ↔ g_qa 3 (w a) (fun m f => vp_in j m ∧ j_k (jmt 32) post cut n 49 ls (va_rf (f j.toNatClampNeg) :: r) w cb sb)) ∧
  (∀ (r : List Value) (a : Nat), j_go (jmt 32) post cut (n + 1) 49 ls (.ref a :: r) w cb sb ↔ g_ob 1 (w a) (fun fs => g_v fs[2]? (fun v => j_k (jmt 32) post cut n 52 ls (v :: r) w cb sb))) ∧
  (∀ (a : Int32), j_go (jmt 32) post cut (n + 1) 52 ls [.int a] w cb sb ↔ narrow .int (.int a) = .int a ∧ post (some (.int a)) w) := ⟨fun _ => (j_go_s rfl).trans e_iload_n,
  fun _ _ => (j_go_s rfl).trans e_calls,
  fun _ _ => (j_go_s rfl).trans e_if,
  fun _ => (j_go_s rfl).trans e_iload_n,
  fun _ => (j_go_s rfl).trans e_iconst,
  fun _ => (j_go_s rfl).trans e_aload_n,
  fun _ _ => (j_go_s rfl).trans e_getf,
  fun _ => (j_go_s rfl).trans e_iload_n,
  fun _ _ _ => (j_go_s rfl).trans e_aald,
  fun _ _ => (j_go_s rfl).trans e_getf,
  fun _ => (j_go_s rfl).trans e_iconst,
  fun _ _ _ => (j_go_s rfl).trans e_isub,
  fun _ _ _ _ => (j_go_s rfl).trans e_calls,
  fun _ _ => (j_go_s rfl).trans e_if,
  fun _ => (j_go_s rfl).trans e_iconst,
  fun _ => (j_go_s rfl).trans e_iret,
  fun _ => (j_go_s rfl).trans e_aload_n,
  fun _ _ => (j_go_s rfl).trans e_getf,
  fun _ => (j_go_s rfl).trans e_iload_n,
  fun _ _ _ => (j_go_s rfl).trans e_aald,
  fun _ => (j_go_s rfl).trans e_iload_n,
  fun _ _ _ => (j_go_s rfl).trans e_callv,
  fun _ => (j_go_s rfl).trans e_aload_n,
  fun _ => (j_go_s rfl).trans e_iload_n,
  fun _ _ _ => (j_go_s rfl).trans e_callv,
  fun _ => (j_go_s rfl).trans e_aload_n,
  fun _ _ => (j_go_s rfl).trans e_getf,
  fun _ => (j_go_s rfl).trans e_iload_n,
  fun _ _ _ => (j_go_s rfl).trans e_aald,
  fun _ _ => (j_go_s rfl).trans e_getf,
  fun _ => (j_go_s rfl).trans e_iret⟩
set_option maxRecDepth 100000 in
set_option maxHeartbeats 4000000 in
theorem st_Net_take {post : Option Value → jW → Prop} {cut : List Nat} {n : Nat} {ls : jL} {w : jW} {cb sb : Nat} : (∀ (r : List Value), j_go (jmt 34) post cut (n + 1) 0 ls r w cb sb ↔ g_ld ls[0]? (fun v => t_a v ∧ j_k (jmt 34) post cut n 1 ls (v :: r) w cb sb)) ∧
  (∀ (r : List Value), j_go (jmt 34) post cut (n + 1) 1 ls r w cb sb ↔ g_ld ls[1]? (fun v => t_i v ∧ j_k (jmt 34) post cut n 2 ls (v :: r) w cb sb)) ∧
  (∀ (r : List Value), j_go (jmt 34) post cut (n + 1) 2 ls r w cb sb ↔ g_ld ls[2]? (fun v => t_i v ∧ j_k (jmt 34) post cut n 3 ls (v :: r) w cb sb)) ∧
  (∀ (r : List Value) (a0 a1 : Value) (b : Nat), j_go (jmt 34) post cut (n + 1) 3 ls (a1 :: a0 :: .ref b :: r) w cb sb ↔ g_ob 0 (w b) (fun _ => True) ∧ j_w8 r ∧ g_call (jmt 35) [.ref b, a0, a1] w cb sb (fun v w' c s => j_k (jmt 34) post cut n 6 ls (v.toList ++ r) w' c s)) ∧
  (∀ (r : List Value) (a : Int32), j_go (jmt 34) post cut (n + 1) 6 ls (.int a :: r) w cb sb ↔ (¬ a = 0 → j_k (jmt 34) post cut n 11 ls r w cb sb) ∧ (¬ (¬ a = 0) → j_k (jmt 34) post cut n 9 ls r w cb sb)) ∧
  (∀ (r : List Value), j_go (jmt 34) post cut (n + 1) 9 ls r w cb sb ↔ j_k (jmt 34) post cut n 10 ls (.int (Int32.ofInt (-1)) :: r) w cb sb) ∧
  (∀ (a : Int32), j_go (jmt 34) post cut (n + 1) 10 ls [.int a] w cb sb ↔ narrow .int (.int a) = .int a ∧ post (some (.int a)) w) ∧
  (∀ (r : List Value), j_go (jmt 34) post cut (n + 1) 11 ls r w cb sb ↔ g_ld ls[0]? (fun v => t_a v ∧ j_k (jmt 34) post cut n 12 ls (v :: r) w cb sb)) ∧
  (∀ (r : List Value) (a : Nat), j_go (jmt 34) post cut (n + 1) 12 ls (.ref a :: r) w cb sb ↔ g_ob 0 (w a) (fun fs => g_v fs[2]? (fun v => j_k (jmt 34) post cut n 15 ls (v :: r) w cb sb))) ∧
  (∀ (r : List Value), j_go (jmt 34) post cut (n + 1) 15 ls r w cb sb ↔ g_ld ls[1]? (fun v => t_i v ∧ j_k (jmt 34) post cut n 16 ls (v :: r) w cb sb)) ∧
  (∀ (r : List Value) (a : Nat) (j : Int32), j_go (jmt 34) post cut (n + 1) 16 ls (.int j :: .ref a :: r) w cb sb ↔ g_qa 4 (w a) (fun m f => vp_in j m ∧ j_k (jmt 34) post cut n 17 ls (va_rf (f j.toNatClampNeg) :: r) w cb sb)) ∧
  (∀ (r : List Value), j_go (jmt 34) post cut (n + 1) 17 ls r w cb sb ↔ g_ld ls[2]? (fun v => t_i v ∧ j_k (jmt 34) post cut n 18 ls (v :: r) w cb sb)) ∧
  (∀ (r : List Value) (a0 : Value) (b : Nat), j_go (jmt 34) post cut (n + 1) 18 ls (a0 :: .ref b :: r) w cb sb ↔ g_ob 2 (w b) (fun _ => True) ∧ j_w8 r ∧ g_call (jmt 36) [.ref b, a0] w cb sb (fun v w' c s => j_k (jmt 34) post cut n 21 ls (v.toList ++ r) w' c s)) ∧
  (∀ (r : List Value)  (b : Nat), j_go (jmt 34) post cut (n + 1) 21 ls (.ref b :: r) w cb sb ↔ g_ob 3 (w b) (fun _ => True) ∧ j_w8 r ∧ g_call (jmt 37) [.ref b] w cb sb (fun v w' c s => j_k (jmt 34) post cut n 24 ls (v.toList ++ r) w' c s)) ∧
  (∀ (r : List Value) (v : Value), j_go (jmt 34) post cut (n + 1) 24 ls (v :: r) w cb sb ↔ (t_a v ∧ j_ok1 ls 3 = true) ∧ j_k (jmt 34) post cut n 25 (ls.set 3 (some v)) r w cb sb) ∧
  (∀ (r : List Value), j_go (jmt 34) post cut (n + 1) 25 ls r w cb sb ↔ g_ld ls[3]? (fun v => t_a v ∧ j_k (jmt 34) post cut n 26 ls (v :: r) w cb sb)) ∧
  (∀ (r : List Value), j_go (jmt 34) post cut (n + 1) 26 ls (.null :: r) w cb sb ↔ j_k (jmt 34) post cut n 29 ls r w cb sb) ∧
  (∀ (r : List Value) (a : Nat), j_go (jmt 34) post cut (n + 1) 26 ls (.ref a :: r) w cb sb ↔ j_k (jmt 34) post cut n 31 ls r w cb sb) ∧
  (∀ (r : List Value), j_go (jmt 34) post cut (n + 1) 29 ls r w cb sb ↔ j_k (jmt 34) post cut n 30 ls (.int (Int32.ofInt (-1)) :: r) w cb sb) ∧
  (∀ (a : Int32), j_go (jmt 34) post cut (n + 1) 30 ls [.int a] w cb sb ↔ narrow .int (.int a) = .int a ∧ post (some (.int a)) w) ∧
  (∀ (r : List Value), j_go (jmt 34) post cut (n + 1) 31 ls r w cb sb ↔ g_ld ls[0]? (fun v => t_a v ∧ j_k (jmt 34) post cut n 32 ls (v :: r) w cb sb)) ∧
  (∀ (r : List Value), j_go (jmt 34) post cut (n + 1) 32 ls r w cb sb ↔ g_ld ls[0]? (fun v => t_a v ∧ j_k (jmt 34) post cut n 33 ls (v :: r) w cb sb)) ∧
  (∀ (r : List Value) (a : Nat), j_go (jmt 34) post cut (n + 1) 33 ls (.ref a :: r) w cb sb ↔ g_ob 0 (w a) (fun fs => g_v fs[2]? (fun v => j_k (jmt 34) post cut n 36 ls (v :: r) w cb sb))) ∧
  (∀ (r : List Value), j_go (jmt 34) post cut (n + 1) 36 ls r w cb sb ↔ g_ld ls[1]? (fun v => t_i v ∧ j_k (jmt 34) post cut n 37 ls (v :: r) w cb sb)) ∧
  (∀ (r : List Value) (a : Nat) (j : Int32), j_go (jmt 34) post cut (n + 1) 37 ls (.int j :: .ref a :: r) w cb sb ↔ g_qa 4 (w a) (fun m f => vp_in j m ∧ j_k (jmt 34) post cut n 38 ls (va_rf (f j.toNatClampNeg) :: r) w cb sb)) ∧
  (∀ (r : List Value), j_go (jmt 34) post cut (n + 1) 38 ls r w cb sb ↔ g_ld ls[2]? (fun v => t_i v ∧ j_k (jmt 34) post cut n 39 ls (v :: r) w cb sb)) ∧
  (∀ (r : List Value) (a0 : Value) (b : Nat), j_go (jmt 34) post cut (n + 1) 39 ls (a0 :: .ref b :: r) w cb sb ↔ g_ob 2 (w b) (fun _ => True) ∧ j_w8 r ∧ g_call (jmt 38) [.ref b, a0] w cb sb (fun v w' c s => j_k (jmt 34) post cut n 42 ls (v.toList ++ r) w' c s)) ∧
  (∀ (r : List Value), j_go (jmt 34) post cut (n + 1) 42 ls r w cb sb ↔ g_ld ls[1]? (fun v => t_i v ∧ j_k (jmt 34) post cut n 43 ls (v :: r) w cb sb)) ∧
  (∀ (r : List Value), j_go (jmt 34) post cut (n + 1) 43 ls r w cb sb ↔ g_ld ls[3]? (fun v => t_a v ∧ j_k (jmt 34) post cut n 44 ls (v :: r) w cb sb)) ∧
  (∀ (r : List Value) (a0 a1 a2 : Value) (b : Nat), j_go (jmt 34) post cut (n + 1) 44 ls (a2 :: a1 :: a0 :: .ref b :: r) w cb sb ↔ g_ob 0 (w b) (fun _ => True) ∧ j_w8 r ∧ g_call (jmt 39) [.ref b, a0, a1, a2] w cb sb (fun v w' c s => j_k (jmt 34) post cut n 47 ls (v.toList ++ r) w' c s)) ∧
  (∀ (r : List Value), j_go (jmt 34) post cut (n + 1) 47 ls r w cb sb ↔ g_ld ls[3]? (fun v => t_a v ∧ j_k (jmt 34) post cut n 48 ls (v :: r) w cb sb)) ∧
  (∀ (r : List Value) (a : Nat), j_go (jmt 34) post cut (n + 1) 48 ls (.ref a :: r) w cb sb ↔ g_ob 4 (w a) (fun fs => g_v fs[0]? (fun v => j_k (jmt 34) post cut n 51 ls (v :: r) w cb sb))) ∧
  (∀ (a : Int32), j_go (jmt 34) post cut (n + 1) 51 ls [.int a] w cb sb ↔ narrow .int (.int a) = .int a ∧ post (some (.int a)) w) := ⟨fun _ => (j_go_s rfl).trans e_aload_n,
  fun _ => (j_go_s rfl).trans e_iload_n,
  fun _ => (j_go_s rfl).trans e_iload_n,
  fun _ _ _ _ => (j_go_s rfl).trans e_callv,
  fun _ _ => (j_go_s rfl).trans e_if,
  fun _ => (j_go_s rfl).trans e_iconst,
  fun _ => (j_go_s rfl).trans e_iret,
  fun _ => (j_go_s rfl).trans e_aload_n,
  fun _ _ => (j_go_s rfl).trans e_getf,
  fun _ => (j_go_s rfl).trans e_iload_n,
  fun _ _ _ => (j_go_s rfl).trans e_aald,
  fun _ => (j_go_s rfl).trans e_iload_n,
  fun _ _ _ => (j_go_s rfl).trans e_callv,
  fun _ _ => (j_go_s rfl).trans e_callv,
  fun _ _ => (j_go_s rfl).trans e_astore_n,
  fun _ => (j_go_s rfl).trans e_aload_n,
  fun _ => (j_go_s rfl).trans e_ifnonnull_n,
  fun _ _ => (j_go_s rfl).trans e_ifnonnull_r,
  fun _ => (j_go_s rfl).trans e_iconst,
  fun _ => (j_go_s rfl).trans e_iret,
  fun _ => (j_go_s rfl).trans e_aload_n,
  fun _ => (j_go_s rfl).trans e_aload_n,
  fun _ _ => (j_go_s rfl).trans e_getf,
  fun _ => (j_go_s rfl).trans e_iload_n,
  fun _ _ _ => (j_go_s rfl).trans e_aald,
  fun _ => (j_go_s rfl).trans e_iload_n,
  fun _ _ _ => (j_go_s rfl).trans e_callv,
  fun _ => (j_go_s rfl).trans e_iload_n,
  fun _ => (j_go_s rfl).trans e_aload_n,
  fun _ _ _ _ _ => (j_go_s rfl).trans e_callv,
  fun _ => (j_go_s rfl).trans e_aload_n,
  fun _ _ => (j_go_s rfl).trans e_getf,
  fun _ => (j_go_s rfl).trans e_iret⟩
set_option maxRecDepth 100000 in
set_option maxHeartbeats 4000000 in
theorem st_Net_isLane {post : Option Value → jW → Prop} {cut : List Nat} {n : Nat} {ls : jL} {w : jW} {cb sb : Nat} : (∀ (r : List Value), j_go (jmt 35) post cut (n + 1) 0 ls r w cb sb ↔ g_ld ls[0]? (fun v => t_a v ∧ j_k (jmt 35) post cut n 1 ls (v :: r) w cb sb)) ∧
  (∀ (r : List Value), j_go (jmt 35) post cut (n + 1) 1 ls r w cb sb ↔ g_ld ls[1]? (fun v => t_i v ∧ j_k (jmt 35) post cut n 2 ls (v :: r) w cb sb)) ∧
  (∀ (r : List Value) (a0 : Value) (b : Nat), j_go (jmt 35) post cut (n + 1) 2 ls (a0 :: .ref b :: r) w cb sb ↔ g_ob 0 (w b) (fun _ => True) ∧ j_w8 r ∧ g_call (jmt 23) [.ref b, a0] w cb sb (fun v w' c s => j_k (jmt 35) post cut n 5 ls (v.toList ++ r) w' c s)) ∧
  (∀ (r : List Value) (a : Int32), j_go (jmt 35) post cut (n + 1) 5 ls (.int a :: r) w cb sb ↔ (a = 0 → j_k (jmt 35) post cut n 21 ls r w cb sb) ∧ (¬ (a = 0) → j_k (jmt 35) post cut n 8 ls r w cb sb)) ∧
  (∀ (r : List Value), j_go (jmt 35) post cut (n + 1) 8 ls r w cb sb ↔ g_ld ls[2]? (fun v => t_i v ∧ j_k (jmt 35) post cut n 9 ls (v :: r) w cb sb)) ∧
  (∀ (r : List Value), j_go (jmt 35) post cut (n + 1) 9 ls r w cb sb ↔ j_k (jmt 35) post cut n 10 ls (.int (Int32.ofInt 0) :: r) w cb sb) ∧
  (∀ (r : List Value), j_go (jmt 35) post cut (n + 1) 10 ls r w cb sb ↔ j_k (jmt 35) post cut n 11 ls (.int (Int32.ofInt 1) :: r) w cb sb) ∧
  (∀ (r : List Value) (a0 a1 a2 : Value), j_go (jmt 35) post cut (n + 1) 11 ls (a2 :: a1 :: a0 :: r) w cb sb ↔ j_w8 r ∧ g_call (jmt 7) [a0, a1, a2] w cb sb (fun v w' c s => j_k (jmt 35) post cut n 14 ls (v.toList ++ r) w' c s)) ∧
  (∀ (r : List Value) (a : Int32), j_go (jmt 35) post cut (n + 1) 14 ls (.int a :: r) w cb sb ↔ (a = 0 → j_k (jmt 35) post cut n 21 ls r w cb sb) ∧ (¬ (a = 0) → j_k (jmt 35) post cut n 17 ls r w cb sb)) ∧
  (∀ (r : List Value), j_go (jmt 35) post cut (n + 1) 17 ls r w cb sb ↔ j_k (jmt 35) post cut n 18 ls (.int (Int32.ofInt 1) :: r) w cb sb) ∧
  (∀ (r : List Value), j_go (jmt 35) post cut (n + 1) 18 ls r w cb sb ↔ j_k (jmt 35) post cut n 22 ls r w cb sb) ∧
  (∀ (r : List Value), j_go (jmt 35) post cut (n + 1) 21 ls r w cb sb ↔ j_k (jmt 35) post cut n 22 ls (.int (Int32.ofInt 0) :: r) w cb sb) ∧
  (∀ (a : Int32), j_go (jmt 35) post cut (n + 1) 22 ls [.int a] w cb sb ↔ narrow .boolean (.int a) = .int a ∧ post (some (.int a)) w) := ⟨fun _ => (j_go_s rfl).trans e_aload_n,
  fun _ => (j_go_s rfl).trans e_iload_n,
  fun _ _ _ => (j_go_s rfl).trans e_callv,
  fun _ _ => (j_go_s rfl).trans e_if,
  fun _ => (j_go_s rfl).trans e_iload_n,
  fun _ => (j_go_s rfl).trans e_iconst,
  fun _ => (j_go_s rfl).trans e_iconst,
  fun _ _ _ _ => (j_go_s rfl).trans e_calls,
  fun _ _ => (j_go_s rfl).trans e_if,
  fun _ => (j_go_s rfl).trans e_iconst,
  fun _ => (j_go_s rfl).trans e_goto,
  fun _ => (j_go_s rfl).trans e_iconst,
  fun _ => (j_go_s rfl).trans e_iret⟩
set_option maxRecDepth 100000 in
set_option maxHeartbeats 4000000 in
theorem st_Net_receive {post : Option Value → jW → Prop} {cut : List Nat} {n : Nat} {ls : jL} {w : jW} {cb sb : Nat} : (∀ (r : List Value), j_go (jmt 39) post cut (n + 1) 0 ls r w cb sb ↔ g_ld ls[0]? (fun v => t_a v ∧ j_k (jmt 39) post cut n 1 ls (v :: r) w cb sb)) ∧
  (∀ (r : List Value) (a : Nat), j_go (jmt 39) post cut (n + 1) 1 ls (.ref a :: r) w cb sb ↔ g_ob 0 (w a) (fun fs => g_v fs[1]? (fun v => j_k (jmt 39) post cut n 4 ls (v :: r) w cb sb))) ∧
  (∀ (r : List Value), j_go (jmt 39) post cut (n + 1) 4 ls r w cb sb ↔ g_ld ls[1]? (fun v => t_i v ∧ j_k (jmt 39) post cut n 5 ls (v :: r) w cb sb)) ∧
  (∀ (r : List Value) (a : Nat) (j : Int32), j_go (jmt 39) post cut (n + 1) 5 ls (.int j :: .ref a :: r) w cb sb ↔ g_qa 3 (w a) (fun m f => vp_in j m ∧ j_k (jmt 39) post cut n 6 ls (va_rf (f j.toNatClampNeg) :: r) w cb sb)) ∧
  (∀ (r : List Value) (a : Nat), j_go (jmt 39) post cut (n + 1) 6 ls (.ref a :: r) w cb sb ↔ g_ob 1 (w a) (fun fs => g_v fs[1]? (fun v => j_k (jmt 39) post cut n 9 ls (v :: r) w cb sb))) ∧
  (∀ (r : List Value) (v : Value), j_go (jmt 39) post cut (n + 1) 9 ls (v :: r) w cb sb ↔ (t_a v ∧ j_ok1 ls 4 = true) ∧ j_k (jmt 39) post cut n 11 (ls.set 4 (some v)) r w cb sb) ∧
  (∀ (r : List Value), j_go (jmt 39) post cut (n + 1) 11 ls r w cb sb ↔ g_ld ls[4]? (fun v => t_a v ∧ j_k (jmt 39) post cut n 13 ls (v :: r) w cb sb)) ∧
  (∀ (r : List Value), j_go (jmt 39) post cut (n + 1) 13 ls r w cb sb ↔ g_ld ls[3]? (fun v => t_a v ∧ j_k (jmt 39) post cut n 14 ls (v :: r) w cb sb)) ∧
  (∀ (r : List Value) (a : Nat), j_go (jmt 39) post cut (n + 1) 14 ls (.ref a :: r) w cb sb ↔ g_ob 4 (w a) (fun fs => g_v fs[0]? (fun v => j_k (jmt 39) post cut n 17 ls (v :: r) w cb sb))) ∧
  (∀ (r : List Value) (a : Nat) (j : Int32), j_go (jmt 39) post cut (n + 1) 17 ls (.int j :: .ref a :: r) w cb sb ↔ g_qa 7 (w a) (fun m f => vp_in j m ∧ j_k (jmt 39) post cut n 18 ls (va_rf (f j.toNatClampNeg) :: r) w cb sb)) ∧
  (∀ (r : List Value) (v : Value), j_go (jmt 39) post cut (n + 1) 18 ls (v :: r) w cb sb ↔ (t_a v ∧ j_ok1 ls 5 = true) ∧ j_k (jmt 39) post cut n 20 (ls.set 5 (some v)) r w cb sb) ∧
  (∀ (r : List Value), j_go (jmt 39) post cut (n + 1) 20 ls r w cb sb ↔ g_ld ls[5]? (fun v => t_a v ∧ j_k (jmt 39) post cut n 22 ls (v :: r) w cb sb)) ∧
  (∀ (r : List Value), j_go (jmt 39) post cut (n + 1) 22 ls (.null :: r) w cb sb ↔ j_k (jmt 39) post cut n 37 ls r w cb sb) ∧
  (∀ (r : List Value) (a : Nat), j_go (jmt 39) post cut (n + 1) 22 ls (.ref a :: r) w cb sb ↔ j_k (jmt 39) post cut n 25 ls r w cb sb) ∧
  (∀ (r : List Value), j_go (jmt 39) post cut (n + 1) 25 ls r w cb sb ↔ g_ld ls[5]? (fun v => t_a v ∧ j_k (jmt 39) post cut n 27 ls (v :: r) w cb sb)) ∧
  (∀ (r : List Value) (a : Nat), j_go (jmt 39) post cut (n + 1) 27 ls (.ref a :: r) w cb sb ↔ g_ob 4 (w a) (fun fs => g_v fs[1]? (fun v => j_k (jmt 39) post cut n 30 ls (v :: r) w cb sb))) ∧
  (∀ (r : List Value), j_go (jmt 39) post cut (n + 1) 30 ls r w cb sb ↔ g_ld ls[3]? (fun v => t_a v ∧ j_k (jmt 39) post cut n 31 ls (v :: r) w cb sb)) ∧
  (∀ (r : List Value) (a : Nat), j_go (jmt 39) post cut (n + 1) 31 ls (.ref a :: r) w cb sb ↔ g_ob 4 (w a) (fun fs => g_v fs[1]? (fun v => j_k (jmt 39) post cut n 34 ls (v :: r) w cb sb))) ∧
  (∀ (r : List Value) (a b : Int32), j_go (jmt 39) post cut (n + 1) 34 ls (.int b :: .int a :: r) w cb sb ↔ (b ≤ a → j_k (jmt 39) post cut n 55 ls r w cb sb) ∧ (¬ (b ≤ a) → j_k (jmt 39) post cut n 37 ls r w cb sb)) ∧
  (∀ (r : List Value), j_go (jmt 39) post cut (n + 1) 37 ls r w cb sb ↔ g_ld ls[4]? (fun v => t_a v ∧ j_k (jmt 39) post cut n 39 ls (v :: r) w cb sb)) ∧
  (∀ (r : List Value), j_go (jmt 39) post cut (n + 1) 39 ls r w cb sb ↔ g_ld ls[3]? (fun v => t_a v ∧ j_k (jmt 39) post cut n 40 ls (v :: r) w cb sb)) ∧
  (∀ (r : List Value) (a : Nat), j_go (jmt 39) post cut (n + 1) 40 ls (.ref a :: r) w cb sb ↔ g_ob 4 (w a) (fun fs => g_v fs[0]? (fun v => j_k (jmt 39) post cut n 43 ls (v :: r) w cb sb))) ∧
  (∀ (r : List Value), j_go (jmt 39) post cut (n + 1) 43 ls r w cb sb ↔ g_ld ls[3]? (fun v => t_a v ∧ j_k (jmt 39) post cut n 44 ls (v :: r) w cb sb)) ∧
  (∀ (r : List Value) (a v : Nat) (j : Int32), j_go (jmt 39) post cut (n + 1) 44 ls (.ref v :: .int j :: .ref a :: r) w cb sb ↔ g_qa 7 (w a) (fun m f => vp_in j m ∧ g_ob 4 (w v) (fun _ => j_k (jmt 39) post cut n 45 ls r ((j_up w a (.inl (7, m, .inr (.inr (.inr (.inr (va_up f j.toNatClampNeg (some v))))))))) cb sb))) ∧
  (∀ (r : List Value), j_go (jmt 39) post cut (n + 1) 45 ls r w cb sb ↔ g_ld ls[0]? (fun v => t_a v ∧ j_k (jmt 39) post cut n 46 ls (v :: r) w cb sb)) ∧
  (∀ (r : List Value), j_go (jmt 39) post cut (n + 1) 46 ls r w cb sb ↔ g_ld ls[1]? (fun v => t_i v ∧ j_k (jmt 39) post cut n 47 ls (v :: r) w cb sb)) ∧
  (∀ (r : List Value), j_go (jmt 39) post cut (n + 1) 47 ls r w cb sb ↔ g_ld ls[3]? (fun v => t_a v ∧ j_k (jmt 39) post cut n 48 ls (v :: r) w cb sb)) ∧
  (∀ (r : List Value), j_go (jmt 39) post cut (n + 1) 48 ls r w cb sb ↔ g_ld ls[2]? (fun v => t_i v ∧ j_k (jmt 39) post cut n 49 ls (v :: r) w cb sb)) ∧
  (∀ (r : List Value) (a0 a1 a2 : Value) (b : Nat), j_go (jmt 39) post cut (n + 1) 49 ls (a2 :: a1 :: a0 :: .ref b :: r) w cb sb ↔ g_ob 0 (w b) (fun _ => True) ∧ j_w8 r ∧ g_call (jmt 17) [.ref b, a0, a1, a2] w cb sb (fun v w' c s => j_k (jmt 39) post cut n 52 ls (v.toList ++ r) w' c s)) ∧
  (∀ (r : List Value), j_go (jmt 39) post cut (n + 1) 52 ls r w cb sb ↔ j_k (jmt 39) post cut n 82 ls r w cb sb) ∧
  (∀ (r : List Value), j_go (jmt 39) post cut (n + 1) 55 ls r w cb sb ↔ g_ld ls[5]? (fun v => t_a v ∧ j_k (jmt 39) post cut n 57 ls (v :: r) w cb sb)) ∧
  (∀ (r : List Value) (a : Nat), j_go (jmt 39) post cut (n + 1) 57 ls (.ref a :: r) w cb sb ↔ g_ob 4 (w a) (fun fs => g_v fs[1]? (fun v => j_k (jmt 39) post cut n 60 ls (v :: r) w cb sb))) ∧
  (∀ (r : List Value), j_go (jmt 39) post cut (n + 1) 60 ls r w cb sb ↔ g_ld ls[3]? (fun v => t_a v ∧ j_k (jmt 39) post cut n 61 ls (v :: r) w cb sb)) ∧
  (∀ (r : List Value) (a : Nat), j_go (jmt 39) post cut (n + 1) 61 ls (.ref a :: r) w cb sb ↔ g_ob 4 (w a) (fun fs => g_v fs[1]? (fun v => j_k (jmt 39) post cut n 64 ls (v :: r) w cb sb))) ∧
  (∀ (r : List Value) (a b : Int32), j_go (jmt 39) post cut (n + 1) 64 ls (.int b :: .int a :: r) w cb sb ↔ (a ≤ b → j_k (jmt 39) post cut n 82 ls r w cb sb) ∧ (¬ (a ≤ b) → j_k (jmt 39) post cut n 67 ls r w cb sb)) ∧
  (∀ (r : List Value), j_go (jmt 39) post cut (n + 1) 67 ls r w cb sb ↔ g_ld ls[0]? (fun v => t_a v ∧ j_k (jmt 39) post cut n 68 ls (v :: r) w cb sb)) ∧
  (∀ (r : List Value) (a : Nat), j_go (jmt 39) post cut (n + 1) 68 ls (.ref a :: r) w cb sb ↔ g_ob 0 (w a) (fun fs => g_v fs[2]? (fun v => j_k (jmt 39) post cut n 71 ls (v :: r) w cb sb))) ∧
  (∀ (r : List Value), j_go (jmt 39) post cut (n + 1) 71 ls r w cb sb ↔ g_ld ls[2]? (fun v => t_i v ∧ j_k (jmt 39) post cut n 72 ls (v :: r) w cb sb)) ∧
  (∀ (r : List Value) (a : Nat) (j : Int32), j_go (jmt 39) post cut (n + 1) 72 ls (.int j :: .ref a :: r) w cb sb ↔ g_qa 4 (w a) (fun m f => vp_in j m ∧ j_k (jmt 39) post cut n 73 ls (va_rf (f j.toNatClampNeg) :: r) w cb sb)) ∧
  (∀ (r : List Value), j_go (jmt 39) post cut (n + 1) 73 ls r w cb sb ↔ g_ld ls[1]? (fun v => t_i v ∧ j_k (jmt 39) post cut n 74 ls (v :: r) w cb sb)) ∧
  (∀ (r : List Value) (a0 : Value) (b : Nat), j_go (jmt 39) post cut (n + 1) 74 ls (a0 :: .ref b :: r) w cb sb ↔ g_ob 2 (w b) (fun _ => True) ∧ j_w8 r ∧ g_call (jmt 18) [.ref b, a0] w cb sb (fun v w' c s => j_k (jmt 39) post cut n 77 ls (v.toList ++ r) w' c s)) ∧
  (∀ (r : List Value), j_go (jmt 39) post cut (n + 1) 77 ls r w cb sb ↔ g_ld ls[5]? (fun v => t_a v ∧ j_k (jmt 39) post cut n 79 ls (v :: r) w cb sb)) ∧
  (∀ (r : List Value) (a0 : Value) (b : Nat), j_go (jmt 39) post cut (n + 1) 79 ls (a0 :: .ref b :: r) w cb sb ↔ g_ob 3 (w b) (fun _ => True) ∧ j_w8 r ∧ g_call (jmt 19) [.ref b, a0] w cb sb (fun v w' c s => j_k (jmt 39) post cut n 82 ls (v.toList ++ r) w' c s)) ∧
  (j_go (jmt 39) post cut (n + 1) 82 ls [] w cb sb ↔ post none w) := ⟨fun _ => (j_go_s rfl).trans e_aload_n,
  fun _ _ => (j_go_s rfl).trans e_getf,
  fun _ => (j_go_s rfl).trans e_iload_n,
  fun _ _ _ => (j_go_s rfl).trans e_aald,
  fun _ _ => (j_go_s rfl).trans e_getf,
  fun _ _ => (j_go_s rfl).trans e_astore,
  fun _ => (j_go_s rfl).trans e_aload,
  fun _ => (j_go_s rfl).trans e_aload_n,
  fun _ _ => (j_go_s rfl).trans e_getf,
  fun _ _ _ => (j_go_s rfl).trans e_aald,
  fun _ _ => (j_go_s rfl).trans e_astore,
  fun _ => (j_go_s rfl).trans e_aload,
  fun _ => (j_go_s rfl).trans e_ifnull_n,
  fun _ _ => (j_go_s rfl).trans e_ifnull_r,
  fun _ => (j_go_s rfl).trans e_aload,
  fun _ _ => (j_go_s rfl).trans e_getf,
  fun _ => (j_go_s rfl).trans e_aload_n,
  fun _ _ => (j_go_s rfl).trans e_getf,
  fun _ _ _ => (j_go_s rfl).trans e_icmp,
  fun _ => (j_go_s rfl).trans e_aload,
  fun _ => (j_go_s rfl).trans e_aload_n,
  fun _ _ => (j_go_s rfl).trans e_getf,
  fun _ => (j_go_s rfl).trans e_aload_n,
  fun _ _ _ _ => (j_go_s rfl).trans e_aast,
  fun _ => (j_go_s rfl).trans e_aload_n,
  fun _ => (j_go_s rfl).trans e_iload_n,
  fun _ => (j_go_s rfl).trans e_aload_n,
  fun _ => (j_go_s rfl).trans e_iload_n,
  fun _ _ _ _ _ => (j_go_s rfl).trans e_callv,
  fun _ => (j_go_s rfl).trans e_goto,
  fun _ => (j_go_s rfl).trans e_aload,
  fun _ _ => (j_go_s rfl).trans e_getf,
  fun _ => (j_go_s rfl).trans e_aload_n,
  fun _ _ => (j_go_s rfl).trans e_getf,
  fun _ _ _ => (j_go_s rfl).trans e_icmp,
  fun _ => (j_go_s rfl).trans e_aload_n,
  fun _ _ => (j_go_s rfl).trans e_getf,
  fun _ => (j_go_s rfl).trans e_iload_n,
  fun _ _ _ => (j_go_s rfl).trans e_aald,
  fun _ => (j_go_s rfl).trans e_iload_n,
  fun _ _ _ => (j_go_s rfl).trans e_callv,
  fun _ => (j_go_s rfl).trans e_aload,
  fun _ _ _ => (j_go_s rfl).trans e_callv,
  (j_go_s rfl).trans e_vret⟩
set_option maxRecDepth 100000 in
set_option maxHeartbeats 4000000 in
theorem st_Net_lose {post : Option Value → jW → Prop} {cut : List Nat} {n : Nat} {ls : jL} {w : jW} {cb sb : Nat} : (∀ (r : List Value), j_go (jmt 40) post cut (n + 1) 0 ls r w cb sb ↔ g_ld ls[0]? (fun v => t_a v ∧ j_k (jmt 40) post cut n 1 ls (v :: r) w cb sb)) ∧
  (∀ (r : List Value), j_go (jmt 40) post cut (n + 1) 1 ls r w cb sb ↔ g_ld ls[1]? (fun v => t_i v ∧ j_k (jmt 40) post cut n 2 ls (v :: r) w cb sb)) ∧
  (∀ (r : List Value), j_go (jmt 40) post cut (n + 1) 2 ls r w cb sb ↔ g_ld ls[2]? (fun v => t_i v ∧ j_k (jmt 40) post cut n 3 ls (v :: r) w cb sb)) ∧
  (∀ (r : List Value) (a0 a1 : Value) (b : Nat), j_go (jmt 40) post cut (n + 1) 3 ls (a1 :: a0 :: .ref b :: r) w cb sb ↔ g_ob 0 (w b) (fun _ => True) ∧ j_w8 r ∧ g_call (jmt 35) [.ref b, a0, a1] w cb sb (fun v w' c s => j_k (jmt 40) post cut n 6 ls (v.toList ++ r) w' c s)) ∧
  (∀ (r : List Value) (a : Int32), j_go (jmt 40) post cut (n + 1) 6 ls (.int a :: r) w cb sb ↔ (¬ a = 0 → j_k (jmt 40) post cut n 11 ls r w cb sb) ∧ (¬ (¬ a = 0) → j_k (jmt 40) post cut n 9 ls r w cb sb)) ∧
  (∀ (r : List Value), j_go (jmt 40) post cut (n + 1) 9 ls r w cb sb ↔ j_k (jmt 40) post cut n 10 ls (.int (Int32.ofInt (-1)) :: r) w cb sb) ∧
  (∀ (a : Int32), j_go (jmt 40) post cut (n + 1) 10 ls [.int a] w cb sb ↔ narrow .int (.int a) = .int a ∧ post (some (.int a)) w) ∧
  (∀ (r : List Value), j_go (jmt 40) post cut (n + 1) 11 ls r w cb sb ↔ g_ld ls[0]? (fun v => t_a v ∧ j_k (jmt 40) post cut n 12 ls (v :: r) w cb sb)) ∧
  (∀ (r : List Value) (a : Nat), j_go (jmt 40) post cut (n + 1) 12 ls (.ref a :: r) w cb sb ↔ g_ob 0 (w a) (fun fs => g_v fs[2]? (fun v => j_k (jmt 40) post cut n 15 ls (v :: r) w cb sb))) ∧
  (∀ (r : List Value), j_go (jmt 40) post cut (n + 1) 15 ls r w cb sb ↔ g_ld ls[1]? (fun v => t_i v ∧ j_k (jmt 40) post cut n 16 ls (v :: r) w cb sb)) ∧
  (∀ (r : List Value) (a : Nat) (j : Int32), j_go (jmt 40) post cut (n + 1) 16 ls (.int j :: .ref a :: r) w cb sb ↔ g_qa 4 (w a) (fun m f => vp_in j m ∧ j_k (jmt 40) post cut n 17 ls (va_rf (f j.toNatClampNeg) :: r) w cb sb)) ∧
  (∀ (r : List Value), j_go (jmt 40) post cut (n + 1) 17 ls r w cb sb ↔ g_ld ls[2]? (fun v => t_i v ∧ j_k (jmt 40) post cut n 18 ls (v :: r) w cb sb)) ∧
  (∀ (r : List Value) (a0 : Value) (b : Nat), j_go (jmt 40) post cut (n + 1) 18 ls (a0 :: .ref b :: r) w cb sb ↔ g_ob 2 (w b) (fun _ => True) ∧ j_w8 r ∧ g_call (jmt 36) [.ref b, a0] w cb sb (fun v w' c s => j_k (jmt 40) post cut n 21 ls (v.toList ++ r) w' c s)) ∧
  (∀ (r : List Value)  (b : Nat), j_go (jmt 40) post cut (n + 1) 21 ls (.ref b :: r) w cb sb ↔ g_ob 3 (w b) (fun _ => True) ∧ j_w8 r ∧ g_call (jmt 37) [.ref b] w cb sb (fun v w' c s => j_k (jmt 40) post cut n 24 ls (v.toList ++ r) w' c s)) ∧
  (∀ (r : List Value) (v : Value), j_go (jmt 40) post cut (n + 1) 24 ls (v :: r) w cb sb ↔ (t_a v ∧ j_ok1 ls 3 = true) ∧ j_k (jmt 40) post cut n 25 (ls.set 3 (some v)) r w cb sb) ∧
  (∀ (r : List Value), j_go (jmt 40) post cut (n + 1) 25 ls r w cb sb ↔ g_ld ls[3]? (fun v => t_a v ∧ j_k (jmt 40) post cut n 26 ls (v :: r) w cb sb)) ∧
  (∀ (r : List Value), j_go (jmt 40) post cut (n + 1) 26 ls (.null :: r) w cb sb ↔ j_k (jmt 40) post cut n 29 ls r w cb sb) ∧
  (∀ (r : List Value) (a : Nat), j_go (jmt 40) post cut (n + 1) 26 ls (.ref a :: r) w cb sb ↔ j_k (jmt 40) post cut n 33 ls r w cb sb) ∧
  (∀ (r : List Value), j_go (jmt 40) post cut (n + 1) 29 ls r w cb sb ↔ j_k (jmt 40) post cut n 30 ls (.int (Int32.ofInt (-1)) :: r) w cb sb) ∧
  (∀ (r : List Value), j_go (jmt 40) post cut (n + 1) 30 ls r w cb sb ↔ j_k (jmt 40) post cut n 37 ls r w cb sb) ∧
  (∀ (r : List Value), j_go (jmt 40) post cut (n + 1) 33 ls r w cb sb ↔ g_ld ls[3]? (fun v => t_a v ∧ j_k (jmt 40) post cut n 34 ls (v :: r) w cb sb)) ∧
  (∀ (r : List Value) (a : Nat), j_go (jmt 40) post cut (n + 1) 34 ls (.ref a :: r) w cb sb ↔ g_ob 4 (w a) (fun fs => g_v fs[0]? (fun v => j_k (jmt 40) post cut n 37 ls (v :: r) w cb sb))) ∧
  (∀ (a : Int32), j_go (jmt 40) post cut (n + 1) 37 ls [.int a] w cb sb ↔ narrow .int (.int a) = .int a ∧ post (some (.int a)) w) := ⟨fun _ => (j_go_s rfl).trans e_aload_n,
  fun _ => (j_go_s rfl).trans e_iload_n,
  fun _ => (j_go_s rfl).trans e_iload_n,
  fun _ _ _ _ => (j_go_s rfl).trans e_callv,
  fun _ _ => (j_go_s rfl).trans e_if,
  fun _ => (j_go_s rfl).trans e_iconst,
  fun _ => (j_go_s rfl).trans e_iret,
  fun _ => (j_go_s rfl).trans e_aload_n,
  fun _ _ => (j_go_s rfl).trans e_getf,
  fun _ => (j_go_s rfl).trans e_iload_n,
  fun _ _ _ => (j_go_s rfl).trans e_aald,
  fun _ => (j_go_s rfl).trans e_iload_n,
  fun _ _ _ => (j_go_s rfl).trans e_callv,
  fun _ _ => (j_go_s rfl).trans e_callv,
  fun _ _ => (j_go_s rfl).trans e_astore_n,
  fun _ => (j_go_s rfl).trans e_aload_n,
  fun _ => (j_go_s rfl).trans e_ifnonnull_n,
  fun _ _ => (j_go_s rfl).trans e_ifnonnull_r,
  fun _ => (j_go_s rfl).trans e_iconst,
  fun _ => (j_go_s rfl).trans e_goto,
  fun _ => (j_go_s rfl).trans e_aload_n,
  fun _ _ => (j_go_s rfl).trans e_getf,
  fun _ => (j_go_s rfl).trans e_iret⟩
set_option maxRecDepth 100000 in
set_option maxHeartbeats 4000000 in
theorem st_Net_send {post : Option Value → jW → Prop} {cut : List Nat} {n : Nat} {ls : jL} {w : jW} {cb sb : Nat} : (∀ (r : List Value), j_go (jmt 41) post cut (n + 1) 0 ls r w cb sb ↔ g_ld ls[1]? (fun v => t_i v ∧ j_k (jmt 41) post cut n 1 ls (v :: r) w cb sb)) ∧
  (∀ (r : List Value) (a0 : Value), j_go (jmt 41) post cut (n + 1) 1 ls (a0 :: r) w cb sb ↔ j_w8 r ∧ g_call (jmt 6) [a0] w cb sb (fun v w' c s => j_k (jmt 41) post cut n 4 ls (v.toList ++ r) w' c s)) ∧
  (∀ (r : List Value) (a : Int32), j_go (jmt 41) post cut (n + 1) 4 ls (.int a :: r) w cb sb ↔ (a = 0 → j_k (jmt 41) post cut n 25 ls r w cb sb) ∧ (¬ (a = 0) → j_k (jmt 41) post cut n 7 ls r w cb sb)) ∧
  (∀ (r : List Value), j_go (jmt 41) post cut (n + 1) 7 ls r w cb sb ↔ g_ld ls[2]? (fun v => t_i v ∧ j_k (jmt 41) post cut n 8 ls (v :: r) w cb sb)) ∧
  (∀ (r : List Value) (a0 : Value), j_go (jmt 41) post cut (n + 1) 8 ls (a0 :: r) w cb sb ↔ j_w8 r ∧ g_call (jmt 28) [a0] w cb sb (fun v w' c s => j_k (jmt 41) post cut n 11 ls (v.toList ++ r) w' c s)) ∧
  (∀ (r : List Value) (a : Int32), j_go (jmt 41) post cut (n + 1) 11 ls (.int a :: r) w cb sb ↔ (a = 0 → j_k (jmt 41) post cut n 25 ls r w cb sb) ∧ (¬ (a = 0) → j_k (jmt 41) post cut n 14 ls r w cb sb)) ∧
  (∀ (r : List Value), j_go (jmt 41) post cut (n + 1) 14 ls r w cb sb ↔ g_ld ls[3]? (fun v => t_i v ∧ j_k (jmt 41) post cut n 15 ls (v :: r) w cb sb)) ∧
  (∀ (r : List Value), j_go (jmt 41) post cut (n + 1) 15 ls r w cb sb ↔ j_k (jmt 41) post cut n 16 ls (.int (Int32.ofInt 1) :: r) w cb sb) ∧
  (∀ (r : List Value), j_go (jmt 41) post cut (n + 1) 16 ls r w cb sb ↔ j_k (jmt 41) post cut n 19 ls (.int (Int16.ofInt 500).toInt32 :: r) w cb sb) ∧
  (∀ (r : List Value) (a0 a1 a2 : Value), j_go (jmt 41) post cut (n + 1) 19 ls (a2 :: a1 :: a0 :: r) w cb sb ↔ j_w8 r ∧ g_call (jmt 7) [a0, a1, a2] w cb sb (fun v w' c s => j_k (jmt 41) post cut n 22 ls (v.toList ++ r) w' c s)) ∧
  (∀ (r : List Value) (a : Int32), j_go (jmt 41) post cut (n + 1) 22 ls (.int a :: r) w cb sb ↔ (¬ a = 0 → j_k (jmt 41) post cut n 27 ls r w cb sb) ∧ (¬ (¬ a = 0) → j_k (jmt 41) post cut n 25 ls r w cb sb)) ∧
  (∀ (r : List Value), j_go (jmt 41) post cut (n + 1) 25 ls r w cb sb ↔ j_k (jmt 41) post cut n 26 ls (.int (Int32.ofInt (-1)) :: r) w cb sb) ∧
  (∀ (a : Int32), j_go (jmt 41) post cut (n + 1) 26 ls [.int a] w cb sb ↔ narrow .int (.int a) = .int a ∧ post (some (.int a)) w) ∧
  (∀ (r : List Value), j_go (jmt 41) post cut (n + 1) 27 ls r w cb sb ↔ g_ld ls[0]? (fun v => t_a v ∧ j_k (jmt 41) post cut n 28 ls (v :: r) w cb sb)) ∧
  (∀ (r : List Value) (a : Nat), j_go (jmt 41) post cut (n + 1) 28 ls (.ref a :: r) w cb sb ↔ g_ob 0 (w a) (fun fs => g_v fs[7]? (fun v => j_k (jmt 41) post cut n 31 ls (v :: r) w cb sb))) ∧
  (∀ (r : List Value), j_go (jmt 41) post cut (n + 1) 31 ls r w cb sb ↔ j_k (jmt 41) post cut n 33 ls (.int (Int8.ofInt 12).toInt32 :: r) w cb sb) ∧
  (∀ (r : List Value) (a b : Int32), j_go (jmt 41) post cut (n + 1) 33 ls (.int b :: .int a :: r) w cb sb ↔ (a = b → j_k (jmt 41) post cut n 45 ls r w cb sb) ∧ (¬ (a = b) → j_k (jmt 41) post cut n 36 ls r w cb sb)) ∧
  (∀ (r : List Value), j_go (jmt 41) post cut (n + 1) 36 ls r w cb sb ↔ g_ld ls[0]? (fun v => t_a v ∧ j_k (jmt 41) post cut n 37 ls (v :: r) w cb sb)) ∧
  (∀ (r : List Value) (a : Nat), j_go (jmt 41) post cut (n + 1) 37 ls (.ref a :: r) w cb sb ↔ g_ob 0 (w a) (fun fs => g_v fs[8]? (fun v => j_k (jmt 41) post cut n 40 ls (v :: r) w cb sb))) ∧
  (∀ (r : List Value), j_go (jmt 41) post cut (n + 1) 40 ls r w cb sb ↔ j_k (jmt 41) post cut n 42 ls (.int (Int8.ofInt 80).toInt32 :: r) w cb sb) ∧
  (∀ (r : List Value) (a b : Int32), j_go (jmt 41) post cut (n + 1) 42 ls (.int b :: .int a :: r) w cb sb ↔ (¬ a = b → j_k (jmt 41) post cut n 48 ls r w cb sb) ∧ (¬ (¬ a = b) → j_k (jmt 41) post cut n 45 ls r w cb sb)) ∧
  (∀ (r : List Value), j_go (jmt 41) post cut (n + 1) 45 ls r w cb sb ↔ j_k (jmt 41) post cut n 47 ls (.int (Int8.ofInt (-2)).toInt32 :: r) w cb sb) ∧
  (∀ (a : Int32), j_go (jmt 41) post cut (n + 1) 47 ls [.int a] w cb sb ↔ narrow .int (.int a) = .int a ∧ post (some (.int a)) w) ∧
  (∀ (r : List Value), j_go (jmt 41) post cut (n + 1) 48 ls r w cb sb ↔ g_ld ls[0]? (fun v => t_a v ∧ j_k (jmt 41) post cut n 49 ls (v :: r) w cb sb)) ∧
  (∀ (r : List Value) (a : Nat), j_go (jmt 41) post cut (n + 1) 49 ls (.ref a :: r) w cb sb ↔ g_ob 0 (w a) (fun fs => g_v fs[3]? (fun v => j_k (jmt 41) post cut n 52 ls (v :: r) w cb sb))) ∧
  (∀ (r : List Value), j_go (jmt 41) post cut (n + 1) 52 ls r w cb sb ↔ g_ld ls[0]? (fun v => t_a v ∧ j_k (jmt 41) post cut n 53 ls (v :: r) w cb sb)) ∧
  (∀ (r : List Value) (a : Nat), j_go (jmt 41) post cut (n + 1) 53 ls (.ref a :: r) w cb sb ↔ g_ob 0 (w a) (fun fs => g_v fs[7]? (fun v => j_k (jmt 41) post cut n 56 ls (v :: r) w cb sb))) ∧
  (∀ (r : List Value), j_go (jmt 41) post cut (n + 1) 56 ls r w cb sb ↔ 1 ≤ cb ∧ 3 ≤ sb ∧ ∀ a, w a = none → j_k (jmt 41) post cut n 59 ls (.ref a :: r) ((j_up w a (.inr (6, [.int 0, .int 0, .null])))) ((cb - 1)) ((sb - 3))) ∧
  (∀ (r : List Value) (v : Value), j_go (jmt 41) post cut (n + 1) 59 ls (v :: r) w cb sb ↔ v.category = 1 ∧ j_k (jmt 41) post cut n 60 ls (v :: v :: r) w cb sb) ∧
  (∀ (r : List Value), j_go (jmt 41) post cut (n + 1) 60 ls r w cb sb ↔ g_ld ls[2]? (fun v => t_i v ∧ j_k (jmt 41) post cut n 61 ls (v :: r) w cb sb)) ∧
  (∀ (r : List Value), j_go (jmt 41) post cut (n + 1) 61 ls r w cb sb ↔ g_ld ls[4]? (fun v => t_i v ∧ j_k (jmt 41) post cut n 63 ls (v :: r) w cb sb)) ∧
  (∀ (r : List Value) (a0 a1 : Value) (b : Nat), j_go (jmt 41) post cut (n + 1) 63 ls (a1 :: a0 :: .ref b :: r) w cb sb ↔ j_w8 r ∧ g_call (jmt 42) [.ref b, a0, a1] w cb sb (fun v w' c s => j_k (jmt 41) post cut n 66 ls (v.toList ++ r) w' c s)) ∧
  (∀ (r : List Value) (a v : Nat) (j : Int32), j_go (jmt 41) post cut (n + 1) 66 ls (.ref v :: .int j :: .ref a :: r) w cb sb ↔ g_qa 5 (w a) (fun m f => vp_in j m ∧ g_ob 6 (w v) (fun _ => j_k (jmt 41) post cut n 67 ls r ((j_up w a (.inl (5, m, .inr (.inr (.inr (.inr (va_up f j.toNatClampNeg (some v))))))))) cb sb))) ∧
  (∀ (r : List Value), j_go (jmt 41) post cut (n + 1) 67 ls r w cb sb ↔ g_ld ls[0]? (fun v => t_a v ∧ j_k (jmt 41) post cut n 68 ls (v :: r) w cb sb)) ∧
  (∀ (r : List Value) (v : Value), j_go (jmt 41) post cut (n + 1) 68 ls (v :: r) w cb sb ↔ v.category = 1 ∧ j_k (jmt 41) post cut n 69 ls (v :: v :: r) w cb sb) ∧
  (∀ (r : List Value) (a : Nat), j_go (jmt 41) post cut (n + 1) 69 ls (.ref a :: r) w cb sb ↔ g_ob 0 (w a) (fun fs => g_v fs[7]? (fun v => j_k (jmt 41) post cut n 72 ls (v :: r) w cb sb))) ∧
  (∀ (r : List Value), j_go (jmt 41) post cut (n + 1) 72 ls r w cb sb ↔ j_k (jmt 41) post cut n 73 ls (.int (Int32.ofInt 1) :: r) w cb sb) ∧
  (∀ (r : List Value) (x y : Int32), j_go (jmt 41) post cut (n + 1) 73 ls (.int y :: .int x :: r) w cb sb ↔ j_k (jmt 41) post cut n 74 ls (.int (x + y) :: r) w cb sb) ∧
  (∀ (r : List Value) (v : Value) (a : Nat), j_go (jmt 41) post cut (n + 1) 74 ls (v :: .ref a :: r) w cb sb ↔ g_ob 0 (w a) (fun fs => 7 < fs.length ∧ j_okv 0 v ∧ j_k (jmt 41) post cut n 77 ls r ((j_up w a (.inr (0, fs.set 7 v)))) cb sb)) ∧
  (∀ (r : List Value), j_go (jmt 41) post cut (n + 1) 77 ls r w cb sb ↔ g_ld ls[0]? (fun v => t_a v ∧ j_k (jmt 41) post cut n 78 ls (v :: r) w cb sb)) ∧
  (∀ (r : List Value), j_go (jmt 41) post cut (n + 1) 78 ls r w cb sb ↔ 1 ≤ cb ∧ 6 ≤ sb ∧ ∀ a, w a = none → j_k (jmt 41) post cut n 81 ls (.ref a :: r) ((j_up w a (.inr (7, [.int 0, .int 0, .int 0, .int 0, .int 0, .int 0])))) ((cb - 1)) ((sb - 6))) ∧
  (∀ (r : List Value) (v : Value), j_go (jmt 41) post cut (n + 1) 81 ls (v :: r) w cb sb ↔ v.category = 1 ∧ j_k (jmt 41) post cut n 82 ls (v :: v :: r) w cb sb) ∧
  (∀ (r : List Value), j_go (jmt 41) post cut (n + 1) 82 ls r w cb sb ↔ g_ld ls[0]? (fun v => t_a v ∧ j_k (jmt 41) post cut n 83 ls (v :: r) w cb sb)) ∧
  (∀ (r : List Value) (a : Nat), j_go (jmt 41) post cut (n + 1) 83 ls (.ref a :: r) w cb sb ↔ g_ob 0 (w a) (fun fs => g_v fs[7]? (fun v => j_k (jmt 41) post cut n 86 ls (v :: r) w cb sb))) ∧
  (∀ (r : List Value), j_go (jmt 41) post cut (n + 1) 86 ls r w cb sb ↔ j_k (jmt 41) post cut n 87 ls (.int (Int32.ofInt 0) :: r) w cb sb) ∧
  (∀ (r : List Value), j_go (jmt 41) post cut (n + 1) 87 ls r w cb sb ↔ g_ld ls[3]? (fun v => t_i v ∧ j_k (jmt 41) post cut n 88 ls (v :: r) w cb sb)) ∧
  (∀ (r : List Value), j_go (jmt 41) post cut (n + 1) 88 ls r w cb sb ↔ g_ld ls[0]? (fun v => t_a v ∧ j_k (jmt 41) post cut n 89 ls (v :: r) w cb sb)) ∧
  (∀ (r : List Value) (a : Nat), j_go (jmt 41) post cut (n + 1) 89 ls (.ref a :: r) w cb sb ↔ g_ob 0 (w a) (fun fs => g_v fs[0]? (fun v => j_k (jmt 41) post cut n 92 ls (v :: r) w cb sb))) ∧
  (∀ (r : List Value), j_go (jmt 41) post cut (n + 1) 92 ls r w cb sb ↔ g_ld ls[1]? (fun v => t_i v ∧ j_k (jmt 41) post cut n 93 ls (v :: r) w cb sb)) ∧
  (∀ (r : List Value) (a0 a1 a2 a3 a4 : Value) (b : Nat), j_go (jmt 41) post cut (n + 1) 93 ls (a4 :: a3 :: a2 :: a1 :: a0 :: .ref b :: r) w cb sb ↔ j_w8 r ∧ g_call (jmt 43) [.ref b, a0, a1, a2, a3, a4] w cb sb (fun v w' c s => j_k (jmt 41) post cut n 96 ls (v.toList ++ r) w' c s)) ∧
  (∀ (r : List Value) (a0 : Value) (b : Nat), j_go (jmt 41) post cut (n + 1) 96 ls (a0 :: .ref b :: r) w cb sb ↔ g_ob 0 (w b) (fun _ => True) ∧ j_w8 r ∧ g_call (jmt 44) [.ref b, a0] w cb sb (fun v w' c s => j_k (jmt 41) post cut n 99 ls (v.toList ++ r) w' c s)) ∧
  (∀ (r : List Value), j_go (jmt 41) post cut (n + 1) 99 ls r w cb sb ↔ g_ld ls[0]? (fun v => t_a v ∧ j_k (jmt 41) post cut n 100 ls (v :: r) w cb sb)) ∧
  (∀ (r : List Value) (a : Nat), j_go (jmt 41) post cut (n + 1) 100 ls (.ref a :: r) w cb sb ↔ g_ob 0 (w a) (fun fs => g_v fs[7]? (fun v => j_k (jmt 41) post cut n 103 ls (v :: r) w cb sb))) ∧
  (∀ (a : Int32), j_go (jmt 41) post cut (n + 1) 103 ls [.int a] w cb sb ↔ narrow .int (.int a) = .int a ∧ post (some (.int a)) w) := ⟨fun _ => (j_go_s rfl).trans e_iload_n,
  fun _ _ => (j_go_s rfl).trans e_calls,
  fun _ _ => (j_go_s rfl).trans e_if,
  fun _ => (j_go_s rfl).trans e_iload_n,
  fun _ _ => (j_go_s rfl).trans e_calls,
  fun _ _ => (j_go_s rfl).trans e_if,
  fun _ => (j_go_s rfl).trans e_iload_n,
  fun _ => (j_go_s rfl).trans e_iconst,
  fun _ => (j_go_s rfl).trans e_sipush,
  fun _ _ _ _ => (j_go_s rfl).trans e_calls,
  fun _ _ => (j_go_s rfl).trans e_if,
  fun _ => (j_go_s rfl).trans e_iconst,
  fun _ => (j_go_s rfl).trans e_iret,
  fun _ => (j_go_s rfl).trans e_aload_n,
  fun _ _ => (j_go_s rfl).trans e_getf,
  fun _ => (j_go_s rfl).trans e_bipush,
  fun _ _ _ => (j_go_s rfl).trans e_icmp,
  fun _ => (j_go_s rfl).trans e_aload_n,
  fun _ _ => (j_go_s rfl).trans e_getf,
  fun _ => (j_go_s rfl).trans e_bipush,
  fun _ _ _ => (j_go_s rfl).trans e_icmp,
  fun _ => (j_go_s rfl).trans e_bipush,
  fun _ => (j_go_s rfl).trans e_iret,
  fun _ => (j_go_s rfl).trans e_aload_n,
  fun _ _ => (j_go_s rfl).trans e_getf,
  fun _ => (j_go_s rfl).trans e_aload_n,
  fun _ _ => (j_go_s rfl).trans e_getf,
  fun _ => (j_go_s rfl).trans e_new,
  fun _ _ => (j_go_s rfl).trans e_dup,
  fun _ => (j_go_s rfl).trans e_iload_n,
  fun _ => (j_go_s rfl).trans e_iload,
  fun _ _ _ _ => (j_go_s rfl).trans e_calli,
  fun _ _ _ _ => (j_go_s rfl).trans e_aast,
  fun _ => (j_go_s rfl).trans e_aload_n,
  fun _ _ => (j_go_s rfl).trans e_dup,
  fun _ _ => (j_go_s rfl).trans e_getf,
  fun _ => (j_go_s rfl).trans e_iconst,
  fun _ _ _ => (j_go_s rfl).trans e_iadd,
  fun _ _ _ => (j_go_s rfl).trans e_putf,
  fun _ => (j_go_s rfl).trans e_aload_n,
  fun _ => (j_go_s rfl).trans e_new,
  fun _ _ => (j_go_s rfl).trans e_dup,
  fun _ => (j_go_s rfl).trans e_aload_n,
  fun _ _ => (j_go_s rfl).trans e_getf,
  fun _ => (j_go_s rfl).trans e_iconst,
  fun _ => (j_go_s rfl).trans e_iload_n,
  fun _ => (j_go_s rfl).trans e_aload_n,
  fun _ _ => (j_go_s rfl).trans e_getf,
  fun _ => (j_go_s rfl).trans e_iload_n,
  fun _ _ _ _ _ _ _ => (j_go_s rfl).trans e_calli,
  fun _ _ _ => (j_go_s rfl).trans e_callv,
  fun _ => (j_go_s rfl).trans e_aload_n,
  fun _ _ => (j_go_s rfl).trans e_getf,
  fun _ => (j_go_s rfl).trans e_iret⟩
