set_option maxRecDepth 100000 in
set_option maxHeartbeats 4000000 in
theorem st_Ref_endOf {post : Option Value → jW → Prop} {cut : List Nat} {n : Nat} {ls : jL} {w : jW} {cb sb : Nat} : (∀ (r : List Value), j_go (jmt 103) post cut (n + 1) 0 ls r w cb sb ↔ g_ld ls[0]? (fun v => t_a v ∧ j_k (jmt 103) post cut n 1 ls (v :: r) w cb sb)) ∧
  (∀ (r : List Value), j_go (jmt 103) post cut (n + 1) 1 ls r w cb sb ↔ g_ld ls[1]? (fun v => t_i v ∧ j_k (jmt 103) post cut n 2 ls (v :: r) w cb sb)) ∧
  (∀ (r : List Value), j_go (jmt 103) post cut (n + 1) 2 ls r w cb sb ↔ g_ld ls[1]? (fun v => t_i v ∧ j_k (jmt 103) post cut n 3 ls (v :: r) w cb sb)) ∧
  (∀ (r : List Value) (a0 a1 : Value) (b : Nat), j_go (jmt 103) post cut (n + 1) 3 ls (a1 :: a0 :: .ref b :: r) w cb sb ↔ g_ob 8 (w b) (fun _ => True) ∧ j_w8 r ∧ g_call (jmt 104) [.ref b, a0, a1] w cb sb (fun v w' c s => j_k (jmt 103) post cut n 6 ls (v.toList ++ r) w' c s)) ∧
  (∀ (r : List Value), j_go (jmt 103) post cut (n + 1) 6 ls r w cb sb ↔ j_k (jmt 103) post cut n 7 ls (.int (Int32.ofInt (-1)) :: r) w cb sb) ∧
  (∀ (r : List Value) (x : Int32), j_go (jmt 103) post cut (n + 1) 7 ls (.int x :: r) w cb sb ↔ j_ok1 ls 3 = true ∧ j_k (jmt 103) post cut n 8 (ls.set 3 (some (.int x))) r w cb sb) ∧
  (∀ (r : List Value), j_go (jmt 103) post cut (n + 1) 8 ls r w cb sb ↔ j_k (jmt 103) post cut n 9 ls (.int (Int32.ofInt (-1)) :: r) w cb sb) ∧
  (∀ (r : List Value) (x : Int32), j_go (jmt 103) post cut (n + 1) 9 ls (.int x :: r) w cb sb ↔ j_ok1 ls 4 = true ∧ j_k (jmt 103) post cut n 11 (ls.set 4 (some (.int x))) r w cb sb) ∧
  (∀ (r : List Value), j_go (jmt 103) post cut (n + 1) 11 ls r w cb sb ↔ j_k (jmt 103) post cut n 12 ls (.int (Int32.ofInt 0) :: r) w cb sb) ∧
  (∀ (r : List Value) (x : Int32), j_go (jmt 103) post cut (n + 1) 12 ls (.int x :: r) w cb sb ↔ j_ok1 ls 5 = true ∧ j_k (jmt 103) post cut n 14 (ls.set 5 (some (.int x))) r w cb sb) ∧
  (∀ (r : List Value), j_go (jmt 103) post cut (n + 1) 14 ls r w cb sb ↔ g_ld ls[5]? (fun v => t_i v ∧ j_k (jmt 103) post cut n 16 ls (v :: r) w cb sb)) ∧
  (∀ (r : List Value), j_go (jmt 103) post cut (n + 1) 16 ls r w cb sb ↔ j_k (jmt 103) post cut n 18 ls (.int (Int8.ofInt 8).toInt32 :: r) w cb sb) ∧
  (∀ (r : List Value) (a b : Int32), j_go (jmt 103) post cut (n + 1) 18 ls (.int b :: .int a :: r) w cb sb ↔ (b ≤ a → j_k (jmt 103) post cut n 120 ls r w cb sb) ∧ (¬ (b ≤ a) → j_k (jmt 103) post cut n 21 ls r w cb sb)) ∧
  (∀ (r : List Value), j_go (jmt 103) post cut (n + 1) 21 ls r w cb sb ↔ g_ld ls[0]? (fun v => t_a v ∧ j_k (jmt 103) post cut n 22 ls (v :: r) w cb sb)) ∧
  (∀ (r : List Value) (a : Nat), j_go (jmt 103) post cut (n + 1) 22 ls (.ref a :: r) w cb sb ↔ g_ob 8 (w a) (fun fs => g_v fs[15]? (fun v => j_k (jmt 103) post cut n 25 ls (v :: r) w cb sb))) ∧
  (∀ (r : List Value), j_go (jmt 103) post cut (n + 1) 25 ls r w cb sb ↔ j_k (jmt 103) post cut n 27 ls (.int (Int8.ofInt 8).toInt32 :: r) w cb sb) ∧
  (∀ (r : List Value), j_go (jmt 103) post cut (n + 1) 27 ls r w cb sb ↔ g_ld ls[1]? (fun v => t_i v ∧ j_k (jmt 103) post cut n 28 ls (v :: r) w cb sb)) ∧
  (∀ (r : List Value) (x y : Int32), j_go (jmt 103) post cut (n + 1) 28 ls (.int y :: .int x :: r) w cb sb ↔ j_k (jmt 103) post cut n 29 ls (.int (x * y) :: r) w cb sb) ∧
  (∀ (r : List Value), j_go (jmt 103) post cut (n + 1) 29 ls r w cb sb ↔ g_ld ls[5]? (fun v => t_i v ∧ j_k (jmt 103) post cut n 31 ls (v :: r) w cb sb)) ∧
  (∀ (r : List Value) (x y : Int32), j_go (jmt 103) post cut (n + 1) 31 ls (.int y :: .int x :: r) w cb sb ↔ j_k (jmt 103) post cut n 32 ls (.int (x + y) :: r) w cb sb) ∧
  (∀ (r : List Value) (a : Nat) (j : Int32), j_go (jmt 103) post cut (n + 1) 32 ls (.int j :: .ref a :: r) w cb sb ↔ g_ia 0 (w a) (fun m f => vp_in j m ∧ j_k (jmt 103) post cut n 33 ls (.int (f j.toNatClampNeg) :: r) w cb sb)) ∧
  (∀ (r : List Value) (x : Int32), j_go (jmt 103) post cut (n + 1) 33 ls (.int x :: r) w cb sb ↔ j_ok1 ls 6 = true ∧ j_k (jmt 103) post cut n 35 (ls.set 6 (some (.int x))) r w cb sb) ∧
  (∀ (r : List Value), j_go (jmt 103) post cut (n + 1) 35 ls r w cb sb ↔ g_ld ls[6]? (fun v => t_i v ∧ j_k (jmt 103) post cut n 37 ls (v :: r) w cb sb)) ∧
  (∀ (r : List Value) (a : Int32), j_go (jmt 103) post cut (n + 1) 37 ls (.int a :: r) w cb sb ↔ (a = 0 → j_k (jmt 103) post cut n 50 ls r w cb sb) ∧ (¬ (a = 0) → j_k (jmt 103) post cut n 40 ls r w cb sb)) ∧
  (∀ (r : List Value), j_go (jmt 103) post cut (n + 1) 40 ls r w cb sb ↔ g_ld ls[0]? (fun v => t_a v ∧ j_k (jmt 103) post cut n 41 ls (v :: r) w cb sb)) ∧
  (∀ (r : List Value) (a : Nat), j_go (jmt 103) post cut (n + 1) 41 ls (.ref a :: r) w cb sb ↔ g_ob 8 (w a) (fun fs => g_v fs[24]? (fun v => j_k (jmt 103) post cut n 44 ls (v :: r) w cb sb))) ∧
  (∀ (r : List Value), j_go (jmt 103) post cut (n + 1) 44 ls r w cb sb ↔ g_ld ls[5]? (fun v => t_i v ∧ j_k (jmt 103) post cut n 46 ls (v :: r) w cb sb)) ∧
  (∀ (r : List Value) (a : Nat) (j : Int32), j_go (jmt 103) post cut (n + 1) 46 ls (.int j :: .ref a :: r) w cb sb ↔ g_ia 0 (w a) (fun m f => vp_in j m ∧ j_k (jmt 103) post cut n 47 ls (.int (f j.toNatClampNeg) :: r) w cb sb)) ∧
  (∀ (r : List Value) (a : Int32), j_go (jmt 103) post cut (n + 1) 47 ls (.int a :: r) w cb sb ↔ (0 ≤ a → j_k (jmt 103) post cut n 54 ls r w cb sb) ∧ (¬ (0 ≤ a) → j_k (jmt 103) post cut n 50 ls r w cb sb)) ∧
  (∀ (r : List Value), j_go (jmt 103) post cut (n + 1) 50 ls r w cb sb ↔ j_k (jmt 103) post cut n 51 ls (.int (Int32.ofInt (-1)) :: r) w cb sb) ∧
  (∀ (r : List Value), j_go (jmt 103) post cut (n + 1) 51 ls r w cb sb ↔ j_k (jmt 103) post cut n 61 ls r w cb sb) ∧
  (∀ (r : List Value), j_go (jmt 103) post cut (n + 1) 54 ls r w cb sb ↔ g_ld ls[0]? (fun v => t_a v ∧ j_k (jmt 103) post cut n 55 ls (v :: r) w cb sb)) ∧
  (∀ (r : List Value), j_go (jmt 103) post cut (n + 1) 55 ls r w cb sb ↔ g_ld ls[6]? (fun v => t_i v ∧ j_k (jmt 103) post cut n 57 ls (v :: r) w cb sb)) ∧
  (∀ (r : List Value), j_go (jmt 103) post cut (n + 1) 57 ls r w cb sb ↔ g_ld ls[2]? (fun v => t_i v ∧ j_k (jmt 103) post cut n 58 ls (v :: r) w cb sb)) ∧
  (∀ (r : List Value) (a0 a1 : Value) (b : Nat), j_go (jmt 103) post cut (n + 1) 58 ls (a1 :: a0 :: .ref b :: r) w cb sb ↔ g_ob 8 (w b) (fun _ => True) ∧ j_w8 r ∧ g_call (jmt 106) [.ref b, a0, a1] w cb sb (fun v w' c s => j_k (jmt 103) post cut n 61 ls (v.toList ++ r) w' c s)) ∧
  (∀ (r : List Value) (x : Int32), j_go (jmt 103) post cut (n + 1) 61 ls (.int x :: r) w cb sb ↔ j_ok1 ls 7 = true ∧ j_k (jmt 103) post cut n 63 (ls.set 7 (some (.int x))) r w cb sb) ∧
  (∀ (r : List Value), j_go (jmt 103) post cut (n + 1) 63 ls r w cb sb ↔ g_ld ls[7]? (fun v => t_i v ∧ j_k (jmt 103) post cut n 65 ls (v :: r) w cb sb)) ∧
  (∀ (r : List Value) (a : Int32), j_go (jmt 103) post cut (n + 1) 65 ls (.int a :: r) w cb sb ↔ (a < 0 → j_k (jmt 103) post cut n 114 ls r w cb sb) ∧ (¬ (a < 0) → j_k (jmt 103) post cut n 68 ls r w cb sb)) ∧
  (∀ (r : List Value), j_go (jmt 103) post cut (n + 1) 68 ls r w cb sb ↔ j_k (jmt 103) post cut n 71 ls (.int (Int16.ofInt 1000).toInt32 :: r) w cb sb) ∧
  (∀ (r : List Value), j_go (jmt 103) post cut (n + 1) 71 ls r w cb sb ↔ g_ld ls[7]? (fun v => t_i v ∧ j_k (jmt 103) post cut n 73 ls (v :: r) w cb sb)) ∧
  (∀ (r : List Value) (x y : Int32), j_go (jmt 103) post cut (n + 1) 73 ls (.int y :: .int x :: r) w cb sb ↔ j_k (jmt 103) post cut n 74 ls (.int (x * y) :: r) w cb sb) ∧
  (∀ (r : List Value), j_go (jmt 103) post cut (n + 1) 74 ls r w cb sb ↔ j_k (jmt 103) post cut n 77 ls (.int (Int16.ofInt 999).toInt32 :: r) w cb sb) ∧
  (∀ (r : List Value) (x y : Int32), j_go (jmt 103) post cut (n + 1) 77 ls (.int y :: .int x :: r) w cb sb ↔ j_k (jmt 103) post cut n 78 ls (.int (x + y) :: r) w cb sb) ∧
  (∀ (r : List Value), j_go (jmt 103) post cut (n + 1) 78 ls r w cb sb ↔ g_ld ls[0]? (fun v => t_a v ∧ j_k (jmt 103) post cut n 79 ls (v :: r) w cb sb)) ∧
  (∀ (r : List Value) (a : Nat), j_go (jmt 103) post cut (n + 1) 79 ls (.ref a :: r) w cb sb ↔ g_ob 8 (w a) (fun fs => g_v fs[24]? (fun v => j_k (jmt 103) post cut n 82 ls (v :: r) w cb sb))) ∧
  (∀ (r : List Value), j_go (jmt 103) post cut (n + 1) 82 ls r w cb sb ↔ g_ld ls[5]? (fun v => t_i v ∧ j_k (jmt 103) post cut n 84 ls (v :: r) w cb sb)) ∧
  (∀ (r : List Value) (a : Nat) (j : Int32), j_go (jmt 103) post cut (n + 1) 84 ls (.int j :: .ref a :: r) w cb sb ↔ g_ia 0 (w a) (fun m f => vp_in j m ∧ j_k (jmt 103) post cut n 85 ls (.int (f j.toNatClampNeg) :: r) w cb sb)) ∧
  (∀ (r : List Value) (x y : Int32), j_go (jmt 103) post cut (n + 1) 85 ls (.int y :: .int x :: r) w cb sb ↔ j_k (jmt 103) post cut n 86 ls (.int (x - y) :: r) w cb sb) ∧
  (∀ (r : List Value), j_go (jmt 103) post cut (n + 1) 86 ls r w cb sb ↔ g_ld ls[4]? (fun v => t_i v ∧ j_k (jmt 103) post cut n 88 ls (v :: r) w cb sb)) ∧
  (∀ (r : List Value) (a b : Int32), j_go (jmt 103) post cut (n + 1) 88 ls (.int b :: .int a :: r) w cb sb ↔ (a ≤ b → j_k (jmt 103) post cut n 114 ls r w cb sb) ∧ (¬ (a ≤ b) → j_k (jmt 103) post cut n 91 ls r w cb sb)) ∧
  (∀ (r : List Value), j_go (jmt 103) post cut (n + 1) 91 ls r w cb sb ↔ g_ld ls[5]? (fun v => t_i v ∧ j_k (jmt 103) post cut n 93 ls (v :: r) w cb sb)) ∧
  (∀ (r : List Value) (x : Int32), j_go (jmt 103) post cut (n + 1) 93 ls (.int x :: r) w cb sb ↔ j_ok1 ls 3 = true ∧ j_k (jmt 103) post cut n 94 (ls.set 3 (some (.int x))) r w cb sb) ∧
  (∀ (r : List Value), j_go (jmt 103) post cut (n + 1) 94 ls r w cb sb ↔ j_k (jmt 103) post cut n 97 ls (.int (Int16.ofInt 1000).toInt32 :: r) w cb sb) ∧
  (∀ (r : List Value), j_go (jmt 103) post cut (n + 1) 97 ls r w cb sb ↔ g_ld ls[7]? (fun v => t_i v ∧ j_k (jmt 103) post cut n 99 ls (v :: r) w cb sb)) ∧
  (∀ (r : List Value) (x y : Int32), j_go (jmt 103) post cut (n + 1) 99 ls (.int y :: .int x :: r) w cb sb ↔ j_k (jmt 103) post cut n 100 ls (.int (x * y) :: r) w cb sb) ∧
  (∀ (r : List Value), j_go (jmt 103) post cut (n + 1) 100 ls r w cb sb ↔ j_k (jmt 103) post cut n 103 ls (.int (Int16.ofInt 999).toInt32 :: r) w cb sb) ∧
  (∀ (r : List Value) (x y : Int32), j_go (jmt 103) post cut (n + 1) 103 ls (.int y :: .int x :: r) w cb sb ↔ j_k (jmt 103) post cut n 104 ls (.int (x + y) :: r) w cb sb) ∧
  (∀ (r : List Value), j_go (jmt 103) post cut (n + 1) 104 ls r w cb sb ↔ g_ld ls[0]? (fun v => t_a v ∧ j_k (jmt 103) post cut n 105 ls (v :: r) w cb sb)) ∧
  (∀ (r : List Value) (a : Nat), j_go (jmt 103) post cut (n + 1) 105 ls (.ref a :: r) w cb sb ↔ g_ob 8 (w a) (fun fs => g_v fs[24]? (fun v => j_k (jmt 103) post cut n 108 ls (v :: r) w cb sb))) ∧
  (∀ (r : List Value), j_go (jmt 103) post cut (n + 1) 108 ls r w cb sb ↔ g_ld ls[5]? (fun v => t_i v ∧ j_k (jmt 103) post cut n 110 ls (v :: r) w cb sb)) ∧
  (∀ (r : List Value) (a : Nat) (j : Int32), j_go (jmt 103) post cut (n + 1) 110 ls (.int j :: .ref a :: r) w cb sb ↔ g_ia 0 (w a) (fun m f => vp_in j m ∧ j_k (jmt 103) post cut n 111 ls (.int (f j.toNatClampNeg) :: r) w cb sb)) ∧
  (∀ (r : List Value) (x y : Int32), j_go (jmt 103) post cut (n + 1) 111 ls (.int y :: .int x :: r) w cb sb ↔ j_k (jmt 103) post cut n 112 ls (.int (x - y) :: r) w cb sb) ∧
  (∀ (r : List Value) (x : Int32), j_go (jmt 103) post cut (n + 1) 112 ls (.int x :: r) w cb sb ↔ j_ok1 ls 4 = true ∧ j_k (jmt 103) post cut n 114 (ls.set 4 (some (.int x))) r w cb sb) ∧
  (∀ (r : List Value), j_go (jmt 103) post cut (n + 1) 114 ls r w cb sb ↔ g_ld ls[5]? (fun v => (match v with
      | .int x => j_ok1 ls 5 = true ∧ j_k (jmt 103) post cut n 117 (ls.set 5 (some (.int (x + Int32.ofInt 1)))) r w cb sb
      | _ => False))) ∧
  (∀ (r : List Value), j_go (jmt 103) post cut (n + 1) 117 ls r w cb sb ↔ j_k (jmt 103) post cut n 14 ls r w cb sb) ∧
  (∀ (r : List Value), j_go (jmt 103) post cut (n + 1) 120 ls r w cb sb ↔ g_ld ls[3]? (fun v => t_i v ∧ j_k (jmt 103) post cut n 121 ls (v :: r) w cb sb)) ∧
  (∀ (a : Int32), j_go (jmt 103) post cut (n + 1) 121 ls [.int a] w cb sb ↔ narrow .int (.int a) = .int a ∧ post (some (.int a)) w) := ⟨fun _ => (j_go_s rfl).trans e_aload_n,
  fun _ => (j_go_s rfl).trans e_iload_n,
  fun _ => (j_go_s rfl).trans e_iload_n,
  fun _ _ _ _ => (j_go_s rfl).trans e_callv,
  fun _ => (j_go_s rfl).trans e_iconst,
  fun _ _ => (j_go_s rfl).trans e_istore_n,
  fun _ => (j_go_s rfl).trans e_iconst,
  fun _ _ => (j_go_s rfl).trans e_istore,
  fun _ => (j_go_s rfl).trans e_iconst,
  fun _ _ => (j_go_s rfl).trans e_istore,
  fun _ => (j_go_s rfl).trans e_iload,
  fun _ => (j_go_s rfl).trans e_bipush,
  fun _ _ _ => (j_go_s rfl).trans e_icmp,
  fun _ => (j_go_s rfl).trans e_aload_n,
  fun _ _ => (j_go_s rfl).trans e_getf,
  fun _ => (j_go_s rfl).trans e_bipush,
  fun _ => (j_go_s rfl).trans e_iload_n,
  fun _ _ _ => (j_go_s rfl).trans e_imul,
  fun _ => (j_go_s rfl).trans e_iload,
  fun _ _ _ => (j_go_s rfl).trans e_iadd,
  fun _ _ _ => (j_go_s rfl).trans e_iald,
  fun _ _ => (j_go_s rfl).trans e_istore,
  fun _ => (j_go_s rfl).trans e_iload,
  fun _ _ => (j_go_s rfl).trans e_if,
  fun _ => (j_go_s rfl).trans e_aload_n,
  fun _ _ => (j_go_s rfl).trans e_getf,
  fun _ => (j_go_s rfl).trans e_iload,
  fun _ _ _ => (j_go_s rfl).trans e_iald,
  fun _ _ => (j_go_s rfl).trans e_if,
  fun _ => (j_go_s rfl).trans e_iconst,
  fun _ => (j_go_s rfl).trans e_goto,
  fun _ => (j_go_s rfl).trans e_aload_n,
  fun _ => (j_go_s rfl).trans e_iload,
  fun _ => (j_go_s rfl).trans e_iload_n,
  fun _ _ _ _ => (j_go_s rfl).trans e_callv,
  fun _ _ => (j_go_s rfl).trans e_istore,
  fun _ => (j_go_s rfl).trans e_iload,
  fun _ _ => (j_go_s rfl).trans e_if,
  fun _ => (j_go_s rfl).trans e_sipush,
  fun _ => (j_go_s rfl).trans e_iload,
  fun _ _ _ => (j_go_s rfl).trans e_imul,
  fun _ => (j_go_s rfl).trans e_sipush,
  fun _ _ _ => (j_go_s rfl).trans e_iadd,
  fun _ => (j_go_s rfl).trans e_aload_n,
  fun _ _ => (j_go_s rfl).trans e_getf,
  fun _ => (j_go_s rfl).trans e_iload,
  fun _ _ _ => (j_go_s rfl).trans e_iald,
  fun _ _ _ => (j_go_s rfl).trans e_isub,
  fun _ => (j_go_s rfl).trans e_iload,
  fun _ _ _ => (j_go_s rfl).trans e_icmp,
  fun _ => (j_go_s rfl).trans e_iload,
  fun _ _ => (j_go_s rfl).trans e_istore_n,
  fun _ => (j_go_s rfl).trans e_sipush,
  fun _ => (j_go_s rfl).trans e_iload,
  fun _ _ _ => (j_go_s rfl).trans e_imul,
  fun _ => (j_go_s rfl).trans e_sipush,
  fun _ _ _ => (j_go_s rfl).trans e_iadd,
  fun _ => (j_go_s rfl).trans e_aload_n,
  fun _ _ => (j_go_s rfl).trans e_getf,
  fun _ => (j_go_s rfl).trans e_iload,
  fun _ _ _ => (j_go_s rfl).trans e_iald,
  fun _ _ _ => (j_go_s rfl).trans e_isub,
  fun _ _ => (j_go_s rfl).trans e_istore,
  fun _ => (j_go_s rfl).trans e_iinc,
  fun _ => (j_go_s rfl).trans e_goto,
  fun _ => (j_go_s rfl).trans e_iload_n,
  fun _ => (j_go_s rfl).trans e_iret⟩
set_option maxRecDepth 100000 in
set_option maxHeartbeats 4000000 in
theorem st_Ref_measure {post : Option Value → jW → Prop} {cut : List Nat} {n : Nat} {ls : jL} {w : jW} {cb sb : Nat} : (∀ (r : List Value), j_go (jmt 104) post cut (n + 1) 0 ls r w cb sb ↔ j_k (jmt 104) post cut n 1 ls (.int (Int32.ofInt 0) :: r) w cb sb) ∧
  (∀ (r : List Value) (x : Int32), j_go (jmt 104) post cut (n + 1) 1 ls (.int x :: r) w cb sb ↔ j_ok1 ls 3 = true ∧ j_k (jmt 104) post cut n 2 (ls.set 3 (some (.int x))) r w cb sb) ∧
  (∀ (r : List Value), j_go (jmt 104) post cut (n + 1) 2 ls r w cb sb ↔ g_ld ls[3]? (fun v => t_i v ∧ j_k (jmt 104) post cut n 3 ls (v :: r) w cb sb)) ∧
  (∀ (r : List Value), j_go (jmt 104) post cut (n + 1) 3 ls r w cb sb ↔ j_k (jmt 104) post cut n 5 ls (.int (Int8.ofInt 8).toInt32 :: r) w cb sb) ∧
  (∀ (r : List Value) (a b : Int32), j_go (jmt 104) post cut (n + 1) 5 ls (.int b :: .int a :: r) w cb sb ↔ (b ≤ a → j_k (jmt 104) post cut n 30 ls r w cb sb) ∧ (¬ (b ≤ a) → j_k (jmt 104) post cut n 8 ls r w cb sb)) ∧
  (∀ (r : List Value), j_go (jmt 104) post cut (n + 1) 8 ls r w cb sb ↔ g_ld ls[0]? (fun v => t_a v ∧ j_k (jmt 104) post cut n 9 ls (v :: r) w cb sb)) ∧
  (∀ (r : List Value) (a : Nat), j_go (jmt 104) post cut (n + 1) 9 ls (.ref a :: r) w cb sb ↔ g_ob 8 (w a) (fun fs => g_v fs[24]? (fun v => j_k (jmt 104) post cut n 12 ls (v :: r) w cb sb))) ∧
  (∀ (r : List Value), j_go (jmt 104) post cut (n + 1) 12 ls r w cb sb ↔ g_ld ls[3]? (fun v => t_i v ∧ j_k (jmt 104) post cut n 13 ls (v :: r) w cb sb)) ∧
  (∀ (r : List Value), j_go (jmt 104) post cut (n + 1) 13 ls r w cb sb ↔ g_ld ls[3]? (fun v => t_i v ∧ j_k (jmt 104) post cut n 14 ls (v :: r) w cb sb)) ∧
  (∀ (r : List Value), j_go (jmt 104) post cut (n + 1) 14 ls r w cb sb ↔ g_ld ls[2]? (fun v => t_i v ∧ j_k (jmt 104) post cut n 15 ls (v :: r) w cb sb)) ∧
  (∀ (r : List Value) (a b : Int32), j_go (jmt 104) post cut (n + 1) 15 ls (.int b :: .int a :: r) w cb sb ↔ (¬ a = b → j_k (jmt 104) post cut n 22 ls r w cb sb) ∧ (¬ (¬ a = b) → j_k (jmt 104) post cut n 18 ls r w cb sb)) ∧
  (∀ (r : List Value), j_go (jmt 104) post cut (n + 1) 18 ls r w cb sb ↔ j_k (jmt 104) post cut n 19 ls (.int (Int32.ofInt 0) :: r) w cb sb) ∧
  (∀ (r : List Value), j_go (jmt 104) post cut (n + 1) 19 ls r w cb sb ↔ j_k (jmt 104) post cut n 23 ls r w cb sb) ∧
  (∀ (r : List Value), j_go (jmt 104) post cut (n + 1) 22 ls r w cb sb ↔ j_k (jmt 104) post cut n 23 ls (.int (Int32.ofInt (-1)) :: r) w cb sb) ∧
  (∀ (r : List Value) (a : Nat) (j v : Int32), j_go (jmt 104) post cut (n + 1) 23 ls (.int v :: .int j :: .ref a :: r) w cb sb ↔ g_ia 0 (w a) (fun m f => vp_in j m ∧ j_k (jmt 104) post cut n 24 ls r ((j_up w a (.inl (0, m, .inl (upd f j.toNatClampNeg v))))) cb sb)) ∧
  (∀ (r : List Value), j_go (jmt 104) post cut (n + 1) 24 ls r w cb sb ↔ g_ld ls[3]? (fun v => (match v with
      | .int x => j_ok1 ls 3 = true ∧ j_k (jmt 104) post cut n 27 (ls.set 3 (some (.int (x + Int32.ofInt 1)))) r w cb sb
      | _ => False))) ∧
  (∀ (r : List Value), j_go (jmt 104) post cut (n + 1) 27 ls r w cb sb ↔ j_k (jmt 104) post cut n 2 ls r w cb sb) ∧
  (∀ (r : List Value), j_go (jmt 104) post cut (n + 1) 30 ls r w cb sb ↔ j_k (jmt 104) post cut n 31 ls (.int (Int32.ofInt 0) :: r) w cb sb) ∧
  (∀ (r : List Value) (x : Int32), j_go (jmt 104) post cut (n + 1) 31 ls (.int x :: r) w cb sb ↔ j_ok1 ls 3 = true ∧ j_k (jmt 104) post cut n 32 (ls.set 3 (some (.int x))) r w cb sb) ∧
  (∀ (r : List Value), j_go (jmt 104) post cut (n + 1) 32 ls r w cb sb ↔ g_ld ls[3]? (fun v => t_i v ∧ j_k (jmt 104) post cut n 33 ls (v :: r) w cb sb)) ∧
  (∀ (r : List Value), j_go (jmt 104) post cut (n + 1) 33 ls r w cb sb ↔ j_k (jmt 104) post cut n 35 ls (.int (Int8.ofInt 16).toInt32 :: r) w cb sb) ∧
  (∀ (r : List Value), j_go (jmt 104) post cut (n + 1) 35 ls r w cb sb ↔ g_ld ls[0]? (fun v => t_a v ∧ j_k (jmt 104) post cut n 36 ls (v :: r) w cb sb)) ∧
  (∀ (r : List Value) (a : Nat), j_go (jmt 104) post cut (n + 1) 36 ls (.ref a :: r) w cb sb ↔ g_ob 8 (w a) (fun fs => g_v fs[1]? (fun v => j_k (jmt 104) post cut n 39 ls (v :: r) w cb sb))) ∧
  (∀ (r : List Value) (x y : Int32), j_go (jmt 104) post cut (n + 1) 39 ls (.int y :: .int x :: r) w cb sb ↔ j_k (jmt 104) post cut n 40 ls (.int (x * y) :: r) w cb sb) ∧
  (∀ (r : List Value) (a b : Int32), j_go (jmt 104) post cut (n + 1) 40 ls (.int b :: .int a :: r) w cb sb ↔ (b ≤ a → j_k (jmt 104) post cut n 171 ls r w cb sb) ∧ (¬ (b ≤ a) → j_k (jmt 104) post cut n 43 ls r w cb sb)) ∧
  (∀ (r : List Value), j_go (jmt 104) post cut (n + 1) 43 ls r w cb sb ↔ g_ld ls[3]? (fun v => t_i v ∧ j_k (jmt 104) post cut n 44 ls (v :: r) w cb sb)) ∧
  (∀ (r : List Value), j_go (jmt 104) post cut (n + 1) 44 ls r w cb sb ↔ j_k (jmt 104) post cut n 45 ls (.int (Int32.ofInt 2) :: r) w cb sb) ∧
  (∀ (r : List Value) (a b : Int32), j_go (jmt 104) post cut (n + 1) 45 ls (.int b :: .int a :: r) w cb sb ↔ ¬ b = 0 ∧ j_k (jmt 104) post cut n 46 ls (.int (a / b) :: r) w cb sb) ∧
  (∀ (r : List Value), j_go (jmt 104) post cut (n + 1) 46 ls r w cb sb ↔ g_ld ls[0]? (fun v => t_a v ∧ j_k (jmt 104) post cut n 47 ls (v :: r) w cb sb)) ∧
  (∀ (r : List Value) (a : Nat), j_go (jmt 104) post cut (n + 1) 47 ls (.ref a :: r) w cb sb ↔ g_ob 8 (w a) (fun fs => g_v fs[1]? (fun v => j_k (jmt 104) post cut n 50 ls (v :: r) w cb sb))) ∧
  (∀ (r : List Value) (a b : Int32), j_go (jmt 104) post cut (n + 1) 50 ls (.int b :: .int a :: r) w cb sb ↔ ¬ b = 0 ∧ j_k (jmt 104) post cut n 51 ls (.int (a - a / b * b) :: r) w cb sb) ∧
  (∀ (r : List Value) (x : Int32), j_go (jmt 104) post cut (n + 1) 51 ls (.int x :: r) w cb sb ↔ j_ok1 ls 4 = true ∧ j_k (jmt 104) post cut n 53 (ls.set 4 (some (.int x))) r w cb sb) ∧
  (∀ (r : List Value), j_go (jmt 104) post cut (n + 1) 53 ls r w cb sb ↔ g_ld ls[0]? (fun v => t_a v ∧ j_k (jmt 104) post cut n 54 ls (v :: r) w cb sb)) ∧
  (∀ (r : List Value) (a : Nat), j_go (jmt 104) post cut (n + 1) 54 ls (.ref a :: r) w cb sb ↔ g_ob 8 (w a) (fun fs => g_v fs[2]? (fun v => j_k (jmt 104) post cut n 57 ls (v :: r) w cb sb))) ∧
  (∀ (r : List Value), j_go (jmt 104) post cut (n + 1) 57 ls r w cb sb ↔ j_k (jmt 104) post cut n 58 ls (.int (Int32.ofInt 2) :: r) w cb sb) ∧
  (∀ (r : List Value), j_go (jmt 104) post cut (n + 1) 58 ls r w cb sb ↔ g_ld ls[4]? (fun v => t_i v ∧ j_k (jmt 104) post cut n 60 ls (v :: r) w cb sb)) ∧
  (∀ (r : List Value) (x y : Int32), j_go (jmt 104) post cut (n + 1) 60 ls (.int y :: .int x :: r) w cb sb ↔ j_k (jmt 104) post cut n 61 ls (.int (x * y) :: r) w cb sb) ∧
  (∀ (r : List Value), j_go (jmt 104) post cut (n + 1) 61 ls r w cb sb ↔ g_ld ls[3]? (fun v => t_i v ∧ j_k (jmt 104) post cut n 62 ls (v :: r) w cb sb)) ∧
  (∀ (r : List Value), j_go (jmt 104) post cut (n + 1) 62 ls r w cb sb ↔ j_k (jmt 104) post cut n 63 ls (.int (Int32.ofInt 2) :: r) w cb sb) ∧
  (∀ (r : List Value) (a b : Int32), j_go (jmt 104) post cut (n + 1) 63 ls (.int b :: .int a :: r) w cb sb ↔ ¬ b = 0 ∧ j_k (jmt 104) post cut n 64 ls (.int (a - a / b * b) :: r) w cb sb) ∧
  (∀ (r : List Value) (x y : Int32), j_go (jmt 104) post cut (n + 1) 64 ls (.int y :: .int x :: r) w cb sb ↔ j_k (jmt 104) post cut n 65 ls (.int (x + y) :: r) w cb sb) ∧
  (∀ (r : List Value) (a : Nat) (j : Int32), j_go (jmt 104) post cut (n + 1) 65 ls (.int j :: .ref a :: r) w cb sb ↔ g_ia 0 (w a) (fun m f => vp_in j m ∧ j_k (jmt 104) post cut n 66 ls (.int (f j.toNatClampNeg) :: r) w cb sb)) ∧
  (∀ (r : List Value) (x : Int32), j_go (jmt 104) post cut (n + 1) 66 ls (.int x :: r) w cb sb ↔ j_ok1 ls 5 = true ∧ j_k (jmt 104) post cut n 68 (ls.set 5 (some (.int x))) r w cb sb) ∧
  (∀ (r : List Value), j_go (jmt 104) post cut (n + 1) 68 ls r w cb sb ↔ g_ld ls[0]? (fun v => t_a v ∧ j_k (jmt 104) post cut n 69 ls (v :: r) w cb sb)) ∧
  (∀ (r : List Value) (a : Nat), j_go (jmt 104) post cut (n + 1) 69 ls (.ref a :: r) w cb sb ↔ g_ob 8 (w a) (fun fs => g_v fs[2]? (fun v => j_k (jmt 104) post cut n 72 ls (v :: r) w cb sb))) ∧
  (∀ (r : List Value), j_go (jmt 104) post cut (n + 1) 72 ls r w cb sb ↔ j_k (jmt 104) post cut n 73 ls (.int (Int32.ofInt 2) :: r) w cb sb) ∧
  (∀ (r : List Value), j_go (jmt 104) post cut (n + 1) 73 ls r w cb sb ↔ g_ld ls[4]? (fun v => t_i v ∧ j_k (jmt 104) post cut n 75 ls (v :: r) w cb sb)) ∧
  (∀ (r : List Value) (x y : Int32), j_go (jmt 104) post cut (n + 1) 75 ls (.int y :: .int x :: r) w cb sb ↔ j_k (jmt 104) post cut n 76 ls (.int (x * y) :: r) w cb sb) ∧
  (∀ (r : List Value), j_go (jmt 104) post cut (n + 1) 76 ls r w cb sb ↔ j_k (jmt 104) post cut n 77 ls (.int (Int32.ofInt 1) :: r) w cb sb) ∧
  (∀ (r : List Value) (x y : Int32), j_go (jmt 104) post cut (n + 1) 77 ls (.int y :: .int x :: r) w cb sb ↔ j_k (jmt 104) post cut n 78 ls (.int (x + y) :: r) w cb sb) ∧
  (∀ (r : List Value), j_go (jmt 104) post cut (n + 1) 78 ls r w cb sb ↔ g_ld ls[3]? (fun v => t_i v ∧ j_k (jmt 104) post cut n 79 ls (v :: r) w cb sb)) ∧
  (∀ (r : List Value), j_go (jmt 104) post cut (n + 1) 79 ls r w cb sb ↔ j_k (jmt 104) post cut n 80 ls (.int (Int32.ofInt 2) :: r) w cb sb) ∧
  (∀ (r : List Value) (a b : Int32), j_go (jmt 104) post cut (n + 1) 80 ls (.int b :: .int a :: r) w cb sb ↔ ¬ b = 0 ∧ j_k (jmt 104) post cut n 81 ls (.int (a - a / b * b) :: r) w cb sb) ∧
  (∀ (r : List Value) (x y : Int32), j_go (jmt 104) post cut (n + 1) 81 ls (.int y :: .int x :: r) w cb sb ↔ j_k (jmt 104) post cut n 82 ls (.int (x - y) :: r) w cb sb) ∧
  (∀ (r : List Value) (a : Nat) (j : Int32), j_go (jmt 104) post cut (n + 1) 82 ls (.int j :: .ref a :: r) w cb sb ↔ g_ia 0 (w a) (fun m f => vp_in j m ∧ j_k (jmt 104) post cut n 83 ls (.int (f j.toNatClampNeg) :: r) w cb sb)) ∧
  (∀ (r : List Value) (x : Int32), j_go (jmt 104) post cut (n + 1) 83 ls (.int x :: r) w cb sb ↔ j_ok1 ls 6 = true ∧ j_k (jmt 104) post cut n 85 (ls.set 6 (some (.int x))) r w cb sb) ∧
  (∀ (r : List Value), j_go (jmt 104) post cut (n + 1) 85 ls r w cb sb ↔ g_ld ls[0]? (fun v => t_a v ∧ j_k (jmt 104) post cut n 86 ls (v :: r) w cb sb)) ∧
  (∀ (r : List Value), j_go (jmt 104) post cut (n + 1) 86 ls r w cb sb ↔ g_ld ls[1]? (fun v => t_i v ∧ j_k (jmt 104) post cut n 87 ls (v :: r) w cb sb)) ∧
  (∀ (r : List Value), j_go (jmt 104) post cut (n + 1) 87 ls r w cb sb ↔ g_ld ls[4]? (fun v => t_i v ∧ j_k (jmt 104) post cut n 89 ls (v :: r) w cb sb)) ∧
  (∀ (r : List Value) (a0 a1 : Value) (b : Nat), j_go (jmt 104) post cut (n + 1) 89 ls (a1 :: a0 :: .ref b :: r) w cb sb ↔ g_ob 8 (w b) (fun _ => True) ∧ j_w8 r ∧ g_call (jmt 105) [.ref b, a0, a1] w cb sb (fun v w' c s => j_k (jmt 104) post cut n 92 ls (v.toList ++ r) w' c s)) ∧
  (∀ (r : List Value) (a : Int32), j_go (jmt 104) post cut (n + 1) 92 ls (.int a :: r) w cb sb ↔ (a = 0 → j_k (jmt 104) post cut n 165 ls r w cb sb) ∧ (¬ (a = 0) → j_k (jmt 104) post cut n 95 ls r w cb sb)) ∧
  (∀ (r : List Value), j_go (jmt 104) post cut (n + 1) 95 ls r w cb sb ↔ g_ld ls[0]? (fun v => t_a v ∧ j_k (jmt 104) post cut n 96 ls (v :: r) w cb sb)) ∧
  (∀ (r : List Value) (a : Nat), j_go (jmt 104) post cut (n + 1) 96 ls (.ref a :: r) w cb sb ↔ g_ob 8 (w a) (fun fs => g_v fs[24]? (fun v => j_k (jmt 104) post cut n 99 ls (v :: r) w cb sb))) ∧
  (∀ (r : List Value), j_go (jmt 104) post cut (n + 1) 99 ls r w cb sb ↔ g_ld ls[5]? (fun v => t_i v ∧ j_k (jmt 104) post cut n 101 ls (v :: r) w cb sb)) ∧
  (∀ (r : List Value) (a : Nat) (j : Int32), j_go (jmt 104) post cut (n + 1) 101 ls (.int j :: .ref a :: r) w cb sb ↔ g_ia 0 (w a) (fun m f => vp_in j m ∧ j_k (jmt 104) post cut n 102 ls (.int (f j.toNatClampNeg) :: r) w cb sb)) ∧
  (∀ (r : List Value) (a : Int32), j_go (jmt 104) post cut (n + 1) 102 ls (.int a :: r) w cb sb ↔ (0 ≤ a → j_k (jmt 104) post cut n 108 ls r w cb sb) ∧ (¬ (0 ≤ a) → j_k (jmt 104) post cut n 105 ls r w cb sb)) ∧
  (∀ (r : List Value), j_go (jmt 104) post cut (n + 1) 105 ls r w cb sb ↔ j_k (jmt 104) post cut n 165 ls r w cb sb) ∧
  (∀ (r : List Value), j_go (jmt 104) post cut (n + 1) 108 ls r w cb sb ↔ g_ld ls[0]? (fun v => t_a v ∧ j_k (jmt 104) post cut n 109 ls (v :: r) w cb sb)) ∧
  (∀ (r : List Value) (a : Nat), j_go (jmt 104) post cut (n + 1) 109 ls (.ref a :: r) w cb sb ↔ g_ob 8 (w a) (fun fs => g_v fs[24]? (fun v => j_k (jmt 104) post cut n 112 ls (v :: r) w cb sb))) ∧
  (∀ (r : List Value), j_go (jmt 104) post cut (n + 1) 112 ls r w cb sb ↔ g_ld ls[6]? (fun v => t_i v ∧ j_k (jmt 104) post cut n 114 ls (v :: r) w cb sb)) ∧
  (∀ (r : List Value) (a : Nat) (j : Int32), j_go (jmt 104) post cut (n + 1) 114 ls (.int j :: .ref a :: r) w cb sb ↔ g_ia 0 (w a) (fun m f => vp_in j m ∧ j_k (jmt 104) post cut n 115 ls (.int (f j.toNatClampNeg) :: r) w cb sb)) ∧
  (∀ (r : List Value) (a : Int32), j_go (jmt 104) post cut (n + 1) 115 ls (.int a :: r) w cb sb ↔ (a < 0 → j_k (jmt 104) post cut n 143 ls r w cb sb) ∧ (¬ (a < 0) → j_k (jmt 104) post cut n 118 ls r w cb sb)) ∧
  (∀ (r : List Value), j_go (jmt 104) post cut (n + 1) 118 ls r w cb sb ↔ g_ld ls[0]? (fun v => t_a v ∧ j_k (jmt 104) post cut n 119 ls (v :: r) w cb sb)) ∧
  (∀ (r : List Value) (a : Nat), j_go (jmt 104) post cut (n + 1) 119 ls (.ref a :: r) w cb sb ↔ g_ob 8 (w a) (fun fs => g_v fs[24]? (fun v => j_k (jmt 104) post cut n 122 ls (v :: r) w cb sb))) ∧
  (∀ (r : List Value), j_go (jmt 104) post cut (n + 1) 122 ls r w cb sb ↔ g_ld ls[5]? (fun v => t_i v ∧ j_k (jmt 104) post cut n 124 ls (v :: r) w cb sb)) ∧
  (∀ (r : List Value) (a : Nat) (j : Int32), j_go (jmt 104) post cut (n + 1) 124 ls (.int j :: .ref a :: r) w cb sb ↔ g_ia 0 (w a) (fun m f => vp_in j m ∧ j_k (jmt 104) post cut n 125 ls (.int (f j.toNatClampNeg) :: r) w cb sb)) ∧
  (∀ (r : List Value), j_go (jmt 104) post cut (n + 1) 125 ls r w cb sb ↔ g_ld ls[0]? (fun v => t_a v ∧ j_k (jmt 104) post cut n 126 ls (v :: r) w cb sb)) ∧
  (∀ (r : List Value) (a : Nat), j_go (jmt 104) post cut (n + 1) 126 ls (.ref a :: r) w cb sb ↔ g_ob 8 (w a) (fun fs => g_v fs[3]? (fun v => j_k (jmt 104) post cut n 129 ls (v :: r) w cb sb))) ∧
  (∀ (r : List Value), j_go (jmt 104) post cut (n + 1) 129 ls r w cb sb ↔ g_ld ls[4]? (fun v => t_i v ∧ j_k (jmt 104) post cut n 131 ls (v :: r) w cb sb)) ∧
  (∀ (r : List Value) (a : Nat) (j : Int32), j_go (jmt 104) post cut (n + 1) 131 ls (.int j :: .ref a :: r) w cb sb ↔ g_ia 0 (w a) (fun m f => vp_in j m ∧ j_k (jmt 104) post cut n 132 ls (.int (f j.toNatClampNeg) :: r) w cb sb)) ∧
  (∀ (r : List Value) (x y : Int32), j_go (jmt 104) post cut (n + 1) 132 ls (.int y :: .int x :: r) w cb sb ↔ j_k (jmt 104) post cut n 133 ls (.int (x + y) :: r) w cb sb) ∧
  (∀ (r : List Value), j_go (jmt 104) post cut (n + 1) 133 ls r w cb sb ↔ g_ld ls[0]? (fun v => t_a v ∧ j_k (jmt 104) post cut n 134 ls (v :: r) w cb sb)) ∧
  (∀ (r : List Value) (a : Nat), j_go (jmt 104) post cut (n + 1) 134 ls (.ref a :: r) w cb sb ↔ g_ob 8 (w a) (fun fs => g_v fs[24]? (fun v => j_k (jmt 104) post cut n 137 ls (v :: r) w cb sb))) ∧
  (∀ (r : List Value), j_go (jmt 104) post cut (n + 1) 137 ls r w cb sb ↔ g_ld ls[6]? (fun v => t_i v ∧ j_k (jmt 104) post cut n 139 ls (v :: r) w cb sb)) ∧
  (∀ (r : List Value) (a : Nat) (j : Int32), j_go (jmt 104) post cut (n + 1) 139 ls (.int j :: .ref a :: r) w cb sb ↔ g_ia 0 (w a) (fun m f => vp_in j m ∧ j_k (jmt 104) post cut n 140 ls (.int (f j.toNatClampNeg) :: r) w cb sb)) ∧
  (∀ (r : List Value) (a b : Int32), j_go (jmt 104) post cut (n + 1) 140 ls (.int b :: .int a :: r) w cb sb ↔ (b ≤ a → j_k (jmt 104) post cut n 165 ls r w cb sb) ∧ (¬ (b ≤ a) → j_k (jmt 104) post cut n 143 ls r w cb sb)) ∧
  (∀ (r : List Value), j_go (jmt 104) post cut (n + 1) 143 ls r w cb sb ↔ g_ld ls[0]? (fun v => t_a v ∧ j_k (jmt 104) post cut n 144 ls (v :: r) w cb sb)) ∧
  (∀ (r : List Value) (a : Nat), j_go (jmt 104) post cut (n + 1) 144 ls (.ref a :: r) w cb sb ↔ g_ob 8 (w a) (fun fs => g_v fs[24]? (fun v => j_k (jmt 104) post cut n 147 ls (v :: r) w cb sb))) ∧
  (∀ (r : List Value), j_go (jmt 104) post cut (n + 1) 147 ls r w cb sb ↔ g_ld ls[6]? (fun v => t_i v ∧ j_k (jmt 104) post cut n 149 ls (v :: r) w cb sb)) ∧
  (∀ (r : List Value), j_go (jmt 104) post cut (n + 1) 149 ls r w cb sb ↔ g_ld ls[0]? (fun v => t_a v ∧ j_k (jmt 104) post cut n 150 ls (v :: r) w cb sb)) ∧
  (∀ (r : List Value) (a : Nat), j_go (jmt 104) post cut (n + 1) 150 ls (.ref a :: r) w cb sb ↔ g_ob 8 (w a) (fun fs => g_v fs[24]? (fun v => j_k (jmt 104) post cut n 153 ls (v :: r) w cb sb))) ∧
  (∀ (r : List Value), j_go (jmt 104) post cut (n + 1) 153 ls r w cb sb ↔ g_ld ls[5]? (fun v => t_i v ∧ j_k (jmt 104) post cut n 155 ls (v :: r) w cb sb)) ∧
  (∀ (r : List Value) (a : Nat) (j : Int32), j_go (jmt 104) post cut (n + 1) 155 ls (.int j :: .ref a :: r) w cb sb ↔ g_ia 0 (w a) (fun m f => vp_in j m ∧ j_k (jmt 104) post cut n 156 ls (.int (f j.toNatClampNeg) :: r) w cb sb)) ∧
  (∀ (r : List Value), j_go (jmt 104) post cut (n + 1) 156 ls r w cb sb ↔ g_ld ls[0]? (fun v => t_a v ∧ j_k (jmt 104) post cut n 157 ls (v :: r) w cb sb)) ∧
  (∀ (r : List Value) (a : Nat), j_go (jmt 104) post cut (n + 1) 157 ls (.ref a :: r) w cb sb ↔ g_ob 8 (w a) (fun fs => g_v fs[3]? (fun v => j_k (jmt 104) post cut n 160 ls (v :: r) w cb sb))) ∧
  (∀ (r : List Value), j_go (jmt 104) post cut (n + 1) 160 ls r w cb sb ↔ g_ld ls[4]? (fun v => t_i v ∧ j_k (jmt 104) post cut n 162 ls (v :: r) w cb sb)) ∧
  (∀ (r : List Value) (a : Nat) (j : Int32), j_go (jmt 104) post cut (n + 1) 162 ls (.int j :: .ref a :: r) w cb sb ↔ g_ia 0 (w a) (fun m f => vp_in j m ∧ j_k (jmt 104) post cut n 163 ls (.int (f j.toNatClampNeg) :: r) w cb sb)) ∧
  (∀ (r : List Value) (x y : Int32), j_go (jmt 104) post cut (n + 1) 163 ls (.int y :: .int x :: r) w cb sb ↔ j_k (jmt 104) post cut n 164 ls (.int (x + y) :: r) w cb sb) ∧
  (∀ (r : List Value) (a : Nat) (j v : Int32), j_go (jmt 104) post cut (n + 1) 164 ls (.int v :: .int j :: .ref a :: r) w cb sb ↔ g_ia 0 (w a) (fun m f => vp_in j m ∧ j_k (jmt 104) post cut n 165 ls r ((j_up w a (.inl (0, m, .inl (upd f j.toNatClampNeg v))))) cb sb)) ∧
  (∀ (r : List Value), j_go (jmt 104) post cut (n + 1) 165 ls r w cb sb ↔ g_ld ls[3]? (fun v => (match v with
      | .int x => j_ok1 ls 3 = true ∧ j_k (jmt 104) post cut n 168 (ls.set 3 (some (.int (x + Int32.ofInt 1)))) r w cb sb
      | _ => False))) ∧
  (∀ (r : List Value), j_go (jmt 104) post cut (n + 1) 168 ls r w cb sb ↔ j_k (jmt 104) post cut n 32 ls r w cb sb) ∧
  (j_go (jmt 104) post cut (n + 1) 171 ls [] w cb sb ↔ post none w) := ⟨fun _ => (j_go_s rfl).trans e_iconst,
  fun _ _ => (j_go_s rfl).trans e_istore_n,
  fun _ => (j_go_s rfl).trans e_iload_n,
  fun _ => (j_go_s rfl).trans e_bipush,
  fun _ _ _ => (j_go_s rfl).trans e_icmp,
  fun _ => (j_go_s rfl).trans e_aload_n,
  fun _ _ => (j_go_s rfl).trans e_getf,
  fun _ => (j_go_s rfl).trans e_iload_n,
  fun _ => (j_go_s rfl).trans e_iload_n,
  fun _ => (j_go_s rfl).trans e_iload_n,
  fun _ _ _ => (j_go_s rfl).trans e_icmp,
  fun _ => (j_go_s rfl).trans e_iconst,
  fun _ => (j_go_s rfl).trans e_goto,
  fun _ => (j_go_s rfl).trans e_iconst,
  fun _ _ _ _ => (j_go_s rfl).trans e_iast,
  fun _ => (j_go_s rfl).trans e_iinc,
  fun _ => (j_go_s rfl).trans e_goto,
  fun _ => (j_go_s rfl).trans e_iconst,
  fun _ _ => (j_go_s rfl).trans e_istore_n,
  fun _ => (j_go_s rfl).trans e_iload_n,
  fun _ => (j_go_s rfl).trans e_bipush,
  fun _ => (j_go_s rfl).trans e_aload_n,
  fun _ _ => (j_go_s rfl).trans e_getf,
  fun _ _ _ => (j_go_s rfl).trans e_imul,
  fun _ _ _ => (j_go_s rfl).trans e_icmp,
  fun _ => (j_go_s rfl).trans e_iload_n,
  fun _ => (j_go_s rfl).trans e_iconst,
  fun _ _ _ => (j_go_s rfl).trans e_idiv,
  fun _ => (j_go_s rfl).trans e_aload_n,
  fun _ _ => (j_go_s rfl).trans e_getf,
  fun _ _ _ => (j_go_s rfl).trans e_irem,
  fun _ _ => (j_go_s rfl).trans e_istore,
  fun _ => (j_go_s rfl).trans e_aload_n,
  fun _ _ => (j_go_s rfl).trans e_getf,
  fun _ => (j_go_s rfl).trans e_iconst,
  fun _ => (j_go_s rfl).trans e_iload,
  fun _ _ _ => (j_go_s rfl).trans e_imul,
  fun _ => (j_go_s rfl).trans e_iload_n,
  fun _ => (j_go_s rfl).trans e_iconst,
  fun _ _ _ => (j_go_s rfl).trans e_irem,
  fun _ _ _ => (j_go_s rfl).trans e_iadd,
  fun _ _ _ => (j_go_s rfl).trans e_iald,
  fun _ _ => (j_go_s rfl).trans e_istore,
  fun _ => (j_go_s rfl).trans e_aload_n,
  fun _ _ => (j_go_s rfl).trans e_getf,
  fun _ => (j_go_s rfl).trans e_iconst,
  fun _ => (j_go_s rfl).trans e_iload,
  fun _ _ _ => (j_go_s rfl).trans e_imul,
  fun _ => (j_go_s rfl).trans e_iconst,
  fun _ _ _ => (j_go_s rfl).trans e_iadd,
  fun _ => (j_go_s rfl).trans e_iload_n,
  fun _ => (j_go_s rfl).trans e_iconst,
  fun _ _ _ => (j_go_s rfl).trans e_irem,
  fun _ _ _ => (j_go_s rfl).trans e_isub,
  fun _ _ _ => (j_go_s rfl).trans e_iald,
  fun _ _ => (j_go_s rfl).trans e_istore,
  fun _ => (j_go_s rfl).trans e_aload_n,
  fun _ => (j_go_s rfl).trans e_iload_n,
  fun _ => (j_go_s rfl).trans e_iload,
  fun _ _ _ _ => (j_go_s rfl).trans e_callv,
  fun _ _ => (j_go_s rfl).trans e_if,
  fun _ => (j_go_s rfl).trans e_aload_n,
  fun _ _ => (j_go_s rfl).trans e_getf,
  fun _ => (j_go_s rfl).trans e_iload,
  fun _ _ _ => (j_go_s rfl).trans e_iald,
  fun _ _ => (j_go_s rfl).trans e_if,
  fun _ => (j_go_s rfl).trans e_goto,
  fun _ => (j_go_s rfl).trans e_aload_n,
  fun _ _ => (j_go_s rfl).trans e_getf,
  fun _ => (j_go_s rfl).trans e_iload,
  fun _ _ _ => (j_go_s rfl).trans e_iald,
  fun _ _ => (j_go_s rfl).trans e_if,
  fun _ => (j_go_s rfl).trans e_aload_n,
  fun _ _ => (j_go_s rfl).trans e_getf,
  fun _ => (j_go_s rfl).trans e_iload,
  fun _ _ _ => (j_go_s rfl).trans e_iald,
  fun _ => (j_go_s rfl).trans e_aload_n,
  fun _ _ => (j_go_s rfl).trans e_getf,
  fun _ => (j_go_s rfl).trans e_iload,
  fun _ _ _ => (j_go_s rfl).trans e_iald,
  fun _ _ _ => (j_go_s rfl).trans e_iadd,
  fun _ => (j_go_s rfl).trans e_aload_n,
  fun _ _ => (j_go_s rfl).trans e_getf,
  fun _ => (j_go_s rfl).trans e_iload,
  fun _ _ _ => (j_go_s rfl).trans e_iald,
  fun _ _ _ => (j_go_s rfl).trans e_icmp,
  fun _ => (j_go_s rfl).trans e_aload_n,
  fun _ _ => (j_go_s rfl).trans e_getf,
  fun _ => (j_go_s rfl).trans e_iload,
  fun _ => (j_go_s rfl).trans e_aload_n,
  fun _ _ => (j_go_s rfl).trans e_getf,
  fun _ => (j_go_s rfl).trans e_iload,
  fun _ _ _ => (j_go_s rfl).trans e_iald,
  fun _ => (j_go_s rfl).trans e_aload_n,
  fun _ _ => (j_go_s rfl).trans e_getf,
  fun _ => (j_go_s rfl).trans e_iload,
  fun _ _ _ => (j_go_s rfl).trans e_iald,
  fun _ _ _ => (j_go_s rfl).trans e_iadd,
  fun _ _ _ _ => (j_go_s rfl).trans e_iast,
  fun _ => (j_go_s rfl).trans e_iinc,
  fun _ => (j_go_s rfl).trans e_goto,
  (j_go_s rfl).trans e_vret⟩
set_option maxRecDepth 100000 in
set_option maxHeartbeats 4000000 in
theorem st_Ref_good {post : Option Value → jW → Prop} {cut : List Nat} {n : Nat} {ls : jL} {w : jW} {cb sb : Nat} : (∀ (r : List Value), j_go (jmt 105) post cut (n + 1) 0 ls r w cb sb ↔ g_ld ls[0]? (fun v => t_a v ∧ j_k (jmt 105) post cut n 1 ls (v :: r) w cb sb)) ∧
  (∀ (r : List Value) (a : Nat), j_go (jmt 105) post cut (n + 1) 1 ls (.ref a :: r) w cb sb ↔ g_ob 8 (w a) (fun fs => g_v fs[15]? (fun v => j_k (jmt 105) post cut n 4 ls (v :: r) w cb sb))) ∧
  (∀ (r : List Value), j_go (jmt 105) post cut (n + 1) 4 ls r w cb sb ↔ j_k (jmt 105) post cut n 6 ls (.int (Int8.ofInt 8).toInt32 :: r) w cb sb) ∧
  (∀ (r : List Value), j_go (jmt 105) post cut (n + 1) 6 ls r w cb sb ↔ g_ld ls[1]? (fun v => t_i v ∧ j_k (jmt 105) post cut n 7 ls (v :: r) w cb sb)) ∧
  (∀ (r : List Value) (x y : Int32), j_go (jmt 105) post cut (n + 1) 7 ls (.int y :: .int x :: r) w cb sb ↔ j_k (jmt 105) post cut n 8 ls (.int (x * y) :: r) w cb sb) ∧
  (∀ (r : List Value), j_go (jmt 105) post cut (n + 1) 8 ls r w cb sb ↔ g_ld ls[0]? (fun v => t_a v ∧ j_k (jmt 105) post cut n 9 ls (v :: r) w cb sb)) ∧
  (∀ (r : List Value) (a : Nat), j_go (jmt 105) post cut (n + 1) 9 ls (.ref a :: r) w cb sb ↔ g_ob 8 (w a) (fun fs => g_v fs[2]? (fun v => j_k (jmt 105) post cut n 12 ls (v :: r) w cb sb))) ∧
  (∀ (r : List Value), j_go (jmt 105) post cut (n + 1) 12 ls r w cb sb ↔ j_k (jmt 105) post cut n 13 ls (.int (Int32.ofInt 2) :: r) w cb sb) ∧
  (∀ (r : List Value), j_go (jmt 105) post cut (n + 1) 13 ls r w cb sb ↔ g_ld ls[2]? (fun v => t_i v ∧ j_k (jmt 105) post cut n 14 ls (v :: r) w cb sb)) ∧
  (∀ (r : List Value) (x y : Int32), j_go (jmt 105) post cut (n + 1) 14 ls (.int y :: .int x :: r) w cb sb ↔ j_k (jmt 105) post cut n 15 ls (.int (x * y) :: r) w cb sb) ∧
  (∀ (r : List Value) (a : Nat) (j : Int32), j_go (jmt 105) post cut (n + 1) 15 ls (.int j :: .ref a :: r) w cb sb ↔ g_ia 0 (w a) (fun m f => vp_in j m ∧ j_k (jmt 105) post cut n 16 ls (.int (f j.toNatClampNeg) :: r) w cb sb)) ∧
  (∀ (r : List Value) (x y : Int32), j_go (jmt 105) post cut (n + 1) 16 ls (.int y :: .int x :: r) w cb sb ↔ j_k (jmt 105) post cut n 17 ls (.int (x + y) :: r) w cb sb) ∧
  (∀ (r : List Value) (a : Nat) (j : Int32), j_go (jmt 105) post cut (n + 1) 17 ls (.int j :: .ref a :: r) w cb sb ↔ g_ia 0 (w a) (fun m f => vp_in j m ∧ j_k (jmt 105) post cut n 18 ls (.int (f j.toNatClampNeg) :: r) w cb sb)) ∧
  (∀ (r : List Value) (x : Int32), j_go (jmt 105) post cut (n + 1) 18 ls (.int x :: r) w cb sb ↔ j_ok1 ls 3 = true ∧ j_k (jmt 105) post cut n 19 (ls.set 3 (some (.int x))) r w cb sb) ∧
  (∀ (r : List Value), j_go (jmt 105) post cut (n + 1) 19 ls r w cb sb ↔ g_ld ls[0]? (fun v => t_a v ∧ j_k (jmt 105) post cut n 20 ls (v :: r) w cb sb)) ∧
  (∀ (r : List Value) (a : Nat), j_go (jmt 105) post cut (n + 1) 20 ls (.ref a :: r) w cb sb ↔ g_ob 8 (w a) (fun fs => g_v fs[15]? (fun v => j_k (jmt 105) post cut n 23 ls (v :: r) w cb sb))) ∧
  (∀ (r : List Value), j_go (jmt 105) post cut (n + 1) 23 ls r w cb sb ↔ j_k (jmt 105) post cut n 25 ls (.int (Int8.ofInt 8).toInt32 :: r) w cb sb) ∧
  (∀ (r : List Value), j_go (jmt 105) post cut (n + 1) 25 ls r w cb sb ↔ g_ld ls[1]? (fun v => t_i v ∧ j_k (jmt 105) post cut n 26 ls (v :: r) w cb sb)) ∧
  (∀ (r : List Value) (x y : Int32), j_go (jmt 105) post cut (n + 1) 26 ls (.int y :: .int x :: r) w cb sb ↔ j_k (jmt 105) post cut n 27 ls (.int (x * y) :: r) w cb sb) ∧
  (∀ (r : List Value), j_go (jmt 105) post cut (n + 1) 27 ls r w cb sb ↔ g_ld ls[0]? (fun v => t_a v ∧ j_k (jmt 105) post cut n 28 ls (v :: r) w cb sb)) ∧
  (∀ (r : List Value) (a : Nat), j_go (jmt 105) post cut (n + 1) 28 ls (.ref a :: r) w cb sb ↔ g_ob 8 (w a) (fun fs => g_v fs[2]? (fun v => j_k (jmt 105) post cut n 31 ls (v :: r) w cb sb))) ∧
  (∀ (r : List Value), j_go (jmt 105) post cut (n + 1) 31 ls r w cb sb ↔ j_k (jmt 105) post cut n 32 ls (.int (Int32.ofInt 2) :: r) w cb sb) ∧
  (∀ (r : List Value), j_go (jmt 105) post cut (n + 1) 32 ls r w cb sb ↔ g_ld ls[2]? (fun v => t_i v ∧ j_k (jmt 105) post cut n 33 ls (v :: r) w cb sb)) ∧
  (∀ (r : List Value) (x y : Int32), j_go (jmt 105) post cut (n + 1) 33 ls (.int y :: .int x :: r) w cb sb ↔ j_k (jmt 105) post cut n 34 ls (.int (x * y) :: r) w cb sb) ∧
  (∀ (r : List Value), j_go (jmt 105) post cut (n + 1) 34 ls r w cb sb ↔ j_k (jmt 105) post cut n 35 ls (.int (Int32.ofInt 1) :: r) w cb sb) ∧
  (∀ (r : List Value) (x y : Int32), j_go (jmt 105) post cut (n + 1) 35 ls (.int y :: .int x :: r) w cb sb ↔ j_k (jmt 105) post cut n 36 ls (.int (x + y) :: r) w cb sb) ∧
  (∀ (r : List Value) (a : Nat) (j : Int32), j_go (jmt 105) post cut (n + 1) 36 ls (.int j :: .ref a :: r) w cb sb ↔ g_ia 0 (w a) (fun m f => vp_in j m ∧ j_k (jmt 105) post cut n 37 ls (.int (f j.toNatClampNeg) :: r) w cb sb)) ∧
  (∀ (r : List Value) (x y : Int32), j_go (jmt 105) post cut (n + 1) 37 ls (.int y :: .int x :: r) w cb sb ↔ j_k (jmt 105) post cut n 38 ls (.int (x + y) :: r) w cb sb) ∧
  (∀ (r : List Value) (a : Nat) (j : Int32), j_go (jmt 105) post cut (n + 1) 38 ls (.int j :: .ref a :: r) w cb sb ↔ g_ia 0 (w a) (fun m f => vp_in j m ∧ j_k (jmt 105) post cut n 39 ls (.int (f j.toNatClampNeg) :: r) w cb sb)) ∧
  (∀ (r : List Value) (x : Int32), j_go (jmt 105) post cut (n + 1) 39 ls (.int x :: r) w cb sb ↔ j_ok1 ls 4 = true ∧ j_k (jmt 105) post cut n 41 (ls.set 4 (some (.int x))) r w cb sb) ∧
  (∀ (r : List Value), j_go (jmt 105) post cut (n + 1) 41 ls r w cb sb ↔ g_ld ls[3]? (fun v => t_i v ∧ j_k (jmt 105) post cut n 42 ls (v :: r) w cb sb)) ∧
  (∀ (r : List Value) (a : Int32), j_go (jmt 105) post cut (n + 1) 42 ls (.int a :: r) w cb sb ↔ (a ≤ 0 → j_k (jmt 105) post cut n 75 ls r w cb sb) ∧ (¬ (a ≤ 0) → j_k (jmt 105) post cut n 45 ls r w cb sb)) ∧
  (∀ (r : List Value), j_go (jmt 105) post cut (n + 1) 45 ls r w cb sb ↔ g_ld ls[4]? (fun v => t_i v ∧ j_k (jmt 105) post cut n 47 ls (v :: r) w cb sb)) ∧
  (∀ (r : List Value) (a : Int32), j_go (jmt 105) post cut (n + 1) 47 ls (.int a :: r) w cb sb ↔ (a ≤ 0 → j_k (jmt 105) post cut n 75 ls r w cb sb) ∧ (¬ (a ≤ 0) → j_k (jmt 105) post cut n 50 ls r w cb sb)) ∧
  (∀ (r : List Value), j_go (jmt 105) post cut (n + 1) 50 ls r w cb sb ↔ g_ld ls[0]? (fun v => t_a v ∧ j_k (jmt 105) post cut n 51 ls (v :: r) w cb sb)) ∧
  (∀ (r : List Value) (a : Nat), j_go (jmt 105) post cut (n + 1) 51 ls (.ref a :: r) w cb sb ↔ g_ob 8 (w a) (fun fs => g_v fs[11]? (fun v => j_k (jmt 105) post cut n 54 ls (v :: r) w cb sb))) ∧
  (∀ (r : List Value), j_go (jmt 105) post cut (n + 1) 54 ls r w cb sb ↔ g_ld ls[3]? (fun v => t_i v ∧ j_k (jmt 105) post cut n 55 ls (v :: r) w cb sb)) ∧
  (∀ (r : List Value) (a : Nat) (j : Int32), j_go (jmt 105) post cut (n + 1) 55 ls (.int j :: .ref a :: r) w cb sb ↔ g_ia 0 (w a) (fun m f => vp_in j m ∧ j_k (jmt 105) post cut n 56 ls (.int (f j.toNatClampNeg) :: r) w cb sb)) ∧
  (∀ (r : List Value), j_go (jmt 105) post cut (n + 1) 56 ls r w cb sb ↔ g_ld ls[0]? (fun v => t_a v ∧ j_k (jmt 105) post cut n 57 ls (v :: r) w cb sb)) ∧
  (∀ (r : List Value) (a : Nat), j_go (jmt 105) post cut (n + 1) 57 ls (.ref a :: r) w cb sb ↔ g_ob 8 (w a) (fun fs => g_v fs[11]? (fun v => j_k (jmt 105) post cut n 60 ls (v :: r) w cb sb))) ∧
  (∀ (r : List Value), j_go (jmt 105) post cut (n + 1) 60 ls r w cb sb ↔ g_ld ls[4]? (fun v => t_i v ∧ j_k (jmt 105) post cut n 62 ls (v :: r) w cb sb)) ∧
  (∀ (r : List Value) (a : Nat) (j : Int32), j_go (jmt 105) post cut (n + 1) 62 ls (.int j :: .ref a :: r) w cb sb ↔ g_ia 0 (w a) (fun m f => vp_in j m ∧ j_k (jmt 105) post cut n 63 ls (.int (f j.toNatClampNeg) :: r) w cb sb)) ∧
  (∀ (r : List Value) (x y : Int32), j_go (jmt 105) post cut (n + 1) 63 ls (.int y :: .int x :: r) w cb sb ↔ j_k (jmt 105) post cut n 64 ls (.int (x &&& y) :: r) w cb sb) ∧
  (∀ (r : List Value), j_go (jmt 105) post cut (n + 1) 64 ls r w cb sb ↔ j_k (jmt 105) post cut n 65 ls (.int (Int32.ofInt 1) :: r) w cb sb) ∧
  (∀ (r : List Value), j_go (jmt 105) post cut (n + 1) 65 ls r w cb sb ↔ g_ld ls[2]? (fun v => t_i v ∧ j_k (jmt 105) post cut n 66 ls (v :: r) w cb sb)) ∧
  (∀ (r : List Value) (x y : Int32), j_go (jmt 105) post cut (n + 1) 66 ls (.int y :: .int x :: r) w cb sb ↔ j_k (jmt 105) post cut n 67 ls (.int (x <<< (y &&& 31)) :: r) w cb sb) ∧
  (∀ (r : List Value) (x y : Int32), j_go (jmt 105) post cut (n + 1) 67 ls (.int y :: .int x :: r) w cb sb ↔ j_k (jmt 105) post cut n 68 ls (.int (x &&& y) :: r) w cb sb) ∧
  (∀ (r : List Value) (a : Int32), j_go (jmt 105) post cut (n + 1) 68 ls (.int a :: r) w cb sb ↔ (a = 0 → j_k (jmt 105) post cut n 75 ls r w cb sb) ∧ (¬ (a = 0) → j_k (jmt 105) post cut n 71 ls r w cb sb)) ∧
  (∀ (r : List Value), j_go (jmt 105) post cut (n + 1) 71 ls r w cb sb ↔ j_k (jmt 105) post cut n 72 ls (.int (Int32.ofInt 1) :: r) w cb sb) ∧
  (∀ (r : List Value), j_go (jmt 105) post cut (n + 1) 72 ls r w cb sb ↔ j_k (jmt 105) post cut n 76 ls r w cb sb) ∧
  (∀ (r : List Value), j_go (jmt 105) post cut (n + 1) 75 ls r w cb sb ↔ j_k (jmt 105) post cut n 76 ls (.int (Int32.ofInt 0) :: r) w cb sb) ∧
  (∀ (a : Int32), j_go (jmt 105) post cut (n + 1) 76 ls [.int a] w cb sb ↔ narrow .boolean (.int a) = .int a ∧ post (some (.int a)) w) := ⟨fun _ => (j_go_s rfl).trans e_aload_n,
  fun _ _ => (j_go_s rfl).trans e_getf,
  fun _ => (j_go_s rfl).trans e_bipush,
  fun _ => (j_go_s rfl).trans e_iload_n,
  fun _ _ _ => (j_go_s rfl).trans e_imul,
  fun _ => (j_go_s rfl).trans e_aload_n,
  fun _ _ => (j_go_s rfl).trans e_getf,
  fun _ => (j_go_s rfl).trans e_iconst,
  fun _ => (j_go_s rfl).trans e_iload_n,
  fun _ _ _ => (j_go_s rfl).trans e_imul,
  fun _ _ _ => (j_go_s rfl).trans e_iald,
  fun _ _ _ => (j_go_s rfl).trans e_iadd,
  fun _ _ _ => (j_go_s rfl).trans e_iald,
  fun _ _ => (j_go_s rfl).trans e_istore_n,
  fun _ => (j_go_s rfl).trans e_aload_n,
  fun _ _ => (j_go_s rfl).trans e_getf,
  fun _ => (j_go_s rfl).trans e_bipush,
  fun _ => (j_go_s rfl).trans e_iload_n,
  fun _ _ _ => (j_go_s rfl).trans e_imul,
  fun _ => (j_go_s rfl).trans e_aload_n,
  fun _ _ => (j_go_s rfl).trans e_getf,
  fun _ => (j_go_s rfl).trans e_iconst,
  fun _ => (j_go_s rfl).trans e_iload_n,
  fun _ _ _ => (j_go_s rfl).trans e_imul,
  fun _ => (j_go_s rfl).trans e_iconst,
  fun _ _ _ => (j_go_s rfl).trans e_iadd,
  fun _ _ _ => (j_go_s rfl).trans e_iald,
  fun _ _ _ => (j_go_s rfl).trans e_iadd,
  fun _ _ _ => (j_go_s rfl).trans e_iald,
  fun _ _ => (j_go_s rfl).trans e_istore,
  fun _ => (j_go_s rfl).trans e_iload_n,
  fun _ _ => (j_go_s rfl).trans e_if,
  fun _ => (j_go_s rfl).trans e_iload,
  fun _ _ => (j_go_s rfl).trans e_if,
  fun _ => (j_go_s rfl).trans e_aload_n,
  fun _ _ => (j_go_s rfl).trans e_getf,
  fun _ => (j_go_s rfl).trans e_iload_n,
  fun _ _ _ => (j_go_s rfl).trans e_iald,
  fun _ => (j_go_s rfl).trans e_aload_n,
  fun _ _ => (j_go_s rfl).trans e_getf,
  fun _ => (j_go_s rfl).trans e_iload,
  fun _ _ _ => (j_go_s rfl).trans e_iald,
  fun _ _ _ => (j_go_s rfl).trans e_iand,
  fun _ => (j_go_s rfl).trans e_iconst,
  fun _ => (j_go_s rfl).trans e_iload_n,
  fun _ _ _ => (j_go_s rfl).trans e_ishl,
  fun _ _ _ => (j_go_s rfl).trans e_iand,
  fun _ _ => (j_go_s rfl).trans e_if,
  fun _ => (j_go_s rfl).trans e_iconst,
  fun _ => (j_go_s rfl).trans e_goto,
  fun _ => (j_go_s rfl).trans e_iconst,
  fun _ => (j_go_s rfl).trans e_iret⟩
set_option maxRecDepth 100000 in
set_option maxHeartbeats 4000000 in
theorem st_Ref_longest {post : Option Value → jW → Prop} {cut : List Nat} {n : Nat} {ls : jL} {w : jW} {cb sb : Nat} : (∀ (r : List Value), j_go (jmt 106) post cut (n + 1) 0 ls r w cb sb ↔ j_k (jmt 106) post cut n 1 ls (.int (Int32.ofInt (-1)) :: r) w cb sb) ∧
  (∀ (r : List Value) (x : Int32), j_go (jmt 106) post cut (n + 1) 1 ls (.int x :: r) w cb sb ↔ j_ok1 ls 3 = true ∧ j_k (jmt 106) post cut n 2 (ls.set 3 (some (.int x))) r w cb sb) ∧
  (∀ (r : List Value), j_go (jmt 106) post cut (n + 1) 2 ls r w cb sb ↔ j_k (jmt 106) post cut n 3 ls (.int (Int32.ofInt 0) :: r) w cb sb) ∧
  (∀ (r : List Value) (x : Int32), j_go (jmt 106) post cut (n + 1) 3 ls (.int x :: r) w cb sb ↔ j_ok1 ls 4 = true ∧ j_k (jmt 106) post cut n 5 (ls.set 4 (some (.int x))) r w cb sb) ∧
  (∀ (r : List Value), j_go (jmt 106) post cut (n + 1) 5 ls r w cb sb ↔ g_ld ls[4]? (fun v => t_i v ∧ j_k (jmt 106) post cut n 7 ls (v :: r) w cb sb)) ∧
  (∀ (r : List Value), j_go (jmt 106) post cut (n + 1) 7 ls r w cb sb ↔ g_ld ls[0]? (fun v => t_a v ∧ j_k (jmt 106) post cut n 8 ls (v :: r) w cb sb)) ∧
  (∀ (r : List Value) (a : Nat), j_go (jmt 106) post cut (n + 1) 8 ls (.ref a :: r) w cb sb ↔ g_ob 8 (w a) (fun fs => g_v fs[12]? (fun v => j_k (jmt 106) post cut n 11 ls (v :: r) w cb sb))) ∧
  (∀ (r : List Value), j_go (jmt 106) post cut (n + 1) 11 ls r w cb sb ↔ g_ld ls[1]? (fun v => t_i v ∧ j_k (jmt 106) post cut n 12 ls (v :: r) w cb sb)) ∧
  (∀ (r : List Value) (a : Nat) (j : Int32), j_go (jmt 106) post cut (n + 1) 12 ls (.int j :: .ref a :: r) w cb sb ↔ g_ia 0 (w a) (fun m f => vp_in j m ∧ j_k (jmt 106) post cut n 13 ls (.int (f j.toNatClampNeg) :: r) w cb sb)) ∧
  (∀ (r : List Value) (a b : Int32), j_go (jmt 106) post cut (n + 1) 13 ls (.int b :: .int a :: r) w cb sb ↔ (b ≤ a → j_k (jmt 106) post cut n 81 ls r w cb sb) ∧ (¬ (b ≤ a) → j_k (jmt 106) post cut n 16 ls r w cb sb)) ∧
  (∀ (r : List Value), j_go (jmt 106) post cut (n + 1) 16 ls r w cb sb ↔ g_ld ls[0]? (fun v => t_a v ∧ j_k (jmt 106) post cut n 17 ls (v :: r) w cb sb)) ∧
  (∀ (r : List Value) (a : Nat), j_go (jmt 106) post cut (n + 1) 17 ls (.ref a :: r) w cb sb ↔ g_ob 8 (w a) (fun fs => g_v fs[13]? (fun v => j_k (jmt 106) post cut n 20 ls (v :: r) w cb sb))) ∧
  (∀ (r : List Value), j_go (jmt 106) post cut (n + 1) 20 ls r w cb sb ↔ j_k (jmt 106) post cut n 21 ls (.int (Int32.ofInt 3) :: r) w cb sb) ∧
  (∀ (r : List Value), j_go (jmt 106) post cut (n + 1) 21 ls r w cb sb ↔ g_ld ls[1]? (fun v => t_i v ∧ j_k (jmt 106) post cut n 22 ls (v :: r) w cb sb)) ∧
  (∀ (r : List Value) (x y : Int32), j_go (jmt 106) post cut (n + 1) 22 ls (.int y :: .int x :: r) w cb sb ↔ j_k (jmt 106) post cut n 23 ls (.int (x * y) :: r) w cb sb) ∧
  (∀ (r : List Value), j_go (jmt 106) post cut (n + 1) 23 ls r w cb sb ↔ g_ld ls[4]? (fun v => t_i v ∧ j_k (jmt 106) post cut n 25 ls (v :: r) w cb sb)) ∧
  (∀ (r : List Value) (x y : Int32), j_go (jmt 106) post cut (n + 1) 25 ls (.int y :: .int x :: r) w cb sb ↔ j_k (jmt 106) post cut n 26 ls (.int (x + y) :: r) w cb sb) ∧
  (∀ (r : List Value) (a : Nat) (j : Int32), j_go (jmt 106) post cut (n + 1) 26 ls (.int j :: .ref a :: r) w cb sb ↔ g_ia 0 (w a) (fun m f => vp_in j m ∧ j_k (jmt 106) post cut n 27 ls (.int (f j.toNatClampNeg) :: r) w cb sb)) ∧
  (∀ (r : List Value), j_go (jmt 106) post cut (n + 1) 27 ls r w cb sb ↔ j_k (jmt 106) post cut n 29 ls (.int (Int8.ofInt 16).toInt32 :: r) w cb sb) ∧
  (∀ (r : List Value) (a b : Int32), j_go (jmt 106) post cut (n + 1) 29 ls (.int b :: .int a :: r) w cb sb ↔ ¬ b = 0 ∧ j_k (jmt 106) post cut n 30 ls (.int (a - a / b * b) :: r) w cb sb) ∧
  (∀ (r : List Value) (x : Int32), j_go (jmt 106) post cut (n + 1) 30 ls (.int x :: r) w cb sb ↔ j_ok1 ls 5 = true ∧ j_k (jmt 106) post cut n 32 (ls.set 5 (some (.int x))) r w cb sb) ∧
  (∀ (r : List Value), j_go (jmt 106) post cut (n + 1) 32 ls r w cb sb ↔ g_ld ls[0]? (fun v => t_a v ∧ j_k (jmt 106) post cut n 33 ls (v :: r) w cb sb)) ∧
  (∀ (r : List Value) (a : Nat), j_go (jmt 106) post cut (n + 1) 33 ls (.ref a :: r) w cb sb ↔ g_ob 8 (w a) (fun fs => g_v fs[13]? (fun v => j_k (jmt 106) post cut n 36 ls (v :: r) w cb sb))) ∧
  (∀ (r : List Value), j_go (jmt 106) post cut (n + 1) 36 ls r w cb sb ↔ j_k (jmt 106) post cut n 37 ls (.int (Int32.ofInt 3) :: r) w cb sb) ∧
  (∀ (r : List Value), j_go (jmt 106) post cut (n + 1) 37 ls r w cb sb ↔ g_ld ls[1]? (fun v => t_i v ∧ j_k (jmt 106) post cut n 38 ls (v :: r) w cb sb)) ∧
  (∀ (r : List Value) (x y : Int32), j_go (jmt 106) post cut (n + 1) 38 ls (.int y :: .int x :: r) w cb sb ↔ j_k (jmt 106) post cut n 39 ls (.int (x * y) :: r) w cb sb) ∧
  (∀ (r : List Value), j_go (jmt 106) post cut (n + 1) 39 ls r w cb sb ↔ g_ld ls[4]? (fun v => t_i v ∧ j_k (jmt 106) post cut n 41 ls (v :: r) w cb sb)) ∧
  (∀ (r : List Value) (x y : Int32), j_go (jmt 106) post cut (n + 1) 41 ls (.int y :: .int x :: r) w cb sb ↔ j_k (jmt 106) post cut n 42 ls (.int (x + y) :: r) w cb sb) ∧
  (∀ (r : List Value) (a : Nat) (j : Int32), j_go (jmt 106) post cut (n + 1) 42 ls (.int j :: .ref a :: r) w cb sb ↔ g_ia 0 (w a) (fun m f => vp_in j m ∧ j_k (jmt 106) post cut n 43 ls (.int (f j.toNatClampNeg) :: r) w cb sb)) ∧
  (∀ (r : List Value), j_go (jmt 106) post cut (n + 1) 43 ls r w cb sb ↔ j_k (jmt 106) post cut n 45 ls (.int (Int8.ofInt 16).toInt32 :: r) w cb sb) ∧
  (∀ (r : List Value) (a b : Int32), j_go (jmt 106) post cut (n + 1) 45 ls (.int b :: .int a :: r) w cb sb ↔ ¬ b = 0 ∧ j_k (jmt 106) post cut n 46 ls (.int (a / b) :: r) w cb sb) ∧
  (∀ (r : List Value) (x : Int32), j_go (jmt 106) post cut (n + 1) 46 ls (.int x :: r) w cb sb ↔ j_ok1 ls 6 = true ∧ j_k (jmt 106) post cut n 48 (ls.set 6 (some (.int x))) r w cb sb) ∧
  (∀ (r : List Value), j_go (jmt 106) post cut (n + 1) 48 ls r w cb sb ↔ g_ld ls[2]? (fun v => t_i v ∧ j_k (jmt 106) post cut n 49 ls (v :: r) w cb sb)) ∧
  (∀ (r : List Value), j_go (jmt 106) post cut (n + 1) 49 ls r w cb sb ↔ j_k (jmt 106) post cut n 51 ls (.int (Int8.ofInt 8).toInt32 :: r) w cb sb) ∧
  (∀ (r : List Value), j_go (jmt 106) post cut (n + 1) 51 ls r w cb sb ↔ g_ld ls[5]? (fun v => t_i v ∧ j_k (jmt 106) post cut n 53 ls (v :: r) w cb sb)) ∧
  (∀ (r : List Value) (x y : Int32), j_go (jmt 106) post cut (n + 1) 53 ls (.int y :: .int x :: r) w cb sb ↔ j_k (jmt 106) post cut n 54 ls (.int (x - y) :: r) w cb sb) ∧
  (∀ (r : List Value) (x y : Int32), j_go (jmt 106) post cut (n + 1) 54 ls (.int y :: .int x :: r) w cb sb ↔ j_k (jmt 106) post cut n 55 ls (.int (x >>> (y &&& 31)) :: r) w cb sb) ∧
  (∀ (r : List Value), j_go (jmt 106) post cut (n + 1) 55 ls r w cb sb ↔ j_k (jmt 106) post cut n 57 ls (.int (Int8.ofInt 8).toInt32 :: r) w cb sb) ∧
  (∀ (r : List Value), j_go (jmt 106) post cut (n + 1) 57 ls r w cb sb ↔ g_ld ls[5]? (fun v => t_i v ∧ j_k (jmt 106) post cut n 59 ls (v :: r) w cb sb)) ∧
  (∀ (r : List Value) (x y : Int32), j_go (jmt 106) post cut (n + 1) 59 ls (.int y :: .int x :: r) w cb sb ↔ j_k (jmt 106) post cut n 60 ls (.int (x - y) :: r) w cb sb) ∧
  (∀ (r : List Value) (x y : Int32), j_go (jmt 106) post cut (n + 1) 60 ls (.int y :: .int x :: r) w cb sb ↔ j_k (jmt 106) post cut n 61 ls (.int (x <<< (y &&& 31)) :: r) w cb sb) ∧
  (∀ (r : List Value), j_go (jmt 106) post cut (n + 1) 61 ls r w cb sb ↔ g_ld ls[6]? (fun v => t_i v ∧ j_k (jmt 106) post cut n 63 ls (v :: r) w cb sb)) ∧
  (∀ (r : List Value) (a b : Int32), j_go (jmt 106) post cut (n + 1) 63 ls (.int b :: .int a :: r) w cb sb ↔ (¬ a = b → j_k (jmt 106) post cut n 75 ls r w cb sb) ∧ (¬ (¬ a = b) → j_k (jmt 106) post cut n 66 ls r w cb sb)) ∧
  (∀ (r : List Value), j_go (jmt 106) post cut (n + 1) 66 ls r w cb sb ↔ g_ld ls[5]? (fun v => t_i v ∧ j_k (jmt 106) post cut n 68 ls (v :: r) w cb sb)) ∧
  (∀ (r : List Value), j_go (jmt 106) post cut (n + 1) 68 ls r w cb sb ↔ g_ld ls[3]? (fun v => t_i v ∧ j_k (jmt 106) post cut n 69 ls (v :: r) w cb sb)) ∧
  (∀ (r : List Value) (a b : Int32), j_go (jmt 106) post cut (n + 1) 69 ls (.int b :: .int a :: r) w cb sb ↔ (a ≤ b → j_k (jmt 106) post cut n 75 ls r w cb sb) ∧ (¬ (a ≤ b) → j_k (jmt 106) post cut n 72 ls r w cb sb)) ∧
  (∀ (r : List Value), j_go (jmt 106) post cut (n + 1) 72 ls r w cb sb ↔ g_ld ls[5]? (fun v => t_i v ∧ j_k (jmt 106) post cut n 74 ls (v :: r) w cb sb)) ∧
  (∀ (r : List Value) (x : Int32), j_go (jmt 106) post cut (n + 1) 74 ls (.int x :: r) w cb sb ↔ j_ok1 ls 3 = true ∧ j_k (jmt 106) post cut n 75 (ls.set 3 (some (.int x))) r w cb sb) ∧
  (∀ (r : List Value), j_go (jmt 106) post cut (n + 1) 75 ls r w cb sb ↔ g_ld ls[4]? (fun v => (match v with
      | .int x => j_ok1 ls 4 = true ∧ j_k (jmt 106) post cut n 78 (ls.set 4 (some (.int (x + Int32.ofInt 1)))) r w cb sb
      | _ => False))) ∧
  (∀ (r : List Value), j_go (jmt 106) post cut (n + 1) 78 ls r w cb sb ↔ j_k (jmt 106) post cut n 5 ls r w cb sb) ∧
  (∀ (r : List Value), j_go (jmt 106) post cut (n + 1) 81 ls r w cb sb ↔ g_ld ls[3]? (fun v => t_i v ∧ j_k (jmt 106) post cut n 82 ls (v :: r) w cb sb)) ∧
  (∀ (a : Int32), j_go (jmt 106) post cut (n + 1) 82 ls [.int a] w cb sb ↔ narrow .int (.int a) = .int a ∧ post (some (.int a)) w) := ⟨fun _ => (j_go_s rfl).trans e_iconst,
  fun _ _ => (j_go_s rfl).trans e_istore_n,
  fun _ => (j_go_s rfl).trans e_iconst,
  fun _ _ => (j_go_s rfl).trans e_istore,
  fun _ => (j_go_s rfl).trans e_iload,
  fun _ => (j_go_s rfl).trans e_aload_n,
  fun _ _ => (j_go_s rfl).trans e_getf,
  fun _ => (j_go_s rfl).trans e_iload_n,
  fun _ _ _ => (j_go_s rfl).trans e_iald,
  fun _ _ _ => (j_go_s rfl).trans e_icmp,
  fun _ => (j_go_s rfl).trans e_aload_n,
  fun _ _ => (j_go_s rfl).trans e_getf,
  fun _ => (j_go_s rfl).trans e_iconst,
  fun _ => (j_go_s rfl).trans e_iload_n,
  fun _ _ _ => (j_go_s rfl).trans e_imul,
  fun _ => (j_go_s rfl).trans e_iload,
  fun _ _ _ => (j_go_s rfl).trans e_iadd,
  fun _ _ _ => (j_go_s rfl).trans e_iald,
  fun _ => (j_go_s rfl).trans e_bipush,
  fun _ _ _ => (j_go_s rfl).trans e_irem,
  fun _ _ => (j_go_s rfl).trans e_istore,
  fun _ => (j_go_s rfl).trans e_aload_n,
  fun _ _ => (j_go_s rfl).trans e_getf,
  fun _ => (j_go_s rfl).trans e_iconst,
  fun _ => (j_go_s rfl).trans e_iload_n,
  fun _ _ _ => (j_go_s rfl).trans e_imul,
  fun _ => (j_go_s rfl).trans e_iload,
  fun _ _ _ => (j_go_s rfl).trans e_iadd,
  fun _ _ _ => (j_go_s rfl).trans e_iald,
  fun _ => (j_go_s rfl).trans e_bipush,
  fun _ _ _ => (j_go_s rfl).trans e_idiv,
  fun _ _ => (j_go_s rfl).trans e_istore,
  fun _ => (j_go_s rfl).trans e_iload_n,
  fun _ => (j_go_s rfl).trans e_bipush,
  fun _ => (j_go_s rfl).trans e_iload,
  fun _ _ _ => (j_go_s rfl).trans e_isub,
  fun _ _ _ => (j_go_s rfl).trans e_ishr,
  fun _ => (j_go_s rfl).trans e_bipush,
  fun _ => (j_go_s rfl).trans e_iload,
  fun _ _ _ => (j_go_s rfl).trans e_isub,
  fun _ _ _ => (j_go_s rfl).trans e_ishl,
  fun _ => (j_go_s rfl).trans e_iload,
  fun _ _ _ => (j_go_s rfl).trans e_icmp,
  fun _ => (j_go_s rfl).trans e_iload,
  fun _ => (j_go_s rfl).trans e_iload_n,
  fun _ _ _ => (j_go_s rfl).trans e_icmp,
  fun _ => (j_go_s rfl).trans e_iload,
  fun _ _ => (j_go_s rfl).trans e_istore_n,
  fun _ => (j_go_s rfl).trans e_iinc,
  fun _ => (j_go_s rfl).trans e_goto,
  fun _ => (j_go_s rfl).trans e_iload_n,
  fun _ => (j_go_s rfl).trans e_iret⟩
set_option maxRecDepth 100000 in
set_option maxHeartbeats 4000000 in
theorem st_Ref_fate {post : Option Value → jW → Prop} {cut : List Nat} {n : Nat} {ls : jL} {w : jW} {cb sb : Nat} : (∀ (r : List Value), j_go (jmt 107) post cut (n + 1) 0 ls r w cb sb ↔ g_ld ls[2]? (fun v => t_i v ∧ j_k (jmt 107) post cut n 1 ls (v :: r) w cb sb)) ∧
  (∀ (r : List Value), j_go (jmt 107) post cut (n + 1) 1 ls r w cb sb ↔ j_k (jmt 107) post cut n 3 ls (.int (Int8.ofInt (-4)).toInt32 :: r) w cb sb) ∧
  (∀ (r : List Value) (a b : Int32), j_go (jmt 107) post cut (n + 1) 3 ls (.int b :: .int a :: r) w cb sb ↔ (¬ a = b → j_k (jmt 107) post cut n 8 ls r w cb sb) ∧ (¬ (¬ a = b) → j_k (jmt 107) post cut n 6 ls r w cb sb)) ∧
  (∀ (r : List Value), j_go (jmt 107) post cut (n + 1) 6 ls r w cb sb ↔ j_k (jmt 107) post cut n 7 ls (.int (Int32.ofInt 1) :: r) w cb sb) ∧
  (∀ (a : Int32), j_go (jmt 107) post cut (n + 1) 7 ls [.int a] w cb sb ↔ narrow .int (.int a) = .int a ∧ post (some (.int a)) w) ∧
  (∀ (r : List Value), j_go (jmt 107) post cut (n + 1) 8 ls r w cb sb ↔ g_ld ls[0]? (fun v => t_a v ∧ j_k (jmt 107) post cut n 9 ls (v :: r) w cb sb)) ∧
  (∀ (r : List Value) (a : Nat), j_go (jmt 107) post cut (n + 1) 9 ls (.ref a :: r) w cb sb ↔ g_ob 8 (w a) (fun fs => g_v fs[23]? (fun v => j_k (jmt 107) post cut n 12 ls (v :: r) w cb sb))) ∧
  (∀ (r : List Value), j_go (jmt 107) post cut (n + 1) 12 ls r w cb sb ↔ g_ld ls[1]? (fun v => t_i v ∧ j_k (jmt 107) post cut n 13 ls (v :: r) w cb sb)) ∧
  (∀ (r : List Value), j_go (jmt 107) post cut (n + 1) 13 ls r w cb sb ↔ j_k (jmt 107) post cut n 14 ls (.int (Int32.ofInt 3) :: r) w cb sb) ∧
  (∀ (r : List Value) (x y : Int32), j_go (jmt 107) post cut (n + 1) 14 ls (.int y :: .int x :: r) w cb sb ↔ j_k (jmt 107) post cut n 15 ls (.int (x + y) :: r) w cb sb) ∧
  (∀ (r : List Value) (a : Nat) (j : Int32), j_go (jmt 107) post cut (n + 1) 15 ls (.int j :: .ref a :: r) w cb sb ↔ g_ia 0 (w a) (fun m f => vp_in j m ∧ j_k (jmt 107) post cut n 16 ls (.int (f j.toNatClampNeg) :: r) w cb sb)) ∧
  (∀ (r : List Value) (a : Int32), j_go (jmt 107) post cut (n + 1) 16 ls (.int a :: r) w cb sb ↔ (¬ a = 0 → j_k (jmt 107) post cut n 21 ls r w cb sb) ∧ (¬ (¬ a = 0) → j_k (jmt 107) post cut n 19 ls r w cb sb)) ∧
  (∀ (r : List Value), j_go (jmt 107) post cut (n + 1) 19 ls r w cb sb ↔ j_k (jmt 107) post cut n 20 ls (.int (Int32.ofInt 3) :: r) w cb sb) ∧
  (∀ (a : Int32), j_go (jmt 107) post cut (n + 1) 20 ls [.int a] w cb sb ↔ narrow .int (.int a) = .int a ∧ post (some (.int a)) w) ∧
  (∀ (r : List Value), j_go (jmt 107) post cut (n + 1) 21 ls r w cb sb ↔ g_ld ls[2]? (fun v => t_i v ∧ j_k (jmt 107) post cut n 22 ls (v :: r) w cb sb)) ∧
  (∀ (r : List Value), j_go (jmt 107) post cut (n + 1) 22 ls r w cb sb ↔ j_k (jmt 107) post cut n 24 ls (.int (Int8.ofInt (-3)).toInt32 :: r) w cb sb) ∧
  (∀ (r : List Value) (a b : Int32), j_go (jmt 107) post cut (n + 1) 24 ls (.int b :: .int a :: r) w cb sb ↔ (¬ a = b → j_k (jmt 107) post cut n 29 ls r w cb sb) ∧ (¬ (¬ a = b) → j_k (jmt 107) post cut n 27 ls r w cb sb)) ∧
  (∀ (r : List Value), j_go (jmt 107) post cut (n + 1) 27 ls r w cb sb ↔ j_k (jmt 107) post cut n 28 ls (.int (Int32.ofInt 2) :: r) w cb sb) ∧
  (∀ (a : Int32), j_go (jmt 107) post cut (n + 1) 28 ls [.int a] w cb sb ↔ narrow .int (.int a) = .int a ∧ post (some (.int a)) w) ∧
  (∀ (r : List Value), j_go (jmt 107) post cut (n + 1) 29 ls r w cb sb ↔ g_ld ls[0]? (fun v => t_a v ∧ j_k (jmt 107) post cut n 30 ls (v :: r) w cb sb)) ∧
  (∀ (r : List Value) (a : Nat), j_go (jmt 107) post cut (n + 1) 30 ls (.ref a :: r) w cb sb ↔ g_ob 8 (w a) (fun fs => g_v fs[4]? (fun v => j_k (jmt 107) post cut n 33 ls (v :: r) w cb sb))) ∧
  (∀ (r : List Value), j_go (jmt 107) post cut (n + 1) 33 ls r w cb sb ↔ g_ld ls[2]? (fun v => t_i v ∧ j_k (jmt 107) post cut n 34 ls (v :: r) w cb sb)) ∧
  (∀ (r : List Value) (a : Nat) (j : Int32), j_go (jmt 107) post cut (n + 1) 34 ls (.int j :: .ref a :: r) w cb sb ↔ g_ia 0 (w a) (fun m f => vp_in j m ∧ j_k (jmt 107) post cut n 35 ls (.int (f j.toNatClampNeg) :: r) w cb sb)) ∧
  (∀ (r : List Value), j_go (jmt 107) post cut (n + 1) 35 ls r w cb sb ↔ g_ld ls[0]? (fun v => t_a v ∧ j_k (jmt 107) post cut n 36 ls (v :: r) w cb sb)) ∧
  (∀ (r : List Value) (a : Nat), j_go (jmt 107) post cut (n + 1) 36 ls (.ref a :: r) w cb sb ↔ g_ob 8 (w a) (fun fs => g_v fs[23]? (fun v => j_k (jmt 107) post cut n 39 ls (v :: r) w cb sb))) ∧
  (∀ (r : List Value), j_go (jmt 107) post cut (n + 1) 39 ls r w cb sb ↔ g_ld ls[1]? (fun v => t_i v ∧ j_k (jmt 107) post cut n 40 ls (v :: r) w cb sb)) ∧
  (∀ (r : List Value), j_go (jmt 107) post cut (n + 1) 40 ls r w cb sb ↔ j_k (jmt 107) post cut n 41 ls (.int (Int32.ofInt 2) :: r) w cb sb) ∧
  (∀ (r : List Value) (x y : Int32), j_go (jmt 107) post cut (n + 1) 41 ls (.int y :: .int x :: r) w cb sb ↔ j_k (jmt 107) post cut n 42 ls (.int (x + y) :: r) w cb sb) ∧
  (∀ (r : List Value) (a : Nat) (j : Int32), j_go (jmt 107) post cut (n + 1) 42 ls (.int j :: .ref a :: r) w cb sb ↔ g_ia 0 (w a) (fun m f => vp_in j m ∧ j_k (jmt 107) post cut n 43 ls (.int (f j.toNatClampNeg) :: r) w cb sb)) ∧
  (∀ (r : List Value) (a b : Int32), j_go (jmt 107) post cut (n + 1) 43 ls (.int b :: .int a :: r) w cb sb ↔ (b ≤ a → j_k (jmt 107) post cut n 64 ls r w cb sb) ∧ (¬ (b ≤ a) → j_k (jmt 107) post cut n 46 ls r w cb sb)) ∧
  (∀ (r : List Value), j_go (jmt 107) post cut (n + 1) 46 ls r w cb sb ↔ g_ld ls[0]? (fun v => t_a v ∧ j_k (jmt 107) post cut n 47 ls (v :: r) w cb sb)) ∧
  (∀ (r : List Value) (a : Nat), j_go (jmt 107) post cut (n + 1) 47 ls (.ref a :: r) w cb sb ↔ g_ob 8 (w a) (fun fs => g_v fs[21]? (fun v => j_k (jmt 107) post cut n 50 ls (v :: r) w cb sb))) ∧
  (∀ (r : List Value), j_go (jmt 107) post cut (n + 1) 50 ls r w cb sb ↔ g_ld ls[0]? (fun v => t_a v ∧ j_k (jmt 107) post cut n 51 ls (v :: r) w cb sb)) ∧
  (∀ (r : List Value) (a : Nat), j_go (jmt 107) post cut (n + 1) 51 ls (.ref a :: r) w cb sb ↔ g_ob 8 (w a) (fun fs => g_v fs[23]? (fun v => j_k (jmt 107) post cut n 54 ls (v :: r) w cb sb))) ∧
  (∀ (r : List Value), j_go (jmt 107) post cut (n + 1) 54 ls r w cb sb ↔ g_ld ls[1]? (fun v => t_i v ∧ j_k (jmt 107) post cut n 55 ls (v :: r) w cb sb)) ∧
  (∀ (r : List Value) (a : Nat) (j : Int32), j_go (jmt 107) post cut (n + 1) 55 ls (.int j :: .ref a :: r) w cb sb ↔ g_ia 0 (w a) (fun m f => vp_in j m ∧ j_k (jmt 107) post cut n 56 ls (.int (f j.toNatClampNeg) :: r) w cb sb)) ∧
  (∀ (r : List Value) (a : Nat) (j : Int32), j_go (jmt 107) post cut (n + 1) 56 ls (.int j :: .ref a :: r) w cb sb ↔ g_ia 1 (w a) (fun m f => vp_in j m ∧ j_k (jmt 107) post cut n 57 ls (.int (f j.toNatClampNeg) :: r) w cb sb)) ∧
  (∀ (r : List Value) (a : Int32), j_go (jmt 107) post cut (n + 1) 57 ls (.int a :: r) w cb sb ↔ (a = 0 → j_k (jmt 107) post cut n 64 ls r w cb sb) ∧ (¬ (a = 0) → j_k (jmt 107) post cut n 60 ls r w cb sb)) ∧
  (∀ (r : List Value), j_go (jmt 107) post cut (n + 1) 60 ls r w cb sb ↔ j_k (jmt 107) post cut n 61 ls (.int (Int32.ofInt 4) :: r) w cb sb) ∧
  (∀ (r : List Value), j_go (jmt 107) post cut (n + 1) 61 ls r w cb sb ↔ j_k (jmt 107) post cut n 65 ls r w cb sb) ∧
  (∀ (r : List Value), j_go (jmt 107) post cut (n + 1) 64 ls r w cb sb ↔ j_k (jmt 107) post cut n 65 ls (.int (Int32.ofInt 0) :: r) w cb sb) ∧
  (∀ (a : Int32), j_go (jmt 107) post cut (n + 1) 65 ls [.int a] w cb sb ↔ narrow .int (.int a) = .int a ∧ post (some (.int a)) w) := ⟨fun _ => (j_go_s rfl).trans e_iload_n,
  fun _ => (j_go_s rfl).trans e_bipush,
  fun _ _ _ => (j_go_s rfl).trans e_icmp,
  fun _ => (j_go_s rfl).trans e_iconst,
  fun _ => (j_go_s rfl).trans e_iret,
  fun _ => (j_go_s rfl).trans e_aload_n,
  fun _ _ => (j_go_s rfl).trans e_getf,
  fun _ => (j_go_s rfl).trans e_iload_n,
  fun _ => (j_go_s rfl).trans e_iconst,
  fun _ _ _ => (j_go_s rfl).trans e_iadd,
  fun _ _ _ => (j_go_s rfl).trans e_iald,
  fun _ _ => (j_go_s rfl).trans e_if,
  fun _ => (j_go_s rfl).trans e_iconst,
  fun _ => (j_go_s rfl).trans e_iret,
  fun _ => (j_go_s rfl).trans e_iload_n,
  fun _ => (j_go_s rfl).trans e_bipush,
  fun _ _ _ => (j_go_s rfl).trans e_icmp,
  fun _ => (j_go_s rfl).trans e_iconst,
  fun _ => (j_go_s rfl).trans e_iret,
  fun _ => (j_go_s rfl).trans e_aload_n,
  fun _ _ => (j_go_s rfl).trans e_getf,
  fun _ => (j_go_s rfl).trans e_iload_n,
  fun _ _ _ => (j_go_s rfl).trans e_iald,
  fun _ => (j_go_s rfl).trans e_aload_n,
  fun _ _ => (j_go_s rfl).trans e_getf,
  fun _ => (j_go_s rfl).trans e_iload_n,
  fun _ => (j_go_s rfl).trans e_iconst,
  fun _ _ _ => (j_go_s rfl).trans e_iadd,
  fun _ _ _ => (j_go_s rfl).trans e_iald,
  fun _ _ _ => (j_go_s rfl).trans e_icmp,
  fun _ => (j_go_s rfl).trans e_aload_n,
  fun _ _ => (j_go_s rfl).trans e_getf,
  fun _ => (j_go_s rfl).trans e_aload_n,
  fun _ _ => (j_go_s rfl).trans e_getf,
  fun _ => (j_go_s rfl).trans e_iload_n,
  fun _ _ _ => (j_go_s rfl).trans e_iald,
  fun _ _ _ => (j_go_s rfl).trans e_zald,
  fun _ _ => (j_go_s rfl).trans e_if,
  fun _ => (j_go_s rfl).trans e_iconst,
  fun _ => (j_go_s rfl).trans e_goto,
  fun _ => (j_go_s rfl).trans e_iconst,
  fun _ => (j_go_s rfl).trans e_iret⟩
