set_option maxRecDepth 100000 in
set_option maxHeartbeats 4000000 in
theorem st_Prefix_lengthOf {post : Option Value → jW → Prop} {cut : List Nat} {n : Nat} {ls : jL} {w : jW} {cb sb : Nat} : (∀ (r : List Value), j_go (jmt 57) post cut (n + 1) 0 ls r w cb sb ↔ g_ld ls[0]? (fun v => t_i v ∧ j_k (jmt 57) post cut n 1 ls (v :: r) w cb sb)) ∧
  (∀ (r : List Value), j_go (jmt 57) post cut (n + 1) 1 ls r w cb sb ↔ j_k (jmt 57) post cut n 3 ls (.int (Int8.ofInt 8).toInt32 :: r) w cb sb) ∧
  (∀ (r : List Value) (x y : Int32), j_go (jmt 57) post cut (n + 1) 3 ls (.int y :: .int x :: r) w cb sb ↔ j_k (jmt 57) post cut n 4 ls (.int (x >>> (y &&& 31)) :: r) w cb sb) ∧
  (∀ (a : Int32), j_go (jmt 57) post cut (n + 1) 4 ls [.int a] w cb sb ↔ narrow .int (.int a) = .int a ∧ post (some (.int a)) w) := ⟨fun _ => (j_go_s rfl).trans e_iload_n,
  fun _ => (j_go_s rfl).trans e_bipush,
  fun _ _ _ => (j_go_s rfl).trans e_ishr,
  fun _ => (j_go_s rfl).trans e_iret⟩
set_option maxRecDepth 100000 in
set_option maxHeartbeats 4000000 in
theorem st_Chart_firstLinkToward {post : Option Value → jW → Prop} {cut : List Nat} {n : Nat} {ls : jL} {w : jW} {cb sb : Nat} : (∀ (r : List Value), j_go (jmt 58) post cut (n + 1) 0 ls r w cb sb ↔ g_ld ls[0]? (fun v => t_a v ∧ j_k (jmt 58) post cut n 1 ls (v :: r) w cb sb)) ∧
  (∀ (r : List Value), j_go (jmt 58) post cut (n + 1) 1 ls r w cb sb ↔ g_ld ls[2]? (fun v => t_i v ∧ j_k (jmt 58) post cut n 2 ls (v :: r) w cb sb)) ∧
  (∀ (r : List Value), j_go (jmt 58) post cut (n + 1) 2 ls r w cb sb ↔ g_ld ls[0]? (fun v => t_a v ∧ j_k (jmt 58) post cut n 3 ls (v :: r) w cb sb)) ∧
  (∀ (r : List Value) (a : Nat), j_go (jmt 58) post cut (n + 1) 3 ls (.ref a :: r) w cb sb ↔ g_ob 5 (w a) (fun fs => g_v fs[1]? (fun v => j_k (jmt 58) post cut n 6 ls (v :: r) w cb sb))) ∧
  (∀ (r : List Value), j_go (jmt 58) post cut (n + 1) 6 ls r w cb sb ↔ g_ld ls[3]? (fun v => t_a v ∧ j_k (jmt 58) post cut n 7 ls (v :: r) w cb sb)) ∧
  (∀ (r : List Value), j_go (jmt 58) post cut (n + 1) 7 ls r w cb sb ↔ g_ld ls[4]? (fun v => t_i v ∧ j_k (jmt 58) post cut n 9 ls (v :: r) w cb sb)) ∧
  (∀ (r : List Value) (a0 a1 a2 a3 : Value) (b : Nat), j_go (jmt 58) post cut (n + 1) 9 ls (a3 :: a2 :: a1 :: a0 :: .ref b :: r) w cb sb ↔ g_ob 5 (w b) (fun _ => True) ∧ j_w8 r ∧ g_call (jmt 51) [.ref b, a0, a1, a2, a3] w cb sb (fun v w' c s => j_k (jmt 58) post cut n 12 ls (v.toList ++ r) w' c s)) ∧
  (∀ (r : List Value), j_go (jmt 58) post cut (n + 1) 12 ls r w cb sb ↔ j_k (jmt 58) post cut n 13 ls (.int (Int32.ofInt 0) :: r) w cb sb) ∧
  (∀ (r : List Value) (x : Int32), j_go (jmt 58) post cut (n + 1) 13 ls (.int x :: r) w cb sb ↔ j_ok1 ls 5 = true ∧ j_k (jmt 58) post cut n 15 (ls.set 5 (some (.int x))) r w cb sb) ∧
  (∀ (r : List Value), j_go (jmt 58) post cut (n + 1) 15 ls r w cb sb ↔ g_ld ls[5]? (fun v => t_i v ∧ j_k (jmt 58) post cut n 17 ls (v :: r) w cb sb)) ∧
  (∀ (r : List Value), j_go (jmt 58) post cut (n + 1) 17 ls r w cb sb ↔ g_ld ls[4]? (fun v => t_i v ∧ j_k (jmt 58) post cut n 19 ls (v :: r) w cb sb)) ∧
  (∀ (r : List Value) (a b : Int32), j_go (jmt 58) post cut (n + 1) 19 ls (.int b :: .int a :: r) w cb sb ↔ (b ≤ a → j_k (jmt 58) post cut n 86 ls r w cb sb) ∧ (¬ (b ≤ a) → j_k (jmt 58) post cut n 22 ls r w cb sb)) ∧
  (∀ (r : List Value), j_go (jmt 58) post cut (n + 1) 22 ls r w cb sb ↔ g_ld ls[0]? (fun v => t_a v ∧ j_k (jmt 58) post cut n 23 ls (v :: r) w cb sb)) ∧
  (∀ (r : List Value) (a : Nat), j_go (jmt 58) post cut (n + 1) 23 ls (.ref a :: r) w cb sb ↔ g_ob 5 (w a) (fun fs => g_v fs[2]? (fun v => j_k (jmt 58) post cut n 26 ls (v :: r) w cb sb))) ∧
  (∀ (r : List Value), j_go (jmt 58) post cut (n + 1) 26 ls r w cb sb ↔ g_ld ls[5]? (fun v => t_i v ∧ j_k (jmt 58) post cut n 28 ls (v :: r) w cb sb)) ∧
  (∀ (r : List Value) (a : Nat) (j : Int32), j_go (jmt 58) post cut (n + 1) 28 ls (.int j :: .ref a :: r) w cb sb ↔ g_ia 1 (w a) (fun m f => vp_in j m ∧ j_k (jmt 58) post cut n 29 ls (.int (f j.toNatClampNeg) :: r) w cb sb)) ∧
  (∀ (r : List Value) (a : Int32), j_go (jmt 58) post cut (n + 1) 29 ls (.int a :: r) w cb sb ↔ (a = 0 → j_k (jmt 58) post cut n 80 ls r w cb sb) ∧ (¬ (a = 0) → j_k (jmt 58) post cut n 32 ls r w cb sb)) ∧
  (∀ (r : List Value), j_go (jmt 58) post cut (n + 1) 32 ls r w cb sb ↔ g_ld ls[3]? (fun v => t_a v ∧ j_k (jmt 58) post cut n 33 ls (v :: r) w cb sb)) ∧
  (∀ (r : List Value), j_go (jmt 58) post cut (n + 1) 33 ls r w cb sb ↔ g_ld ls[5]? (fun v => t_i v ∧ j_k (jmt 58) post cut n 35 ls (v :: r) w cb sb)) ∧
  (∀ (r : List Value) (a : Nat) (j : Int32), j_go (jmt 58) post cut (n + 1) 35 ls (.int j :: .ref a :: r) w cb sb ↔ g_qa 4 (w a) (fun m f => vp_in j m ∧ j_k (jmt 58) post cut n 36 ls (va_rf (f j.toNatClampNeg) :: r) w cb sb)) ∧
  (∀ (r : List Value), j_go (jmt 58) post cut (n + 1) 36 ls r w cb sb ↔ g_ld ls[1]? (fun v => t_i v ∧ j_k (jmt 58) post cut n 37 ls (v :: r) w cb sb)) ∧
  (∀ (r : List Value) (a0 : Value) (b : Nat), j_go (jmt 58) post cut (n + 1) 37 ls (a0 :: .ref b :: r) w cb sb ↔ g_ob 2 (w b) (fun _ => True) ∧ j_w8 r ∧ g_call (jmt 13) [.ref b, a0] w cb sb (fun v w' c s => j_k (jmt 58) post cut n 40 ls (v.toList ++ r) w' c s)) ∧
  (∀ (r : List Value) (a : Int32), j_go (jmt 58) post cut (n + 1) 40 ls (.int a :: r) w cb sb ↔ (a = 0 → j_k (jmt 58) post cut n 80 ls r w cb sb) ∧ (¬ (a = 0) → j_k (jmt 58) post cut n 43 ls r w cb sb)) ∧
  (∀ (r : List Value), j_go (jmt 58) post cut (n + 1) 43 ls r w cb sb ↔ g_ld ls[0]? (fun v => t_a v ∧ j_k (jmt 58) post cut n 44 ls (v :: r) w cb sb)) ∧
  (∀ (r : List Value) (a : Nat), j_go (jmt 58) post cut (n + 1) 44 ls (.ref a :: r) w cb sb ↔ g_ob 5 (w a) (fun fs => g_v fs[1]? (fun v => j_k (jmt 58) post cut n 47 ls (v :: r) w cb sb))) ∧
  (∀ (r : List Value), j_go (jmt 58) post cut (n + 1) 47 ls r w cb sb ↔ g_ld ls[3]? (fun v => t_a v ∧ j_k (jmt 58) post cut n 48 ls (v :: r) w cb sb)) ∧
  (∀ (r : List Value), j_go (jmt 58) post cut (n + 1) 48 ls r w cb sb ↔ g_ld ls[5]? (fun v => t_i v ∧ j_k (jmt 58) post cut n 50 ls (v :: r) w cb sb)) ∧
  (∀ (r : List Value) (a : Nat) (j : Int32), j_go (jmt 58) post cut (n + 1) 50 ls (.int j :: .ref a :: r) w cb sb ↔ g_qa 4 (w a) (fun m f => vp_in j m ∧ j_k (jmt 58) post cut n 51 ls (va_rf (f j.toNatClampNeg) :: r) w cb sb)) ∧
  (∀ (r : List Value), j_go (jmt 58) post cut (n + 1) 51 ls r w cb sb ↔ g_ld ls[1]? (fun v => t_i v ∧ j_k (jmt 58) post cut n 52 ls (v :: r) w cb sb)) ∧
  (∀ (r : List Value) (a0 : Value) (b : Nat), j_go (jmt 58) post cut (n + 1) 52 ls (a0 :: .ref b :: r) w cb sb ↔ g_ob 2 (w b) (fun _ => True) ∧ j_w8 r ∧ g_call (jmt 59) [.ref b, a0] w cb sb (fun v w' c s => j_k (jmt 58) post cut n 55 ls (v.toList ++ r) w' c s)) ∧
  (∀ (r : List Value) (a : Nat) (j : Int32), j_go (jmt 58) post cut (n + 1) 55 ls (.int j :: .ref a :: r) w cb sb ↔ g_ia 0 (w a) (fun m f => vp_in j m ∧ j_k (jmt 58) post cut n 56 ls (.int (f j.toNatClampNeg) :: r) w cb sb)) ∧
  (∀ (r : List Value) (x : Int32), j_go (jmt 58) post cut (n + 1) 56 ls (.int x :: r) w cb sb ↔ j_ok1 ls 6 = true ∧ j_k (jmt 58) post cut n 58 (ls.set 6 (some (.int x))) r w cb sb) ∧
  (∀ (r : List Value), j_go (jmt 58) post cut (n + 1) 58 ls r w cb sb ↔ g_ld ls[3]? (fun v => t_a v ∧ j_k (jmt 58) post cut n 59 ls (v :: r) w cb sb)) ∧
  (∀ (r : List Value), j_go (jmt 58) post cut (n + 1) 59 ls r w cb sb ↔ g_ld ls[5]? (fun v => t_i v ∧ j_k (jmt 58) post cut n 61 ls (v :: r) w cb sb)) ∧
  (∀ (r : List Value) (a : Nat) (j : Int32), j_go (jmt 58) post cut (n + 1) 61 ls (.int j :: .ref a :: r) w cb sb ↔ g_qa 4 (w a) (fun m f => vp_in j m ∧ j_k (jmt 58) post cut n 62 ls (va_rf (f j.toNatClampNeg) :: r) w cb sb)) ∧
  (∀ (r : List Value) (a : Nat), j_go (jmt 58) post cut (n + 1) 62 ls (.ref a :: r) w cb sb ↔ g_ob 2 (w a) (fun fs => g_v fs[2]? (fun v => j_k (jmt 58) post cut n 65 ls (v :: r) w cb sb))) ∧
  (∀ (r : List Value), j_go (jmt 58) post cut (n + 1) 65 ls r w cb sb ↔ g_ld ls[6]? (fun v => t_i v ∧ j_k (jmt 58) post cut n 67 ls (v :: r) w cb sb)) ∧
  (∀ (r : List Value) (x y : Int32), j_go (jmt 58) post cut (n + 1) 67 ls (.int y :: .int x :: r) w cb sb ↔ j_k (jmt 58) post cut n 68 ls (.int (x + y) :: r) w cb sb) ∧
  (∀ (r : List Value), j_go (jmt 58) post cut (n + 1) 68 ls r w cb sb ↔ g_ld ls[0]? (fun v => t_a v ∧ j_k (jmt 58) post cut n 69 ls (v :: r) w cb sb)) ∧
  (∀ (r : List Value) (a : Nat), j_go (jmt 58) post cut (n + 1) 69 ls (.ref a :: r) w cb sb ↔ g_ob 5 (w a) (fun fs => g_v fs[0]? (fun v => j_k (jmt 58) post cut n 72 ls (v :: r) w cb sb))) ∧
  (∀ (r : List Value), j_go (jmt 58) post cut (n + 1) 72 ls r w cb sb ↔ g_ld ls[2]? (fun v => t_i v ∧ j_k (jmt 58) post cut n 73 ls (v :: r) w cb sb)) ∧
  (∀ (r : List Value) (a : Nat) (j : Int32), j_go (jmt 58) post cut (n + 1) 73 ls (.int j :: .ref a :: r) w cb sb ↔ g_ia 0 (w a) (fun m f => vp_in j m ∧ j_k (jmt 58) post cut n 74 ls (.int (f j.toNatClampNeg) :: r) w cb sb)) ∧
  (∀ (r : List Value) (a b : Int32), j_go (jmt 58) post cut (n + 1) 74 ls (.int b :: .int a :: r) w cb sb ↔ (¬ a = b → j_k (jmt 58) post cut n 80 ls r w cb sb) ∧ (¬ (¬ a = b) → j_k (jmt 58) post cut n 77 ls r w cb sb)) ∧
  (∀ (r : List Value), j_go (jmt 58) post cut (n + 1) 77 ls r w cb sb ↔ g_ld ls[5]? (fun v => t_i v ∧ j_k (jmt 58) post cut n 79 ls (v :: r) w cb sb)) ∧
  (∀ (a : Int32), j_go (jmt 58) post cut (n + 1) 79 ls [.int a] w cb sb ↔ narrow .int (.int a) = .int a ∧ post (some (.int a)) w) ∧
  (∀ (r : List Value), j_go (jmt 58) post cut (n + 1) 80 ls r w cb sb ↔ g_ld ls[5]? (fun v => (match v with
      | .int x => j_ok1 ls 5 = true ∧ j_k (jmt 58) post cut n 83 (ls.set 5 (some (.int (x + Int32.ofInt 1)))) r w cb sb
      | _ => False))) ∧
  (∀ (r : List Value), j_go (jmt 58) post cut (n + 1) 83 ls r w cb sb ↔ j_k (jmt 58) post cut n 15 ls r w cb sb) ∧
  (∀ (r : List Value), j_go (jmt 58) post cut (n + 1) 86 ls r w cb sb ↔ j_k (jmt 58) post cut n 88 ls (.int (Int8.ofInt (-3)).toInt32 :: r) w cb sb) ∧
  (∀ (a : Int32), j_go (jmt 58) post cut (n + 1) 88 ls [.int a] w cb sb ↔ narrow .int (.int a) = .int a ∧ post (some (.int a)) w) := ⟨fun _ => (j_go_s rfl).trans e_aload_n,
  fun _ => (j_go_s rfl).trans e_iload_n,
  fun _ => (j_go_s rfl).trans e_aload_n,
  fun _ _ => (j_go_s rfl).trans e_getf,
  fun _ => (j_go_s rfl).trans e_aload_n,
  fun _ => (j_go_s rfl).trans e_iload,
  fun _ _ _ _ _ _ => (j_go_s rfl).trans e_callv,
  fun _ => (j_go_s rfl).trans e_iconst,
  fun _ _ => (j_go_s rfl).trans e_istore,
  fun _ => (j_go_s rfl).trans e_iload,
  fun _ => (j_go_s rfl).trans e_iload,
  fun _ _ _ => (j_go_s rfl).trans e_icmp,
  fun _ => (j_go_s rfl).trans e_aload_n,
  fun _ _ => (j_go_s rfl).trans e_getf,
  fun _ => (j_go_s rfl).trans e_iload,
  fun _ _ _ => (j_go_s rfl).trans e_zald,
  fun _ _ => (j_go_s rfl).trans e_if,
  fun _ => (j_go_s rfl).trans e_aload_n,
  fun _ => (j_go_s rfl).trans e_iload,
  fun _ _ _ => (j_go_s rfl).trans e_aald,
  fun _ => (j_go_s rfl).trans e_iload_n,
  fun _ _ _ => (j_go_s rfl).trans e_callv,
  fun _ _ => (j_go_s rfl).trans e_if,
  fun _ => (j_go_s rfl).trans e_aload_n,
  fun _ _ => (j_go_s rfl).trans e_getf,
  fun _ => (j_go_s rfl).trans e_aload_n,
  fun _ => (j_go_s rfl).trans e_iload,
  fun _ _ _ => (j_go_s rfl).trans e_aald,
  fun _ => (j_go_s rfl).trans e_iload_n,
  fun _ _ _ => (j_go_s rfl).trans e_callv,
  fun _ _ _ => (j_go_s rfl).trans e_iald,
  fun _ _ => (j_go_s rfl).trans e_istore,
  fun _ => (j_go_s rfl).trans e_aload_n,
  fun _ => (j_go_s rfl).trans e_iload,
  fun _ _ _ => (j_go_s rfl).trans e_aald,
  fun _ _ => (j_go_s rfl).trans e_getf,
  fun _ => (j_go_s rfl).trans e_iload,
  fun _ _ _ => (j_go_s rfl).trans e_iadd,
  fun _ => (j_go_s rfl).trans e_aload_n,
  fun _ _ => (j_go_s rfl).trans e_getf,
  fun _ => (j_go_s rfl).trans e_iload_n,
  fun _ _ _ => (j_go_s rfl).trans e_iald,
  fun _ _ _ => (j_go_s rfl).trans e_icmp,
  fun _ => (j_go_s rfl).trans e_iload,
  fun _ => (j_go_s rfl).trans e_iret,
  fun _ => (j_go_s rfl).trans e_iinc,
  fun _ => (j_go_s rfl).trans e_goto,
  fun _ => (j_go_s rfl).trans e_bipush,
  fun _ => (j_go_s rfl).trans e_iret⟩
set_option maxRecDepth 100000 in
set_option maxHeartbeats 4000000 in
theorem st_Link_otherEnd {post : Option Value → jW → Prop} {cut : List Nat} {n : Nat} {ls : jL} {w : jW} {cb sb : Nat} : (∀ (r : List Value), j_go (jmt 59) post cut (n + 1) 0 ls r w cb sb ↔ g_ld ls[1]? (fun v => t_i v ∧ j_k (jmt 59) post cut n 1 ls (v :: r) w cb sb)) ∧
  (∀ (r : List Value), j_go (jmt 59) post cut (n + 1) 1 ls r w cb sb ↔ g_ld ls[0]? (fun v => t_a v ∧ j_k (jmt 59) post cut n 2 ls (v :: r) w cb sb)) ∧
  (∀ (r : List Value) (a : Nat), j_go (jmt 59) post cut (n + 1) 2 ls (.ref a :: r) w cb sb ↔ g_ob 2 (w a) (fun fs => g_v fs[0]? (fun v => j_k (jmt 59) post cut n 5 ls (v :: r) w cb sb))) ∧
  (∀ (r : List Value) (a b : Int32), j_go (jmt 59) post cut (n + 1) 5 ls (.int b :: .int a :: r) w cb sb ↔ (¬ a = b → j_k (jmt 59) post cut n 15 ls r w cb sb) ∧ (¬ (¬ a = b) → j_k (jmt 59) post cut n 8 ls r w cb sb)) ∧
  (∀ (r : List Value), j_go (jmt 59) post cut (n + 1) 8 ls r w cb sb ↔ g_ld ls[0]? (fun v => t_a v ∧ j_k (jmt 59) post cut n 9 ls (v :: r) w cb sb)) ∧
  (∀ (r : List Value) (a : Nat), j_go (jmt 59) post cut (n + 1) 9 ls (.ref a :: r) w cb sb ↔ g_ob 2 (w a) (fun fs => g_v fs[1]? (fun v => j_k (jmt 59) post cut n 12 ls (v :: r) w cb sb))) ∧
  (∀ (r : List Value), j_go (jmt 59) post cut (n + 1) 12 ls r w cb sb ↔ j_k (jmt 59) post cut n 19 ls r w cb sb) ∧
  (∀ (r : List Value), j_go (jmt 59) post cut (n + 1) 15 ls r w cb sb ↔ g_ld ls[0]? (fun v => t_a v ∧ j_k (jmt 59) post cut n 16 ls (v :: r) w cb sb)) ∧
  (∀ (r : List Value) (a : Nat), j_go (jmt 59) post cut (n + 1) 16 ls (.ref a :: r) w cb sb ↔ g_ob 2 (w a) (fun fs => g_v fs[0]? (fun v => j_k (jmt 59) post cut n 19 ls (v :: r) w cb sb))) ∧
  (∀ (a : Int32), j_go (jmt 59) post cut (n + 1) 19 ls [.int a] w cb sb ↔ narrow .int (.int a) = .int a ∧ post (some (.int a)) w) := ⟨fun _ => (j_go_s rfl).trans e_iload_n,
  fun _ => (j_go_s rfl).trans e_aload_n,
  fun _ _ => (j_go_s rfl).trans e_getf,
  fun _ _ _ => (j_go_s rfl).trans e_icmp,
  fun _ => (j_go_s rfl).trans e_aload_n,
  fun _ _ => (j_go_s rfl).trans e_getf,
  fun _ => (j_go_s rfl).trans e_goto,
  fun _ => (j_go_s rfl).trans e_aload_n,
  fun _ _ => (j_go_s rfl).trans e_getf,
  fun _ => (j_go_s rfl).trans e_iret⟩
set_option maxRecDepth 100000 in
set_option maxHeartbeats 4000000 in
theorem st_Packet_markEnded {post : Option Value → jW → Prop} {cut : List Nat} {n : Nat} {ls : jL} {w : jW} {cb sb : Nat} : (∀ (r : List Value), j_go (jmt 60) post cut (n + 1) 0 ls r w cb sb ↔ g_ld ls[2]? (fun v => t_i v ∧ j_k (jmt 60) post cut n 1 ls (v :: r) w cb sb)) ∧
  (∀ (r : List Value) (x : Int32), j_go (jmt 60) post cut (n + 1) 1 ls (.int x :: r) w cb sb ↔ j_ok1 ls 4 = true ∧ j_k (jmt 60) post cut n 3 (ls.set 4 (some (.int x))) r w cb sb) ∧
  (∀ (r : List Value), j_go (jmt 60) post cut (n + 1) 3 ls r w cb sb ↔ g_ld ls[4]? (fun v => t_i v ∧ j_k (jmt 60) post cut n 5 ls (v :: r) w cb sb)) ∧
  (∀ (r : List Value), j_go (jmt 60) post cut (n + 1) 5 ls r w cb sb ↔ g_ld ls[2]? (fun v => t_i v ∧ j_k (jmt 60) post cut n 6 ls (v :: r) w cb sb)) ∧
  (∀ (r : List Value), j_go (jmt 60) post cut (n + 1) 6 ls r w cb sb ↔ g_ld ls[3]? (fun v => t_i v ∧ j_k (jmt 60) post cut n 7 ls (v :: r) w cb sb)) ∧
  (∀ (r : List Value) (x y : Int32), j_go (jmt 60) post cut (n + 1) 7 ls (.int y :: .int x :: r) w cb sb ↔ j_k (jmt 60) post cut n 8 ls (.int (x + y) :: r) w cb sb) ∧
  (∀ (r : List Value) (a b : Int32), j_go (jmt 60) post cut (n + 1) 8 ls (.int b :: .int a :: r) w cb sb ↔ (b ≤ a → j_k (jmt 60) post cut n 38 ls r w cb sb) ∧ (¬ (b ≤ a) → j_k (jmt 60) post cut n 11 ls r w cb sb)) ∧
  (∀ (r : List Value), j_go (jmt 60) post cut (n + 1) 11 ls r w cb sb ↔ g_ld ls[0]? (fun v => t_a v ∧ j_k (jmt 60) post cut n 12 ls (v :: r) w cb sb)) ∧
  (∀ (r : List Value) (a : Nat), j_go (jmt 60) post cut (n + 1) 12 ls (.ref a :: r) w cb sb ↔ g_ob 6 (w a) (fun fs => g_v fs[2]? (fun v => j_k (jmt 60) post cut n 15 ls (v :: r) w cb sb))) ∧
  (∀ (r : List Value), j_go (jmt 60) post cut (n + 1) 15 ls r w cb sb ↔ g_ld ls[1]? (fun v => t_i v ∧ j_k (jmt 60) post cut n 16 ls (v :: r) w cb sb)) ∧
  (∀ (r : List Value), j_go (jmt 60) post cut (n + 1) 16 ls r w cb sb ↔ g_ld ls[4]? (fun v => t_i v ∧ j_k (jmt 60) post cut n 18 ls (v :: r) w cb sb)) ∧
  (∀ (r : List Value) (a0 a1 : Value), j_go (jmt 60) post cut (n + 1) 18 ls (a1 :: a0 :: r) w cb sb ↔ j_w8 r ∧ g_call (jmt 61) [a0, a1] w cb sb (fun v w' c s => j_k (jmt 60) post cut n 21 ls (v.toList ++ r) w' c s)) ∧
  (∀ (r : List Value) (v u : Value), j_go (jmt 60) post cut (n + 1) 21 ls (v :: u :: r) w cb sb ↔ (v.category = 1 ∧ u.category = 1) ∧ j_k (jmt 60) post cut n 22 ls (v :: u :: v :: u :: r) w cb sb) ∧
  (∀ (r : List Value) (a : Nat) (j : Int32), j_go (jmt 60) post cut (n + 1) 22 ls (.int j :: .ref a :: r) w cb sb ↔ g_la 2 (w a) (fun m f => vp_in j m ∧ j_k (jmt 60) post cut n 23 ls (.long (f j.toNatClampNeg) :: r) w cb sb)) ∧
  (∀ (r : List Value), j_go (jmt 60) post cut (n + 1) 23 ls r w cb sb ↔ j_k (jmt 60) post cut n 24 ls (.long (Int64.ofNat 1) :: r) w cb sb) ∧
  (∀ (r : List Value), j_go (jmt 60) post cut (n + 1) 24 ls r w cb sb ↔ g_ld ls[4]? (fun v => t_i v ∧ j_k (jmt 60) post cut n 26 ls (v :: r) w cb sb)) ∧
  (∀ (r : List Value), j_go (jmt 60) post cut (n + 1) 26 ls r w cb sb ↔ j_k (jmt 60) post cut n 28 ls (.int (Int8.ofInt 64).toInt32 :: r) w cb sb) ∧
  (∀ (r : List Value) (a b : Int32), j_go (jmt 60) post cut (n + 1) 28 ls (.int b :: .int a :: r) w cb sb ↔ ¬ b = 0 ∧ j_k (jmt 60) post cut n 29 ls (.int (a - a / b * b) :: r) w cb sb) ∧
  (∀ (r : List Value) (x : Int64) (y : Int32), j_go (jmt 60) post cut (n + 1) 29 ls (.int y :: .long x :: r) w cb sb ↔ j_k (jmt 60) post cut n 30 ls (.long (x <<< (y.toInt64 &&& 63)) :: r) w cb sb) ∧
  (∀ (r : List Value) (x y : Int64), j_go (jmt 60) post cut (n + 1) 30 ls (.long y :: .long x :: r) w cb sb ↔ j_k (jmt 60) post cut n 31 ls (.long (x ||| y) :: r) w cb sb) ∧
  (∀ (r : List Value) (a : Nat) (j : Int32) (v : Int64), j_go (jmt 60) post cut (n + 1) 31 ls (.long v :: .int j :: .ref a :: r) w cb sb ↔ g_la 2 (w a) (fun m f => vp_in j m ∧ j_k (jmt 60) post cut n 32 ls r ((j_up w a (.inl (2, m, .inr (.inl (vp_updL f j.toNatClampNeg v)))))) cb sb)) ∧
  (∀ (r : List Value), j_go (jmt 60) post cut (n + 1) 32 ls r w cb sb ↔ g_ld ls[4]? (fun v => (match v with
      | .int x => j_ok1 ls 4 = true ∧ j_k (jmt 60) post cut n 35 (ls.set 4 (some (.int (x + Int32.ofInt 1)))) r w cb sb
      | _ => False))) ∧
  (∀ (r : List Value), j_go (jmt 60) post cut (n + 1) 35 ls r w cb sb ↔ j_k (jmt 60) post cut n 3 ls r w cb sb) ∧
  (j_go (jmt 60) post cut (n + 1) 38 ls [] w cb sb ↔ post none w) := ⟨fun _ => (j_go_s rfl).trans e_iload_n,
  fun _ _ => (j_go_s rfl).trans e_istore,
  fun _ => (j_go_s rfl).trans e_iload,
  fun _ => (j_go_s rfl).trans e_iload_n,
  fun _ => (j_go_s rfl).trans e_iload_n,
  fun _ _ _ => (j_go_s rfl).trans e_iadd,
  fun _ _ _ => (j_go_s rfl).trans e_icmp,
  fun _ => (j_go_s rfl).trans e_aload_n,
  fun _ _ => (j_go_s rfl).trans e_getf,
  fun _ => (j_go_s rfl).trans e_iload_n,
  fun _ => (j_go_s rfl).trans e_iload,
  fun _ _ _ => (j_go_s rfl).trans e_calls,
  fun _ _ _ => (j_go_s rfl).trans e_dup2,
  fun _ _ _ => (j_go_s rfl).trans e_lald,
  fun _ => (j_go_s rfl).trans e_lconst,
  fun _ => (j_go_s rfl).trans e_iload,
  fun _ => (j_go_s rfl).trans e_bipush,
  fun _ _ _ => (j_go_s rfl).trans e_irem,
  fun _ _ _ => (j_go_s rfl).trans e_lshl,
  fun _ _ _ => (j_go_s rfl).trans e_lor,
  fun _ _ _ _ => (j_go_s rfl).trans e_last,
  fun _ => (j_go_s rfl).trans e_iinc,
  fun _ => (j_go_s rfl).trans e_goto,
  (j_go_s rfl).trans e_vret⟩
set_option maxRecDepth 100000 in
set_option maxHeartbeats 4000000 in
theorem st_Packet_word {post : Option Value → jW → Prop} {cut : List Nat} {n : Nat} {ls : jL} {w : jW} {cb sb : Nat} : (∀ (r : List Value), j_go (jmt 61) post cut (n + 1) 0 ls r w cb sb ↔ g_ld ls[0]? (fun v => t_i v ∧ j_k (jmt 61) post cut n 1 ls (v :: r) w cb sb)) ∧
  (∀ (r : List Value), j_go (jmt 61) post cut (n + 1) 1 ls r w cb sb ↔ j_k (jmt 61) post cut n 3 ls (.int (Int8.ofInt 8).toInt32 :: r) w cb sb) ∧
  (∀ (r : List Value) (x y : Int32), j_go (jmt 61) post cut (n + 1) 3 ls (.int y :: .int x :: r) w cb sb ↔ j_k (jmt 61) post cut n 4 ls (.int (x * y) :: r) w cb sb) ∧
  (∀ (r : List Value), j_go (jmt 61) post cut (n + 1) 4 ls r w cb sb ↔ g_ld ls[1]? (fun v => t_i v ∧ j_k (jmt 61) post cut n 5 ls (v :: r) w cb sb)) ∧
  (∀ (r : List Value), j_go (jmt 61) post cut (n + 1) 5 ls r w cb sb ↔ j_k (jmt 61) post cut n 7 ls (.int (Int8.ofInt 64).toInt32 :: r) w cb sb) ∧
  (∀ (r : List Value) (a b : Int32), j_go (jmt 61) post cut (n + 1) 7 ls (.int b :: .int a :: r) w cb sb ↔ ¬ b = 0 ∧ j_k (jmt 61) post cut n 8 ls (.int (a / b) :: r) w cb sb) ∧
  (∀ (r : List Value) (x y : Int32), j_go (jmt 61) post cut (n + 1) 8 ls (.int y :: .int x :: r) w cb sb ↔ j_k (jmt 61) post cut n 9 ls (.int (x + y) :: r) w cb sb) ∧
  (∀ (a : Int32), j_go (jmt 61) post cut (n + 1) 9 ls [.int a] w cb sb ↔ narrow .int (.int a) = .int a ∧ post (some (.int a)) w) := ⟨fun _ => (j_go_s rfl).trans e_iload_n,
  fun _ => (j_go_s rfl).trans e_bipush,
  fun _ _ _ => (j_go_s rfl).trans e_imul,
  fun _ => (j_go_s rfl).trans e_iload_n,
  fun _ => (j_go_s rfl).trans e_bipush,
  fun _ _ _ => (j_go_s rfl).trans e_idiv,
  fun _ _ _ => (j_go_s rfl).trans e_iadd,
  fun _ => (j_go_s rfl).trans e_iret⟩
set_option maxRecDepth 100000 in
set_option maxHeartbeats 4000000 in
theorem st_Piece_part {post : Option Value → jW → Prop} {cut : List Nat} {n : Nat} {ls : jL} {w : jW} {cb sb : Nat} : (∀ (r : List Value), j_go (jmt 65) post cut (n + 1) 0 ls r w cb sb ↔ 1 ≤ cb ∧ 6 ≤ sb ∧ ∀ a, w a = none → j_k (jmt 65) post cut n 3 ls (.ref a :: r) ((j_up w a (.inr (7, [.int 0, .int 0, .int 0, .int 0, .int 0, .int 0])))) ((cb - 1)) ((sb - 6))) ∧
  (∀ (r : List Value) (v : Value), j_go (jmt 65) post cut (n + 1) 3 ls (v :: r) w cb sb ↔ v.category = 1 ∧ j_k (jmt 65) post cut n 4 ls (v :: v :: r) w cb sb) ∧
  (∀ (r : List Value), j_go (jmt 65) post cut (n + 1) 4 ls r w cb sb ↔ g_ld ls[0]? (fun v => t_a v ∧ j_k (jmt 65) post cut n 5 ls (v :: r) w cb sb)) ∧
  (∀ (r : List Value) (a : Nat), j_go (jmt 65) post cut (n + 1) 5 ls (.ref a :: r) w cb sb ↔ g_ob 7 (w a) (fun fs => g_v fs[0]? (fun v => j_k (jmt 65) post cut n 8 ls (v :: r) w cb sb))) ∧
  (∀ (r : List Value), j_go (jmt 65) post cut (n + 1) 8 ls r w cb sb ↔ g_ld ls[1]? (fun v => t_i v ∧ j_k (jmt 65) post cut n 9 ls (v :: r) w cb sb)) ∧
  (∀ (r : List Value), j_go (jmt 65) post cut (n + 1) 9 ls r w cb sb ↔ g_ld ls[2]? (fun v => t_i v ∧ j_k (jmt 65) post cut n 10 ls (v :: r) w cb sb)) ∧
  (∀ (r : List Value), j_go (jmt 65) post cut (n + 1) 10 ls r w cb sb ↔ g_ld ls[0]? (fun v => t_a v ∧ j_k (jmt 65) post cut n 11 ls (v :: r) w cb sb)) ∧
  (∀ (r : List Value) (a : Nat), j_go (jmt 65) post cut (n + 1) 11 ls (.ref a :: r) w cb sb ↔ g_ob 7 (w a) (fun fs => g_v fs[3]? (fun v => j_k (jmt 65) post cut n 14 ls (v :: r) w cb sb))) ∧
  (∀ (r : List Value), j_go (jmt 65) post cut (n + 1) 14 ls r w cb sb ↔ g_ld ls[0]? (fun v => t_a v ∧ j_k (jmt 65) post cut n 15 ls (v :: r) w cb sb)) ∧
  (∀ (r : List Value) (a : Nat), j_go (jmt 65) post cut (n + 1) 15 ls (.ref a :: r) w cb sb ↔ g_ob 7 (w a) (fun fs => g_v fs[4]? (fun v => j_k (jmt 65) post cut n 18 ls (v :: r) w cb sb))) ∧
  (∀ (r : List Value) (a0 a1 a2 a3 a4 : Value) (b : Nat), j_go (jmt 65) post cut (n + 1) 18 ls (a4 :: a3 :: a2 :: a1 :: a0 :: .ref b :: r) w cb sb ↔ j_w8 r ∧ g_call (jmt 43) [.ref b, a0, a1, a2, a3, a4] w cb sb (fun v w' c s => j_k (jmt 65) post cut n 21 ls (v.toList ++ r) w' c s)) ∧
  (∀ (v : Value), j_go (jmt 65) post cut (n + 1) 21 ls [v] w cb sb ↔ t_a v ∧ post (some v) w) := ⟨fun _ => (j_go_s rfl).trans e_new,
  fun _ _ => (j_go_s rfl).trans e_dup,
  fun _ => (j_go_s rfl).trans e_aload_n,
  fun _ _ => (j_go_s rfl).trans e_getf,
  fun _ => (j_go_s rfl).trans e_iload_n,
  fun _ => (j_go_s rfl).trans e_iload_n,
  fun _ => (j_go_s rfl).trans e_aload_n,
  fun _ _ => (j_go_s rfl).trans e_getf,
  fun _ => (j_go_s rfl).trans e_aload_n,
  fun _ _ => (j_go_s rfl).trans e_getf,
  fun _ _ _ _ _ _ _ => (j_go_s rfl).trans e_calli,
  fun _ => (j_go_s rfl).trans e_aret⟩
set_option maxRecDepth 100000 in
set_option maxHeartbeats 4000000 in
theorem st_Packet_countEnded {post : Option Value → jW → Prop} {cut : List Nat} {n : Nat} {ls : jL} {w : jW} {cb sb : Nat} : (∀ (r : List Value), j_go (jmt 75) post cut (n + 1) 0 ls r w cb sb ↔ j_k (jmt 75) post cut n 1 ls (.int (Int32.ofInt 0) :: r) w cb sb) ∧
  (∀ (r : List Value) (x : Int32), j_go (jmt 75) post cut (n + 1) 1 ls (.int x :: r) w cb sb ↔ j_ok1 ls 2 = true ∧ j_k (jmt 75) post cut n 2 (ls.set 2 (some (.int x))) r w cb sb) ∧
  (∀ (r : List Value), j_go (jmt 75) post cut (n + 1) 2 ls r w cb sb ↔ g_ld ls[1]? (fun v => t_i v ∧ j_k (jmt 75) post cut n 3 ls (v :: r) w cb sb)) ∧
  (∀ (r : List Value), j_go (jmt 75) post cut (n + 1) 3 ls r w cb sb ↔ j_k (jmt 75) post cut n 5 ls (.int (Int8.ofInt 8).toInt32 :: r) w cb sb) ∧
  (∀ (r : List Value) (x y : Int32), j_go (jmt 75) post cut (n + 1) 5 ls (.int y :: .int x :: r) w cb sb ↔ j_k (jmt 75) post cut n 6 ls (.int (x * y) :: r) w cb sb) ∧
  (∀ (r : List Value) (x : Int32), j_go (jmt 75) post cut (n + 1) 6 ls (.int x :: r) w cb sb ↔ j_ok1 ls 3 = true ∧ j_k (jmt 75) post cut n 7 (ls.set 3 (some (.int x))) r w cb sb) ∧
  (∀ (r : List Value), j_go (jmt 75) post cut (n + 1) 7 ls r w cb sb ↔ g_ld ls[3]? (fun v => t_i v ∧ j_k (jmt 75) post cut n 8 ls (v :: r) w cb sb)) ∧
  (∀ (r : List Value), j_go (jmt 75) post cut (n + 1) 8 ls r w cb sb ↔ g_ld ls[1]? (fun v => t_i v ∧ j_k (jmt 75) post cut n 9 ls (v :: r) w cb sb)) ∧
  (∀ (r : List Value), j_go (jmt 75) post cut (n + 1) 9 ls r w cb sb ↔ j_k (jmt 75) post cut n 10 ls (.int (Int32.ofInt 1) :: r) w cb sb) ∧
  (∀ (r : List Value) (x y : Int32), j_go (jmt 75) post cut (n + 1) 10 ls (.int y :: .int x :: r) w cb sb ↔ j_k (jmt 75) post cut n 11 ls (.int (x + y) :: r) w cb sb) ∧
  (∀ (r : List Value), j_go (jmt 75) post cut (n + 1) 11 ls r w cb sb ↔ j_k (jmt 75) post cut n 13 ls (.int (Int8.ofInt 8).toInt32 :: r) w cb sb) ∧
  (∀ (r : List Value) (x y : Int32), j_go (jmt 75) post cut (n + 1) 13 ls (.int y :: .int x :: r) w cb sb ↔ j_k (jmt 75) post cut n 14 ls (.int (x * y) :: r) w cb sb) ∧
  (∀ (r : List Value) (a b : Int32), j_go (jmt 75) post cut (n + 1) 14 ls (.int b :: .int a :: r) w cb sb ↔ (b ≤ a → j_k (jmt 75) post cut n 35 ls r w cb sb) ∧ (¬ (b ≤ a) → j_k (jmt 75) post cut n 17 ls r w cb sb)) ∧
  (∀ (r : List Value), j_go (jmt 75) post cut (n + 1) 17 ls r w cb sb ↔ g_ld ls[2]? (fun v => t_i v ∧ j_k (jmt 75) post cut n 18 ls (v :: r) w cb sb)) ∧
  (∀ (r : List Value), j_go (jmt 75) post cut (n + 1) 18 ls r w cb sb ↔ g_ld ls[0]? (fun v => t_a v ∧ j_k (jmt 75) post cut n 19 ls (v :: r) w cb sb)) ∧
  (∀ (r : List Value) (a : Nat), j_go (jmt 75) post cut (n + 1) 19 ls (.ref a :: r) w cb sb ↔ g_ob 6 (w a) (fun fs => g_v fs[2]? (fun v => j_k (jmt 75) post cut n 22 ls (v :: r) w cb sb))) ∧
  (∀ (r : List Value), j_go (jmt 75) post cut (n + 1) 22 ls r w cb sb ↔ g_ld ls[3]? (fun v => t_i v ∧ j_k (jmt 75) post cut n 23 ls (v :: r) w cb sb)) ∧
  (∀ (r : List Value) (a : Nat) (j : Int32), j_go (jmt 75) post cut (n + 1) 23 ls (.int j :: .ref a :: r) w cb sb ↔ g_la 2 (w a) (fun m f => vp_in j m ∧ j_k (jmt 75) post cut n 24 ls (.long (f j.toNatClampNeg) :: r) w cb sb)) ∧
  (∀ (r : List Value) (a0 : Value), j_go (jmt 75) post cut (n + 1) 24 ls (a0 :: r) w cb sb ↔ j_w8 r ∧ g_call (jmt 76) [a0] w cb sb (fun v w' c s => j_k (jmt 75) post cut n 27 ls (v.toList ++ r) w' c s)) ∧
  (∀ (r : List Value) (x y : Int32), j_go (jmt 75) post cut (n + 1) 27 ls (.int y :: .int x :: r) w cb sb ↔ j_k (jmt 75) post cut n 28 ls (.int (x + y) :: r) w cb sb) ∧
  (∀ (r : List Value) (x : Int32), j_go (jmt 75) post cut (n + 1) 28 ls (.int x :: r) w cb sb ↔ j_ok1 ls 2 = true ∧ j_k (jmt 75) post cut n 29 (ls.set 2 (some (.int x))) r w cb sb) ∧
  (∀ (r : List Value), j_go (jmt 75) post cut (n + 1) 29 ls r w cb sb ↔ g_ld ls[3]? (fun v => (match v with
      | .int x => j_ok1 ls 3 = true ∧ j_k (jmt 75) post cut n 32 (ls.set 3 (some (.int (x + Int32.ofInt 1)))) r w cb sb
      | _ => False))) ∧
  (∀ (r : List Value), j_go (jmt 75) post cut (n + 1) 32 ls r w cb sb ↔ j_k (jmt 75) post cut n 7 ls r w cb sb) ∧
  (∀ (r : List Value), j_go (jmt 75) post cut (n + 1) 35 ls r w cb sb ↔ g_ld ls[2]? (fun v => t_i v ∧ j_k (jmt 75) post cut n 36 ls (v :: r) w cb sb)) ∧
  (∀ (a : Int32), j_go (jmt 75) post cut (n + 1) 36 ls [.int a] w cb sb ↔ narrow .int (.int a) = .int a ∧ post (some (.int a)) w) := ⟨fun _ => (j_go_s rfl).trans e_iconst,
  fun _ _ => (j_go_s rfl).trans e_istore_n,
  fun _ => (j_go_s rfl).trans e_iload_n,
  fun _ => (j_go_s rfl).trans e_bipush,
  fun _ _ _ => (j_go_s rfl).trans e_imul,
  fun _ _ => (j_go_s rfl).trans e_istore_n,
  fun _ => (j_go_s rfl).trans e_iload_n,
  fun _ => (j_go_s rfl).trans e_iload_n,
  fun _ => (j_go_s rfl).trans e_iconst,
  fun _ _ _ => (j_go_s rfl).trans e_iadd,
  fun _ => (j_go_s rfl).trans e_bipush,
  fun _ _ _ => (j_go_s rfl).trans e_imul,
  fun _ _ _ => (j_go_s rfl).trans e_icmp,
  fun _ => (j_go_s rfl).trans e_iload_n,
  fun _ => (j_go_s rfl).trans e_aload_n,
  fun _ _ => (j_go_s rfl).trans e_getf,
  fun _ => (j_go_s rfl).trans e_iload_n,
  fun _ _ _ => (j_go_s rfl).trans e_lald,
  fun _ _ => (j_go_s rfl).trans e_calls,
  fun _ _ _ => (j_go_s rfl).trans e_iadd,
  fun _ _ => (j_go_s rfl).trans e_istore_n,
  fun _ => (j_go_s rfl).trans e_iinc,
  fun _ => (j_go_s rfl).trans e_goto,
  fun _ => (j_go_s rfl).trans e_iload_n,
  fun _ => (j_go_s rfl).trans e_iret⟩
set_option maxRecDepth 100000 in
set_option maxHeartbeats 4000000 in
theorem st_Long_bitCount {post : Option Value → jW → Prop} {cut : List Nat} {n : Nat} {ls : jL} {w : jW} {cb sb : Nat} : (∀ (r : List Value), j_go (jmt 76) post cut (n + 1) 0 ls r w cb sb ↔ g_ld ls[0]? (fun v => t_l v ∧ j_k (jmt 76) post cut n 1 ls (v :: r) w cb sb)) ∧
  (∀ (r : List Value), j_go (jmt 76) post cut (n + 1) 1 ls r w cb sb ↔ g_ld ls[0]? (fun v => t_l v ∧ j_k (jmt 76) post cut n 2 ls (v :: r) w cb sb)) ∧
  (∀ (r : List Value), j_go (jmt 76) post cut (n + 1) 2 ls r w cb sb ↔ j_k (jmt 76) post cut n 3 ls (.int (Int32.ofInt 1) :: r) w cb sb) ∧
  (∀ (r : List Value) (x : Int64) (y : Int32), j_go (jmt 76) post cut (n + 1) 3 ls (.int y :: .long x :: r) w cb sb ↔ j_k (jmt 76) post cut n 4 ls (.long ((x.toUInt64 >>> (y.toInt64.toUInt64 &&& Int64.toUInt64 63)).toInt64) :: r) w cb sb) ∧
  (∀ (r : List Value), j_go (jmt 76) post cut (n + 1) 4 ls r w cb sb ↔ j_k (jmt 76) post cut n 7 ls (.long (Int64.ofNat 6148914691236517205) :: r) w cb sb) ∧
  (∀ (r : List Value) (x y : Int64), j_go (jmt 76) post cut (n + 1) 7 ls (.long y :: .long x :: r) w cb sb ↔ j_k (jmt 76) post cut n 8 ls (.long (x &&& y) :: r) w cb sb) ∧
  (∀ (r : List Value) (x y : Int64), j_go (jmt 76) post cut (n + 1) 8 ls (.long y :: .long x :: r) w cb sb ↔ j_k (jmt 76) post cut n 9 ls (.long (x - y) :: r) w cb sb) ∧
  (∀ (r : List Value) (x : Int64), j_go (jmt 76) post cut (n + 1) 9 ls (.long x :: r) w cb sb ↔ (j_ok1 ls 0 = true ∧ 1 < ls.length) ∧ j_k (jmt 76) post cut n 10 ((ls.set 0 (some (.long x))).set 1 none) r w cb sb) ∧
  (∀ (r : List Value), j_go (jmt 76) post cut (n + 1) 10 ls r w cb sb ↔ g_ld ls[0]? (fun v => t_l v ∧ j_k (jmt 76) post cut n 11 ls (v :: r) w cb sb)) ∧
  (∀ (r : List Value), j_go (jmt 76) post cut (n + 1) 11 ls r w cb sb ↔ j_k (jmt 76) post cut n 14 ls (.long (Int64.ofNat 3689348814741910323) :: r) w cb sb) ∧
  (∀ (r : List Value) (x y : Int64), j_go (jmt 76) post cut (n + 1) 14 ls (.long y :: .long x :: r) w cb sb ↔ j_k (jmt 76) post cut n 15 ls (.long (x &&& y) :: r) w cb sb) ∧
  (∀ (r : List Value), j_go (jmt 76) post cut (n + 1) 15 ls r w cb sb ↔ g_ld ls[0]? (fun v => t_l v ∧ j_k (jmt 76) post cut n 16 ls (v :: r) w cb sb)) ∧
  (∀ (r : List Value), j_go (jmt 76) post cut (n + 1) 16 ls r w cb sb ↔ j_k (jmt 76) post cut n 17 ls (.int (Int32.ofInt 2) :: r) w cb sb) ∧
  (∀ (r : List Value) (x : Int64) (y : Int32), j_go (jmt 76) post cut (n + 1) 17 ls (.int y :: .long x :: r) w cb sb ↔ j_k (jmt 76) post cut n 18 ls (.long ((x.toUInt64 >>> (y.toInt64.toUInt64 &&& Int64.toUInt64 63)).toInt64) :: r) w cb sb) ∧
  (∀ (r : List Value), j_go (jmt 76) post cut (n + 1) 18 ls r w cb sb ↔ j_k (jmt 76) post cut n 21 ls (.long (Int64.ofNat 3689348814741910323) :: r) w cb sb) ∧
  (∀ (r : List Value) (x y : Int64), j_go (jmt 76) post cut (n + 1) 21 ls (.long y :: .long x :: r) w cb sb ↔ j_k (jmt 76) post cut n 22 ls (.long (x &&& y) :: r) w cb sb) ∧
  (∀ (r : List Value) (x y : Int64), j_go (jmt 76) post cut (n + 1) 22 ls (.long y :: .long x :: r) w cb sb ↔ j_k (jmt 76) post cut n 23 ls (.long (x + y) :: r) w cb sb) ∧
  (∀ (r : List Value) (x : Int64), j_go (jmt 76) post cut (n + 1) 23 ls (.long x :: r) w cb sb ↔ (j_ok1 ls 0 = true ∧ 1 < ls.length) ∧ j_k (jmt 76) post cut n 24 ((ls.set 0 (some (.long x))).set 1 none) r w cb sb) ∧
  (∀ (r : List Value), j_go (jmt 76) post cut (n + 1) 24 ls r w cb sb ↔ g_ld ls[0]? (fun v => t_l v ∧ j_k (jmt 76) post cut n 25 ls (v :: r) w cb sb)) ∧
  (∀ (r : List Value), j_go (jmt 76) post cut (n + 1) 25 ls r w cb sb ↔ g_ld ls[0]? (fun v => t_l v ∧ j_k (jmt 76) post cut n 26 ls (v :: r) w cb sb)) ∧
  (∀ (r : List Value), j_go (jmt 76) post cut (n + 1) 26 ls r w cb sb ↔ j_k (jmt 76) post cut n 27 ls (.int (Int32.ofInt 4) :: r) w cb sb) ∧
  (∀ (r : List Value) (x : Int64) (y : Int32), j_go (jmt 76) post cut (n + 1) 27 ls (.int y :: .long x :: r) w cb sb ↔ j_k (jmt 76) post cut n 28 ls (.long ((x.toUInt64 >>> (y.toInt64.toUInt64 &&& Int64.toUInt64 63)).toInt64) :: r) w cb sb) ∧
  (∀ (r : List Value) (x y : Int64), j_go (jmt 76) post cut (n + 1) 28 ls (.long y :: .long x :: r) w cb sb ↔ j_k (jmt 76) post cut n 29 ls (.long (x + y) :: r) w cb sb) ∧
  (∀ (r : List Value), j_go (jmt 76) post cut (n + 1) 29 ls r w cb sb ↔ j_k (jmt 76) post cut n 32 ls (.long (Int64.ofNat 1085102592571150095) :: r) w cb sb) ∧
  (∀ (r : List Value) (x y : Int64), j_go (jmt 76) post cut (n + 1) 32 ls (.long y :: .long x :: r) w cb sb ↔ j_k (jmt 76) post cut n 33 ls (.long (x &&& y) :: r) w cb sb) ∧
  (∀ (r : List Value) (x : Int64), j_go (jmt 76) post cut (n + 1) 33 ls (.long x :: r) w cb sb ↔ (j_ok1 ls 0 = true ∧ 1 < ls.length) ∧ j_k (jmt 76) post cut n 34 ((ls.set 0 (some (.long x))).set 1 none) r w cb sb) ∧
  (∀ (r : List Value), j_go (jmt 76) post cut (n + 1) 34 ls r w cb sb ↔ g_ld ls[0]? (fun v => t_l v ∧ j_k (jmt 76) post cut n 35 ls (v :: r) w cb sb)) ∧
  (∀ (r : List Value), j_go (jmt 76) post cut (n + 1) 35 ls r w cb sb ↔ g_ld ls[0]? (fun v => t_l v ∧ j_k (jmt 76) post cut n 36 ls (v :: r) w cb sb)) ∧
  (∀ (r : List Value), j_go (jmt 76) post cut (n + 1) 36 ls r w cb sb ↔ j_k (jmt 76) post cut n 38 ls (.int (Int8.ofInt 8).toInt32 :: r) w cb sb) ∧
  (∀ (r : List Value) (x : Int64) (y : Int32), j_go (jmt 76) post cut (n + 1) 38 ls (.int y :: .long x :: r) w cb sb ↔ j_k (jmt 76) post cut n 39 ls (.long ((x.toUInt64 >>> (y.toInt64.toUInt64 &&& Int64.toUInt64 63)).toInt64) :: r) w cb sb) ∧
  (∀ (r : List Value) (x y : Int64), j_go (jmt 76) post cut (n + 1) 39 ls (.long y :: .long x :: r) w cb sb ↔ j_k (jmt 76) post cut n 40 ls (.long (x + y) :: r) w cb sb) ∧
  (∀ (r : List Value) (x : Int64), j_go (jmt 76) post cut (n + 1) 40 ls (.long x :: r) w cb sb ↔ (j_ok1 ls 0 = true ∧ 1 < ls.length) ∧ j_k (jmt 76) post cut n 41 ((ls.set 0 (some (.long x))).set 1 none) r w cb sb) ∧
  (∀ (r : List Value), j_go (jmt 76) post cut (n + 1) 41 ls r w cb sb ↔ g_ld ls[0]? (fun v => t_l v ∧ j_k (jmt 76) post cut n 42 ls (v :: r) w cb sb)) ∧
  (∀ (r : List Value), j_go (jmt 76) post cut (n + 1) 42 ls r w cb sb ↔ g_ld ls[0]? (fun v => t_l v ∧ j_k (jmt 76) post cut n 43 ls (v :: r) w cb sb)) ∧
  (∀ (r : List Value), j_go (jmt 76) post cut (n + 1) 43 ls r w cb sb ↔ j_k (jmt 76) post cut n 45 ls (.int (Int8.ofInt 16).toInt32 :: r) w cb sb) ∧
  (∀ (r : List Value) (x : Int64) (y : Int32), j_go (jmt 76) post cut (n + 1) 45 ls (.int y :: .long x :: r) w cb sb ↔ j_k (jmt 76) post cut n 46 ls (.long ((x.toUInt64 >>> (y.toInt64.toUInt64 &&& Int64.toUInt64 63)).toInt64) :: r) w cb sb) ∧
  (∀ (r : List Value) (x y : Int64), j_go (jmt 76) post cut (n + 1) 46 ls (.long y :: .long x :: r) w cb sb ↔ j_k (jmt 76) post cut n 47 ls (.long (x + y) :: r) w cb sb) ∧
  (∀ (r : List Value) (x : Int64), j_go (jmt 76) post cut (n + 1) 47 ls (.long x :: r) w cb sb ↔ (j_ok1 ls 0 = true ∧ 1 < ls.length) ∧ j_k (jmt 76) post cut n 48 ((ls.set 0 (some (.long x))).set 1 none) r w cb sb) ∧
  (∀ (r : List Value), j_go (jmt 76) post cut (n + 1) 48 ls r w cb sb ↔ g_ld ls[0]? (fun v => t_l v ∧ j_k (jmt 76) post cut n 49 ls (v :: r) w cb sb)) ∧
  (∀ (r : List Value), j_go (jmt 76) post cut (n + 1) 49 ls r w cb sb ↔ g_ld ls[0]? (fun v => t_l v ∧ j_k (jmt 76) post cut n 50 ls (v :: r) w cb sb)) ∧
  (∀ (r : List Value), j_go (jmt 76) post cut (n + 1) 50 ls r w cb sb ↔ j_k (jmt 76) post cut n 52 ls (.int (Int8.ofInt 32).toInt32 :: r) w cb sb) ∧
  (∀ (r : List Value) (x : Int64) (y : Int32), j_go (jmt 76) post cut (n + 1) 52 ls (.int y :: .long x :: r) w cb sb ↔ j_k (jmt 76) post cut n 53 ls (.long ((x.toUInt64 >>> (y.toInt64.toUInt64 &&& Int64.toUInt64 63)).toInt64) :: r) w cb sb) ∧
  (∀ (r : List Value) (x y : Int64), j_go (jmt 76) post cut (n + 1) 53 ls (.long y :: .long x :: r) w cb sb ↔ j_k (jmt 76) post cut n 54 ls (.long (x + y) :: r) w cb sb) ∧
  (∀ (r : List Value) (x : Int64), j_go (jmt 76) post cut (n + 1) 54 ls (.long x :: r) w cb sb ↔ (j_ok1 ls 0 = true ∧ 1 < ls.length) ∧ j_k (jmt 76) post cut n 55 ((ls.set 0 (some (.long x))).set 1 none) r w cb sb) ∧
  (∀ (r : List Value), j_go (jmt 76) post cut (n + 1) 55 ls r w cb sb ↔ g_ld ls[0]? (fun v => t_l v ∧ j_k (jmt 76) post cut n 56 ls (v :: r) w cb sb)) ∧
  (∀ (r : List Value) (x : Int64), j_go (jmt 76) post cut (n + 1) 56 ls (.long x :: r) w cb sb ↔ j_k (jmt 76) post cut n 57 ls (.int x.toInt32 :: r) w cb sb) ∧
  (∀ (r : List Value), j_go (jmt 76) post cut (n + 1) 57 ls r w cb sb ↔ j_k (jmt 76) post cut n 59 ls (.int (Int8.ofInt 127).toInt32 :: r) w cb sb) ∧
  (∀ (r : List Value) (x y : Int32), j_go (jmt 76) post cut (n + 1) 59 ls (.int y :: .int x :: r) w cb sb ↔ j_k (jmt 76) post cut n 60 ls (.int (x &&& y) :: r) w cb sb) ∧
  (∀ (a : Int32), j_go (jmt 76) post cut (n + 1) 60 ls [.int a] w cb sb ↔ narrow .int (.int a) = .int a ∧ post (some (.int a)) w) := ⟨fun _ => (j_go_s rfl).trans e_lload_n,
  fun _ => (j_go_s rfl).trans e_lload_n,
  fun _ => (j_go_s rfl).trans e_iconst,
  fun _ _ _ => (j_go_s rfl).trans e_lushr,
  fun _ => (j_go_s rfl).trans e_ldc2,
  fun _ _ _ => (j_go_s rfl).trans e_land,
  fun _ _ _ => (j_go_s rfl).trans e_lsub,
  fun _ _ => (j_go_s rfl).trans e_lstore_n,
  fun _ => (j_go_s rfl).trans e_lload_n,
  fun _ => (j_go_s rfl).trans e_ldc2,
  fun _ _ _ => (j_go_s rfl).trans e_land,
  fun _ => (j_go_s rfl).trans e_lload_n,
  fun _ => (j_go_s rfl).trans e_iconst,
  fun _ _ _ => (j_go_s rfl).trans e_lushr,
  fun _ => (j_go_s rfl).trans e_ldc2,
  fun _ _ _ => (j_go_s rfl).trans e_land,
  fun _ _ _ => (j_go_s rfl).trans e_ladd,
  fun _ _ => (j_go_s rfl).trans e_lstore_n,
  fun _ => (j_go_s rfl).trans e_lload_n,
  fun _ => (j_go_s rfl).trans e_lload_n,
  fun _ => (j_go_s rfl).trans e_iconst,
  fun _ _ _ => (j_go_s rfl).trans e_lushr,
  fun _ _ _ => (j_go_s rfl).trans e_ladd,
  fun _ => (j_go_s rfl).trans e_ldc2,
  fun _ _ _ => (j_go_s rfl).trans e_land,
  fun _ _ => (j_go_s rfl).trans e_lstore_n,
  fun _ => (j_go_s rfl).trans e_lload_n,
  fun _ => (j_go_s rfl).trans e_lload_n,
  fun _ => (j_go_s rfl).trans e_bipush,
  fun _ _ _ => (j_go_s rfl).trans e_lushr,
  fun _ _ _ => (j_go_s rfl).trans e_ladd,
  fun _ _ => (j_go_s rfl).trans e_lstore_n,
  fun _ => (j_go_s rfl).trans e_lload_n,
  fun _ => (j_go_s rfl).trans e_lload_n,
  fun _ => (j_go_s rfl).trans e_bipush,
  fun _ _ _ => (j_go_s rfl).trans e_lushr,
  fun _ _ _ => (j_go_s rfl).trans e_ladd,
  fun _ _ => (j_go_s rfl).trans e_lstore_n,
  fun _ => (j_go_s rfl).trans e_lload_n,
  fun _ => (j_go_s rfl).trans e_lload_n,
  fun _ => (j_go_s rfl).trans e_bipush,
  fun _ _ _ => (j_go_s rfl).trans e_lushr,
  fun _ _ _ => (j_go_s rfl).trans e_ladd,
  fun _ _ => (j_go_s rfl).trans e_lstore_n,
  fun _ => (j_go_s rfl).trans e_lload_n,
  fun _ _ => (j_go_s rfl).trans e_l2i,
  fun _ => (j_go_s rfl).trans e_bipush,
  fun _ _ _ => (j_go_s rfl).trans e_iand,
  fun _ => (j_go_s rfl).trans e_iret⟩
set_option maxRecDepth 100000 in
set_option maxHeartbeats 4000000 in
theorem st_Packet_hasEnded {post : Option Value → jW → Prop} {cut : List Nat} {n : Nat} {ls : jL} {w : jW} {cb sb : Nat} : (∀ (r : List Value), j_go (jmt 78) post cut (n + 1) 0 ls r w cb sb ↔ g_ld ls[0]? (fun v => t_a v ∧ j_k (jmt 78) post cut n 1 ls (v :: r) w cb sb)) ∧
  (∀ (r : List Value) (a : Nat), j_go (jmt 78) post cut (n + 1) 1 ls (.ref a :: r) w cb sb ↔ g_ob 6 (w a) (fun fs => g_v fs[2]? (fun v => j_k (jmt 78) post cut n 4 ls (v :: r) w cb sb))) ∧
  (∀ (r : List Value), j_go (jmt 78) post cut (n + 1) 4 ls r w cb sb ↔ g_ld ls[1]? (fun v => t_i v ∧ j_k (jmt 78) post cut n 5 ls (v :: r) w cb sb)) ∧
  (∀ (r : List Value), j_go (jmt 78) post cut (n + 1) 5 ls r w cb sb ↔ g_ld ls[2]? (fun v => t_i v ∧ j_k (jmt 78) post cut n 6 ls (v :: r) w cb sb)) ∧
  (∀ (r : List Value) (a0 a1 : Value), j_go (jmt 78) post cut (n + 1) 6 ls (a1 :: a0 :: r) w cb sb ↔ j_w8 r ∧ g_call (jmt 61) [a0, a1] w cb sb (fun v w' c s => j_k (jmt 78) post cut n 9 ls (v.toList ++ r) w' c s)) ∧
  (∀ (r : List Value) (a : Nat) (j : Int32), j_go (jmt 78) post cut (n + 1) 9 ls (.int j :: .ref a :: r) w cb sb ↔ g_la 2 (w a) (fun m f => vp_in j m ∧ j_k (jmt 78) post cut n 10 ls (.long (f j.toNatClampNeg) :: r) w cb sb)) ∧
  (∀ (r : List Value), j_go (jmt 78) post cut (n + 1) 10 ls r w cb sb ↔ g_ld ls[2]? (fun v => t_i v ∧ j_k (jmt 78) post cut n 11 ls (v :: r) w cb sb)) ∧
  (∀ (r : List Value), j_go (jmt 78) post cut (n + 1) 11 ls r w cb sb ↔ j_k (jmt 78) post cut n 13 ls (.int (Int8.ofInt 64).toInt32 :: r) w cb sb) ∧
  (∀ (r : List Value) (a b : Int32), j_go (jmt 78) post cut (n + 1) 13 ls (.int b :: .int a :: r) w cb sb ↔ ¬ b = 0 ∧ j_k (jmt 78) post cut n 14 ls (.int (a - a / b * b) :: r) w cb sb) ∧
  (∀ (r : List Value) (x : Int64) (y : Int32), j_go (jmt 78) post cut (n + 1) 14 ls (.int y :: .long x :: r) w cb sb ↔ j_k (jmt 78) post cut n 15 ls (.long (x >>> (y.toInt64 &&& 63)) :: r) w cb sb) ∧
  (∀ (r : List Value), j_go (jmt 78) post cut (n + 1) 15 ls r w cb sb ↔ j_k (jmt 78) post cut n 16 ls (.long (Int64.ofNat 1) :: r) w cb sb) ∧
  (∀ (r : List Value) (x y : Int64), j_go (jmt 78) post cut (n + 1) 16 ls (.long y :: .long x :: r) w cb sb ↔ j_k (jmt 78) post cut n 17 ls (.long (x &&& y) :: r) w cb sb) ∧
  (∀ (r : List Value), j_go (jmt 78) post cut (n + 1) 17 ls r w cb sb ↔ j_k (jmt 78) post cut n 18 ls (.long (Int64.ofNat 1) :: r) w cb sb) ∧
  (∀ (r : List Value) (x y : Int64), j_go (jmt 78) post cut (n + 1) 18 ls (.long y :: .long x :: r) w cb sb ↔ j_k (jmt 78) post cut n 19 ls (.int (lg_cmp x y) :: r) w cb sb) ∧
  (∀ (r : List Value) (a : Int32), j_go (jmt 78) post cut (n + 1) 19 ls (.int a :: r) w cb sb ↔ (¬ a = 0 → j_k (jmt 78) post cut n 26 ls r w cb sb) ∧ (¬ (¬ a = 0) → j_k (jmt 78) post cut n 22 ls r w cb sb)) ∧
  (∀ (r : List Value), j_go (jmt 78) post cut (n + 1) 22 ls r w cb sb ↔ j_k (jmt 78) post cut n 23 ls (.int (Int32.ofInt 1) :: r) w cb sb) ∧
  (∀ (r : List Value), j_go (jmt 78) post cut (n + 1) 23 ls r w cb sb ↔ j_k (jmt 78) post cut n 27 ls r w cb sb) ∧
  (∀ (r : List Value), j_go (jmt 78) post cut (n + 1) 26 ls r w cb sb ↔ j_k (jmt 78) post cut n 27 ls (.int (Int32.ofInt 0) :: r) w cb sb) ∧
  (∀ (a : Int32), j_go (jmt 78) post cut (n + 1) 27 ls [.int a] w cb sb ↔ narrow .boolean (.int a) = .int a ∧ post (some (.int a)) w) := ⟨fun _ => (j_go_s rfl).trans e_aload_n,
  fun _ _ => (j_go_s rfl).trans e_getf,
  fun _ => (j_go_s rfl).trans e_iload_n,
  fun _ => (j_go_s rfl).trans e_iload_n,
  fun _ _ _ => (j_go_s rfl).trans e_calls,
  fun _ _ _ => (j_go_s rfl).trans e_lald,
  fun _ => (j_go_s rfl).trans e_iload_n,
  fun _ => (j_go_s rfl).trans e_bipush,
  fun _ _ _ => (j_go_s rfl).trans e_irem,
  fun _ _ _ => (j_go_s rfl).trans e_lshr,
  fun _ => (j_go_s rfl).trans e_lconst,
  fun _ _ _ => (j_go_s rfl).trans e_land,
  fun _ => (j_go_s rfl).trans e_lconst,
  fun _ _ _ => (j_go_s rfl).trans e_lcmp,
  fun _ _ => (j_go_s rfl).trans e_if,
  fun _ => (j_go_s rfl).trans e_iconst,
  fun _ => (j_go_s rfl).trans e_goto,
  fun _ => (j_go_s rfl).trans e_iconst,
  fun _ => (j_go_s rfl).trans e_iret⟩
set_option maxRecDepth 100000 in
set_option maxHeartbeats 4000000 in
theorem st_Law_cell {post : Option Value → jW → Prop} {cut : List Nat} {n : Nat} {ls : jL} {w : jW} {cb sb : Nat} : (∀ (r : List Value), j_go (jmt 79) post cut (n + 1) 0 ls r w cb sb ↔ g_ld ls[1]? (fun v => t_i v ∧ j_k (jmt 79) post cut n 1 ls (v :: r) w cb sb)) ∧
  (∀ (r : List Value), j_go (jmt 79) post cut (n + 1) 1 ls r w cb sb ↔ g_ld ls[0]? (fun v => t_a v ∧ j_k (jmt 79) post cut n 2 ls (v :: r) w cb sb)) ∧
  (∀ (r : List Value) (a : Nat), j_go (jmt 79) post cut (n + 1) 2 ls (.ref a :: r) w cb sb ↔ g_al 0 (w a) (fun m => j_k (jmt 79) post cut n 3 ls (.int (Int32.ofNat m) :: r) w cb sb)) ∧
  (∀ (r : List Value) (a b : Int32), j_go (jmt 79) post cut (n + 1) 3 ls (.int b :: .int a :: r) w cb sb ↔ (b ≤ a → j_k (jmt 79) post cut n 12 ls r w cb sb) ∧ (¬ (b ≤ a) → j_k (jmt 79) post cut n 6 ls r w cb sb)) ∧
  (∀ (r : List Value), j_go (jmt 79) post cut (n + 1) 6 ls r w cb sb ↔ g_ld ls[0]? (fun v => t_a v ∧ j_k (jmt 79) post cut n 7 ls (v :: r) w cb sb)) ∧
  (∀ (r : List Value), j_go (jmt 79) post cut (n + 1) 7 ls r w cb sb ↔ g_ld ls[1]? (fun v => t_i v ∧ j_k (jmt 79) post cut n 8 ls (v :: r) w cb sb)) ∧
  (∀ (r : List Value) (a : Nat) (j : Int32), j_go (jmt 79) post cut (n + 1) 8 ls (.int j :: .ref a :: r) w cb sb ↔ g_ia 0 (w a) (fun m f => vp_in j m ∧ j_k (jmt 79) post cut n 9 ls (.int (f j.toNatClampNeg) :: r) w cb sb)) ∧
  (∀ (r : List Value), j_go (jmt 79) post cut (n + 1) 9 ls r w cb sb ↔ j_k (jmt 79) post cut n 13 ls r w cb sb) ∧
  (∀ (r : List Value), j_go (jmt 79) post cut (n + 1) 12 ls r w cb sb ↔ j_k (jmt 79) post cut n 13 ls (.int (Int32.ofInt 0) :: r) w cb sb) ∧
  (∀ (a : Int32), j_go (jmt 79) post cut (n + 1) 13 ls [.int a] w cb sb ↔ narrow .int (.int a) = .int a ∧ post (some (.int a)) w) := ⟨fun _ => (j_go_s rfl).trans e_iload_n,
  fun _ => (j_go_s rfl).trans e_aload_n,
  fun _ _ => (j_go_s rfl).trans e_alen,
  fun _ _ _ => (j_go_s rfl).trans e_icmp,
  fun _ => (j_go_s rfl).trans e_aload_n,
  fun _ => (j_go_s rfl).trans e_iload_n,
  fun _ _ _ => (j_go_s rfl).trans e_iald,
  fun _ => (j_go_s rfl).trans e_goto,
  fun _ => (j_go_s rfl).trans e_iconst,
  fun _ => (j_go_s rfl).trans e_iret⟩
