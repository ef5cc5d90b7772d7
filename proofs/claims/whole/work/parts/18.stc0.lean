set_option maxRecDepth 100000 in
set_option maxHeartbeats 4000000 in
theorem st_Ref_init {post : Option Value → jW → Prop} {cut : List Nat} {n : Nat} {ls : jL} {w : jW} {cb sb : Nat} : (∀ (r : List Value), j_go (jmt 80) post cut (n + 1) 0 ls r w cb sb ↔ g_ld ls[0]? (fun v => t_a v ∧ j_k (jmt 80) post cut n 1 ls (v :: r) w cb sb)) ∧
  (∀ (r : List Value) (a : Nat), j_go (jmt 80) post cut (n + 1) 1 ls (.ref a :: r) w cb sb ↔ j_w8 r ∧ j_k (jmt 80) post cut n 4 ls r w cb sb) ∧
  (∀ (r : List Value), j_go (jmt 80) post cut (n + 1) 4 ls r w cb sb ↔ g_ld ls[0]? (fun v => t_a v ∧ j_k (jmt 80) post cut n 5 ls (v :: r) w cb sb)) ∧
  (∀ (r : List Value), j_go (jmt 80) post cut (n + 1) 5 ls r w cb sb ↔ j_k (jmt 80) post cut n 7 ls (.int (Int8.ofInt 24).toInt32 :: r) w cb sb) ∧
  (∀ (r : List Value) (z : Int32), j_go (jmt 80) post cut (n + 1) 7 ls (.int z :: r) w cb sb ↔ ¬ z < 0 ∧ 1 ≤ cb ∧ z.toNatClampNeg ≤ sb ∧ z.toNatClampNeg ≤ 60000000 ∧ ∀ a, w a = none → j_k (jmt 80) post cut n 9 ls (.ref a :: r) ((j_up w a (.inl (0, z.toNatClampNeg, .inl (fun _ => 0))))) ((cb - 1)) ((sb - z.toNatClampNeg))) ∧
  (∀ (r : List Value) (v : Value) (a : Nat), j_go (jmt 80) post cut (n + 1) 9 ls (v :: .ref a :: r) w cb sb ↔ g_ob 8 (w a) (fun fs => 2 < fs.length ∧ j_okv 2 v ∧ j_k (jmt 80) post cut n 12 ls r ((j_up w a (.inr (8, fs.set 2 v)))) cb sb)) ∧
  (∀ (r : List Value), j_go (jmt 80) post cut (n + 1) 12 ls r w cb sb ↔ g_ld ls[0]? (fun v => t_a v ∧ j_k (jmt 80) post cut n 13 ls (v :: r) w cb sb)) ∧
  (∀ (r : List Value), j_go (jmt 80) post cut (n + 1) 13 ls r w cb sb ↔ j_k (jmt 80) post cut n 15 ls (.int (Int8.ofInt 12).toInt32 :: r) w cb sb) ∧
  (∀ (r : List Value) (z : Int32), j_go (jmt 80) post cut (n + 1) 15 ls (.int z :: r) w cb sb ↔ ¬ z < 0 ∧ 1 ≤ cb ∧ z.toNatClampNeg ≤ sb ∧ z.toNatClampNeg ≤ 60000000 ∧ ∀ a, w a = none → j_k (jmt 80) post cut n 17 ls (.ref a :: r) ((j_up w a (.inl (0, z.toNatClampNeg, .inl (fun _ => 0))))) ((cb - 1)) ((sb - z.toNatClampNeg))) ∧
  (∀ (r : List Value) (v : Value) (a : Nat), j_go (jmt 80) post cut (n + 1) 17 ls (v :: .ref a :: r) w cb sb ↔ g_ob 8 (w a) (fun fs => 3 < fs.length ∧ j_okv 2 v ∧ j_k (jmt 80) post cut n 20 ls r ((j_up w a (.inr (8, fs.set 3 v)))) cb sb)) ∧
  (∀ (r : List Value), j_go (jmt 80) post cut (n + 1) 20 ls r w cb sb ↔ g_ld ls[0]? (fun v => t_a v ∧ j_k (jmt 80) post cut n 21 ls (v :: r) w cb sb)) ∧
  (∀ (r : List Value), j_go (jmt 80) post cut (n + 1) 21 ls r w cb sb ↔ j_k (jmt 80) post cut n 23 ls (.int (Int8.ofInt 12).toInt32 :: r) w cb sb) ∧
  (∀ (r : List Value) (z : Int32), j_go (jmt 80) post cut (n + 1) 23 ls (.int z :: r) w cb sb ↔ ¬ z < 0 ∧ 1 ≤ cb ∧ z.toNatClampNeg ≤ sb ∧ z.toNatClampNeg ≤ 60000000 ∧ ∀ a, w a = none → j_k (jmt 80) post cut n 25 ls (.ref a :: r) ((j_up w a (.inl (0, z.toNatClampNeg, .inl (fun _ => 0))))) ((cb - 1)) ((sb - z.toNatClampNeg))) ∧
  (∀ (r : List Value) (v : Value) (a : Nat), j_go (jmt 80) post cut (n + 1) 25 ls (v :: .ref a :: r) w cb sb ↔ g_ob 8 (w a) (fun fs => 4 < fs.length ∧ j_okv 2 v ∧ j_k (jmt 80) post cut n 28 ls r ((j_up w a (.inr (8, fs.set 4 v)))) cb sb)) ∧
  (∀ (r : List Value), j_go (jmt 80) post cut (n + 1) 28 ls r w cb sb ↔ g_ld ls[0]? (fun v => t_a v ∧ j_k (jmt 80) post cut n 29 ls (v :: r) w cb sb)) ∧
  (∀ (r : List Value), j_go (jmt 80) post cut (n + 1) 29 ls r w cb sb ↔ j_k (jmt 80) post cut n 31 ls (.int (Int8.ofInt 12).toInt32 :: r) w cb sb) ∧
  (∀ (r : List Value) (z : Int32), j_go (jmt 80) post cut (n + 1) 31 ls (.int z :: r) w cb sb ↔ ¬ z < 0 ∧ 1 ≤ cb ∧ z.toNatClampNeg ≤ sb ∧ z.toNatClampNeg ≤ 60000000 ∧ ∀ a, w a = none → j_k (jmt 80) post cut n 33 ls (.ref a :: r) ((j_up w a (.inl (1, z.toNatClampNeg, .inl (fun _ => 0))))) ((cb - 1)) ((sb - z.toNatClampNeg))) ∧
  (∀ (r : List Value) (v : Value) (a : Nat), j_go (jmt 80) post cut (n + 1) 33 ls (v :: .ref a :: r) w cb sb ↔ g_ob 8 (w a) (fun fs => 5 < fs.length ∧ j_okv 2 v ∧ j_k (jmt 80) post cut n 36 ls r ((j_up w a (.inr (8, fs.set 5 v)))) cb sb)) ∧
  (∀ (r : List Value), j_go (jmt 80) post cut (n + 1) 36 ls r w cb sb ↔ g_ld ls[0]? (fun v => t_a v ∧ j_k (jmt 80) post cut n 37 ls (v :: r) w cb sb)) ∧
  (∀ (r : List Value), j_go (jmt 80) post cut (n + 1) 37 ls r w cb sb ↔ j_k (jmt 80) post cut n 39 ls (.int (Int8.ofInt 8).toInt32 :: r) w cb sb) ∧
  (∀ (r : List Value) (z : Int32), j_go (jmt 80) post cut (n + 1) 39 ls (.int z :: r) w cb sb ↔ ¬ z < 0 ∧ 1 ≤ cb ∧ z.toNatClampNeg ≤ sb ∧ z.toNatClampNeg ≤ 60000000 ∧ ∀ a, w a = none → j_k (jmt 80) post cut n 41 ls (.ref a :: r) ((j_up w a (.inl (0, z.toNatClampNeg, .inl (fun _ => 0))))) ((cb - 1)) ((sb - z.toNatClampNeg))) ∧
  (∀ (r : List Value) (v : Value) (a : Nat), j_go (jmt 80) post cut (n + 1) 41 ls (v :: .ref a :: r) w cb sb ↔ g_ob 8 (w a) (fun fs => 6 < fs.length ∧ j_okv 2 v ∧ j_k (jmt 80) post cut n 44 ls r ((j_up w a (.inr (8, fs.set 6 v)))) cb sb)) ∧
  (∀ (r : List Value), j_go (jmt 80) post cut (n + 1) 44 ls r w cb sb ↔ g_ld ls[0]? (fun v => t_a v ∧ j_k (jmt 80) post cut n 45 ls (v :: r) w cb sb)) ∧
  (∀ (r : List Value), j_go (jmt 80) post cut (n + 1) 45 ls r w cb sb ↔ j_k (jmt 80) post cut n 47 ls (.int (Int8.ofInt 24).toInt32 :: r) w cb sb) ∧
  (∀ (r : List Value) (z : Int32), j_go (jmt 80) post cut (n + 1) 47 ls (.int z :: r) w cb sb ↔ ¬ z < 0 ∧ 1 ≤ cb ∧ z.toNatClampNeg ≤ sb ∧ z.toNatClampNeg ≤ 60000000 ∧ ∀ a, w a = none → j_k (jmt 80) post cut n 49 ls (.ref a :: r) ((j_up w a (.inl (0, z.toNatClampNeg, .inl (fun _ => 0))))) ((cb - 1)) ((sb - z.toNatClampNeg))) ∧
  (∀ (r : List Value) (v : Value) (a : Nat), j_go (jmt 80) post cut (n + 1) 49 ls (v :: .ref a :: r) w cb sb ↔ g_ob 8 (w a) (fun fs => 7 < fs.length ∧ j_okv 2 v ∧ j_k (jmt 80) post cut n 52 ls r ((j_up w a (.inr (8, fs.set 7 v)))) cb sb)) ∧
  (∀ (r : List Value), j_go (jmt 80) post cut (n + 1) 52 ls r w cb sb ↔ g_ld ls[0]? (fun v => t_a v ∧ j_k (jmt 80) post cut n 53 ls (v :: r) w cb sb)) ∧
  (∀ (r : List Value), j_go (jmt 80) post cut (n + 1) 53 ls r w cb sb ↔ j_k (jmt 80) post cut n 56 ls (.int (Int16.ofInt 1030).toInt32 :: r) w cb sb) ∧
  (∀ (r : List Value) (z : Int32), j_go (jmt 80) post cut (n + 1) 56 ls (.int z :: r) w cb sb ↔ ¬ z < 0 ∧ 1 ≤ cb ∧ z.toNatClampNeg ≤ sb ∧ z.toNatClampNeg ≤ 60000000 ∧ ∀ a, w a = none → j_k (jmt 80) post cut n 58 ls (.ref a :: r) ((j_up w a (.inl (0, z.toNatClampNeg, .inl (fun _ => 0))))) ((cb - 1)) ((sb - z.toNatClampNeg))) ∧
  (∀ (r : List Value) (v : Value) (a : Nat), j_go (jmt 80) post cut (n + 1) 58 ls (v :: .ref a :: r) w cb sb ↔ g_ob 8 (w a) (fun fs => 9 < fs.length ∧ j_okv 2 v ∧ j_k (jmt 80) post cut n 61 ls r ((j_up w a (.inr (8, fs.set 9 v)))) cb sb)) ∧
  (∀ (r : List Value), j_go (jmt 80) post cut (n + 1) 61 ls r w cb sb ↔ g_ld ls[0]? (fun v => t_a v ∧ j_k (jmt 80) post cut n 62 ls (v :: r) w cb sb)) ∧
  (∀ (r : List Value), j_go (jmt 80) post cut (n + 1) 62 ls r w cb sb ↔ j_k (jmt 80) post cut n 65 ls (.int (Int16.ofInt 1030).toInt32 :: r) w cb sb) ∧
  (∀ (r : List Value) (z : Int32), j_go (jmt 80) post cut (n + 1) 65 ls (.int z :: r) w cb sb ↔ ¬ z < 0 ∧ 1 ≤ cb ∧ z.toNatClampNeg ≤ sb ∧ z.toNatClampNeg ≤ 60000000 ∧ ∀ a, w a = none → j_k (jmt 80) post cut n 67 ls (.ref a :: r) ((j_up w a (.inl (0, z.toNatClampNeg, .inl (fun _ => 0))))) ((cb - 1)) ((sb - z.toNatClampNeg))) ∧
  (∀ (r : List Value) (v : Value) (a : Nat), j_go (jmt 80) post cut (n + 1) 67 ls (v :: .ref a :: r) w cb sb ↔ g_ob 8 (w a) (fun fs => 10 < fs.length ∧ j_okv 2 v ∧ j_k (jmt 80) post cut n 70 ls r ((j_up w a (.inr (8, fs.set 10 v)))) cb sb)) ∧
  (∀ (r : List Value), j_go (jmt 80) post cut (n + 1) 70 ls r w cb sb ↔ g_ld ls[0]? (fun v => t_a v ∧ j_k (jmt 80) post cut n 71 ls (v :: r) w cb sb)) ∧
  (∀ (r : List Value), j_go (jmt 80) post cut (n + 1) 71 ls r w cb sb ↔ j_k (jmt 80) post cut n 74 ls (.int (Int16.ofInt 1030).toInt32 :: r) w cb sb) ∧
  (∀ (r : List Value) (z : Int32), j_go (jmt 80) post cut (n + 1) 74 ls (.int z :: r) w cb sb ↔ ¬ z < 0 ∧ 1 ≤ cb ∧ z.toNatClampNeg ≤ sb ∧ z.toNatClampNeg ≤ 60000000 ∧ ∀ a, w a = none → j_k (jmt 80) post cut n 76 ls (.ref a :: r) ((j_up w a (.inl (0, z.toNatClampNeg, .inl (fun _ => 0))))) ((cb - 1)) ((sb - z.toNatClampNeg))) ∧
  (∀ (r : List Value) (v : Value) (a : Nat), j_go (jmt 80) post cut (n + 1) 76 ls (v :: .ref a :: r) w cb sb ↔ g_ob 8 (w a) (fun fs => 11 < fs.length ∧ j_okv 2 v ∧ j_k (jmt 80) post cut n 79 ls r ((j_up w a (.inr (8, fs.set 11 v)))) cb sb)) ∧
  (∀ (r : List Value), j_go (jmt 80) post cut (n + 1) 79 ls r w cb sb ↔ g_ld ls[0]? (fun v => t_a v ∧ j_k (jmt 80) post cut n 80 ls (v :: r) w cb sb)) ∧
  (∀ (r : List Value), j_go (jmt 80) post cut (n + 1) 80 ls r w cb sb ↔ j_k (jmt 80) post cut n 83 ls (.int (Int16.ofInt 1030).toInt32 :: r) w cb sb) ∧
  (∀ (r : List Value) (z : Int32), j_go (jmt 80) post cut (n + 1) 83 ls (.int z :: r) w cb sb ↔ ¬ z < 0 ∧ 1 ≤ cb ∧ z.toNatClampNeg ≤ sb ∧ z.toNatClampNeg ≤ 60000000 ∧ ∀ a, w a = none → j_k (jmt 80) post cut n 85 ls (.ref a :: r) ((j_up w a (.inl (0, z.toNatClampNeg, .inl (fun _ => 0))))) ((cb - 1)) ((sb - z.toNatClampNeg))) ∧
  (∀ (r : List Value) (v : Value) (a : Nat), j_go (jmt 80) post cut (n + 1) 85 ls (v :: .ref a :: r) w cb sb ↔ g_ob 8 (w a) (fun fs => 12 < fs.length ∧ j_okv 2 v ∧ j_k (jmt 80) post cut n 88 ls r ((j_up w a (.inr (8, fs.set 12 v)))) cb sb)) ∧
  (∀ (r : List Value), j_go (jmt 80) post cut (n + 1) 88 ls r w cb sb ↔ g_ld ls[0]? (fun v => t_a v ∧ j_k (jmt 80) post cut n 89 ls (v :: r) w cb sb)) ∧
  (∀ (r : List Value), j_go (jmt 80) post cut (n + 1) 89 ls r w cb sb ↔ j_k (jmt 80) post cut n 92 ls (.int (Int16.ofInt 3090).toInt32 :: r) w cb sb) ∧
  (∀ (r : List Value) (z : Int32), j_go (jmt 80) post cut (n + 1) 92 ls (.int z :: r) w cb sb ↔ ¬ z < 0 ∧ 1 ≤ cb ∧ z.toNatClampNeg ≤ sb ∧ z.toNatClampNeg ≤ 60000000 ∧ ∀ a, w a = none → j_k (jmt 80) post cut n 94 ls (.ref a :: r) ((j_up w a (.inl (0, z.toNatClampNeg, .inl (fun _ => 0))))) ((cb - 1)) ((sb - z.toNatClampNeg))) ∧
  (∀ (r : List Value) (v : Value) (a : Nat), j_go (jmt 80) post cut (n + 1) 94 ls (v :: .ref a :: r) w cb sb ↔ g_ob 8 (w a) (fun fs => 13 < fs.length ∧ j_okv 2 v ∧ j_k (jmt 80) post cut n 97 ls r ((j_up w a (.inr (8, fs.set 13 v)))) cb sb)) ∧
  (∀ (r : List Value), j_go (jmt 80) post cut (n + 1) 97 ls r w cb sb ↔ g_ld ls[0]? (fun v => t_a v ∧ j_k (jmt 80) post cut n 98 ls (v :: r) w cb sb)) ∧
  (∀ (r : List Value), j_go (jmt 80) post cut (n + 1) 98 ls r w cb sb ↔ j_k (jmt 80) post cut n 100 ls (.int (Int8.ofInt 8).toInt32 :: r) w cb sb) ∧
  (∀ (r : List Value) (z : Int32), j_go (jmt 80) post cut (n + 1) 100 ls (.int z :: r) w cb sb ↔ ¬ z < 0 ∧ 1 ≤ cb ∧ z.toNatClampNeg ≤ sb ∧ z.toNatClampNeg ≤ 60000000 ∧ ∀ a, w a = none → j_k (jmt 80) post cut n 102 ls (.ref a :: r) ((j_up w a (.inl (0, z.toNatClampNeg, .inl (fun _ => 0))))) ((cb - 1)) ((sb - z.toNatClampNeg))) ∧
  (∀ (r : List Value) (v : Value) (a : Nat), j_go (jmt 80) post cut (n + 1) 102 ls (v :: .ref a :: r) w cb sb ↔ g_ob 8 (w a) (fun fs => 14 < fs.length ∧ j_okv 2 v ∧ j_k (jmt 80) post cut n 105 ls r ((j_up w a (.inr (8, fs.set 14 v)))) cb sb)) ∧
  (∀ (r : List Value), j_go (jmt 80) post cut (n + 1) 105 ls r w cb sb ↔ g_ld ls[0]? (fun v => t_a v ∧ j_k (jmt 80) post cut n 106 ls (v :: r) w cb sb)) ∧
  (∀ (r : List Value), j_go (jmt 80) post cut (n + 1) 106 ls r w cb sb ↔ j_k (jmt 80) post cut n 108 ls (.int (Int8.ofInt 64).toInt32 :: r) w cb sb) ∧
  (∀ (r : List Value) (z : Int32), j_go (jmt 80) post cut (n + 1) 108 ls (.int z :: r) w cb sb ↔ ¬ z < 0 ∧ 1 ≤ cb ∧ z.toNatClampNeg ≤ sb ∧ z.toNatClampNeg ≤ 60000000 ∧ ∀ a, w a = none → j_k (jmt 80) post cut n 110 ls (.ref a :: r) ((j_up w a (.inl (0, z.toNatClampNeg, .inl (fun _ => 0))))) ((cb - 1)) ((sb - z.toNatClampNeg))) ∧
  (∀ (r : List Value) (v : Value) (a : Nat), j_go (jmt 80) post cut (n + 1) 110 ls (v :: .ref a :: r) w cb sb ↔ g_ob 8 (w a) (fun fs => 15 < fs.length ∧ j_okv 2 v ∧ j_k (jmt 80) post cut n 113 ls r ((j_up w a (.inr (8, fs.set 15 v)))) cb sb)) ∧
  (∀ (r : List Value), j_go (jmt 80) post cut (n + 1) 113 ls r w cb sb ↔ g_ld ls[0]? (fun v => t_a v ∧ j_k (jmt 80) post cut n 114 ls (v :: r) w cb sb)) ∧
  (∀ (r : List Value), j_go (jmt 80) post cut (n + 1) 114 ls r w cb sb ↔ j_k (jmt 80) post cut n 116 ls (.int (Int8.ofInt 24).toInt32 :: r) w cb sb) ∧
  (∀ (r : List Value) (z : Int32), j_go (jmt 80) post cut (n + 1) 116 ls (.int z :: r) w cb sb ↔ ¬ z < 0 ∧ 1 ≤ cb ∧ z.toNatClampNeg ≤ sb ∧ z.toNatClampNeg ≤ 60000000 ∧ ∀ a, w a = none → j_k (jmt 80) post cut n 118 ls (.ref a :: r) ((j_up w a (.inl (0, z.toNatClampNeg, .inl (fun _ => 0))))) ((cb - 1)) ((sb - z.toNatClampNeg))) ∧
  (∀ (r : List Value) (v : Value) (a : Nat), j_go (jmt 80) post cut (n + 1) 118 ls (v :: .ref a :: r) w cb sb ↔ g_ob 8 (w a) (fun fs => 16 < fs.length ∧ j_okv 2 v ∧ j_k (jmt 80) post cut n 121 ls r ((j_up w a (.inr (8, fs.set 16 v)))) cb sb)) ∧
  (∀ (r : List Value), j_go (jmt 80) post cut (n + 1) 121 ls r w cb sb ↔ g_ld ls[0]? (fun v => t_a v ∧ j_k (jmt 80) post cut n 122 ls (v :: r) w cb sb)) ∧
  (∀ (r : List Value), j_go (jmt 80) post cut (n + 1) 122 ls r w cb sb ↔ j_k (jmt 80) post cut n 125 ls (.int (Int16.ofInt 480).toInt32 :: r) w cb sb) ∧
  (∀ (r : List Value) (z : Int32), j_go (jmt 80) post cut (n + 1) 125 ls (.int z :: r) w cb sb ↔ ¬ z < 0 ∧ 1 ≤ cb ∧ z.toNatClampNeg ≤ sb ∧ z.toNatClampNeg ≤ 60000000 ∧ ∀ a, w a = none → j_k (jmt 80) post cut n 127 ls (.ref a :: r) ((j_up w a (.inl (0, z.toNatClampNeg, .inl (fun _ => 0))))) ((cb - 1)) ((sb - z.toNatClampNeg))) ∧
  (∀ (r : List Value) (v : Value) (a : Nat), j_go (jmt 80) post cut (n + 1) 127 ls (v :: .ref a :: r) w cb sb ↔ g_ob 8 (w a) (fun fs => 17 < fs.length ∧ j_okv 2 v ∧ j_k (jmt 80) post cut n 130 ls r ((j_up w a (.inr (8, fs.set 17 v)))) cb sb)) ∧
  (∀ (r : List Value), j_go (jmt 80) post cut (n + 1) 130 ls r w cb sb ↔ g_ld ls[0]? (fun v => t_a v ∧ j_k (jmt 80) post cut n 131 ls (v :: r) w cb sb)) ∧
  (∀ (r : List Value), j_go (jmt 80) post cut (n + 1) 131 ls r w cb sb ↔ j_k (jmt 80) post cut n 133 ls (.int (Int8.ofInt 13).toInt32 :: r) w cb sb) ∧
  (∀ (r : List Value) (z : Int32), j_go (jmt 80) post cut (n + 1) 133 ls (.int z :: r) w cb sb ↔ ¬ z < 0 ∧ 1 ≤ cb ∧ z.toNatClampNeg ≤ sb ∧ z.toNatClampNeg ≤ 60000000 ∧ ∀ a, w a = none → j_k (jmt 80) post cut n 135 ls (.ref a :: r) ((j_up w a (.inl (0, z.toNatClampNeg, .inl (fun _ => 0))))) ((cb - 1)) ((sb - z.toNatClampNeg))) ∧
  (∀ (r : List Value) (v : Value) (a : Nat), j_go (jmt 80) post cut (n + 1) 135 ls (v :: .ref a :: r) w cb sb ↔ g_ob 8 (w a) (fun fs => 19 < fs.length ∧ j_okv 2 v ∧ j_k (jmt 80) post cut n 138 ls r ((j_up w a (.inr (8, fs.set 19 v)))) cb sb)) ∧
  (∀ (r : List Value), j_go (jmt 80) post cut (n + 1) 138 ls r w cb sb ↔ g_ld ls[0]? (fun v => t_a v ∧ j_k (jmt 80) post cut n 139 ls (v :: r) w cb sb)) ∧
  (∀ (r : List Value), j_go (jmt 80) post cut (n + 1) 139 ls r w cb sb ↔ j_k (jmt 80) post cut n 141 ls (.int (Int8.ofInt 13).toInt32 :: r) w cb sb) ∧
  (∀ (r : List Value) (z : Int32), j_go (jmt 80) post cut (n + 1) 141 ls (.int z :: r) w cb sb ↔ ¬ z < 0 ∧ 1 ≤ cb ∧ z.toNatClampNeg ≤ sb ∧ z.toNatClampNeg ≤ 60000000 ∧ ∀ a, w a = none → j_k (jmt 80) post cut n 143 ls (.ref a :: r) ((j_up w a (.inl (0, z.toNatClampNeg, .inl (fun _ => 0))))) ((cb - 1)) ((sb - z.toNatClampNeg))) ∧
  (∀ (r : List Value) (v : Value) (a : Nat), j_go (jmt 80) post cut (n + 1) 143 ls (v :: .ref a :: r) w cb sb ↔ g_ob 8 (w a) (fun fs => 20 < fs.length ∧ j_okv 2 v ∧ j_k (jmt 80) post cut n 146 ls r ((j_up w a (.inr (8, fs.set 20 v)))) cb sb)) ∧
  (∀ (r : List Value), j_go (jmt 80) post cut (n + 1) 146 ls r w cb sb ↔ g_ld ls[0]? (fun v => t_a v ∧ j_k (jmt 80) post cut n 147 ls (v :: r) w cb sb)) ∧
  (∀ (r : List Value), j_go (jmt 80) post cut (n + 1) 147 ls r w cb sb ↔ j_k (jmt 80) post cut n 149 ls (.int (Int8.ofInt 13).toInt32 :: r) w cb sb) ∧
  (∀ (r : List Value) (z : Int32), j_go (jmt 80) post cut (n + 1) 149 ls (.int z :: r) w cb sb ↔ ¬ z < 0 ∧ 1 ≤ cb ∧ z.toNatClampNeg ≤ sb ∧ z.toNatClampNeg ≤ 60000000 ∧ ∀ a, w a = none → j_k (jmt 80) post cut n 151 ls (.ref a :: r) ((j_up w a (.inl (1, z.toNatClampNeg, .inl (fun _ => 0))))) ((cb - 1)) ((sb - z.toNatClampNeg))) ∧
  (∀ (r : List Value) (v : Value) (a : Nat), j_go (jmt 80) post cut (n + 1) 151 ls (v :: .ref a :: r) w cb sb ↔ g_ob 8 (w a) (fun fs => 21 < fs.length ∧ j_okv 2 v ∧ j_k (jmt 80) post cut n 154 ls r ((j_up w a (.inr (8, fs.set 21 v)))) cb sb)) ∧
  (∀ (r : List Value), j_go (jmt 80) post cut (n + 1) 154 ls r w cb sb ↔ g_ld ls[0]? (fun v => t_a v ∧ j_k (jmt 80) post cut n 155 ls (v :: r) w cb sb)) ∧
  (∀ (r : List Value), j_go (jmt 80) post cut (n + 1) 155 ls r w cb sb ↔ j_k (jmt 80) post cut n 158 ls (.int (Int16.ofInt 486).toInt32 :: r) w cb sb) ∧
  (∀ (r : List Value) (z : Int32), j_go (jmt 80) post cut (n + 1) 158 ls (.int z :: r) w cb sb ↔ ¬ z < 0 ∧ 1 ≤ cb ∧ z.toNatClampNeg ≤ sb ∧ z.toNatClampNeg ≤ 60000000 ∧ ∀ a, w a = none → j_k (jmt 80) post cut n 160 ls (.ref a :: r) ((j_up w a (.inl (0, z.toNatClampNeg, .inl (fun _ => 0))))) ((cb - 1)) ((sb - z.toNatClampNeg))) ∧
  (∀ (r : List Value) (v : Value) (a : Nat), j_go (jmt 80) post cut (n + 1) 160 ls (v :: .ref a :: r) w cb sb ↔ g_ob 8 (w a) (fun fs => 23 < fs.length ∧ j_okv 2 v ∧ j_k (jmt 80) post cut n 163 ls r ((j_up w a (.inr (8, fs.set 23 v)))) cb sb)) ∧
  (∀ (r : List Value), j_go (jmt 80) post cut (n + 1) 163 ls r w cb sb ↔ g_ld ls[0]? (fun v => t_a v ∧ j_k (jmt 80) post cut n 164 ls (v :: r) w cb sb)) ∧
  (∀ (r : List Value), j_go (jmt 80) post cut (n + 1) 164 ls r w cb sb ↔ j_k (jmt 80) post cut n 166 ls (.int (Int8.ofInt 8).toInt32 :: r) w cb sb) ∧
  (∀ (r : List Value) (z : Int32), j_go (jmt 80) post cut (n + 1) 166 ls (.int z :: r) w cb sb ↔ ¬ z < 0 ∧ 1 ≤ cb ∧ z.toNatClampNeg ≤ sb ∧ z.toNatClampNeg ≤ 60000000 ∧ ∀ a, w a = none → j_k (jmt 80) post cut n 168 ls (.ref a :: r) ((j_up w a (.inl (0, z.toNatClampNeg, .inl (fun _ => 0))))) ((cb - 1)) ((sb - z.toNatClampNeg))) ∧
  (∀ (r : List Value) (v : Value) (a : Nat), j_go (jmt 80) post cut (n + 1) 168 ls (v :: .ref a :: r) w cb sb ↔ g_ob 8 (w a) (fun fs => 24 < fs.length ∧ j_okv 2 v ∧ j_k (jmt 80) post cut n 171 ls r ((j_up w a (.inr (8, fs.set 24 v)))) cb sb)) ∧
  (∀ (r : List Value), j_go (jmt 80) post cut (n + 1) 171 ls r w cb sb ↔ g_ld ls[0]? (fun v => t_a v ∧ j_k (jmt 80) post cut n 172 ls (v :: r) w cb sb)) ∧
  (∀ (r : List Value), j_go (jmt 80) post cut (n + 1) 172 ls r w cb sb ↔ g_ld ls[1]? (fun v => t_i v ∧ j_k (jmt 80) post cut n 173 ls (v :: r) w cb sb)) ∧
  (∀ (r : List Value), j_go (jmt 80) post cut (n + 1) 173 ls r w cb sb ↔ j_k (jmt 80) post cut n 174 ls (.int (Int32.ofInt 1) :: r) w cb sb) ∧
  (∀ (r : List Value) (a b : Int32), j_go (jmt 80) post cut (n + 1) 174 ls (.int b :: .int a :: r) w cb sb ↔ (b ≤ a → j_k (jmt 80) post cut n 181 ls r w cb sb) ∧ (¬ (b ≤ a) → j_k (jmt 80) post cut n 177 ls r w cb sb)) ∧
  (∀ (r : List Value), j_go (jmt 80) post cut (n + 1) 177 ls r w cb sb ↔ j_k (jmt 80) post cut n 178 ls (.int (Int32.ofInt 1) :: r) w cb sb) ∧
  (∀ (r : List Value), j_go (jmt 80) post cut (n + 1) 178 ls r w cb sb ↔ j_k (jmt 80) post cut n 193 ls r w cb sb) ∧
  (∀ (r : List Value), j_go (jmt 80) post cut (n + 1) 181 ls r w cb sb ↔ g_ld ls[1]? (fun v => t_i v ∧ j_k (jmt 80) post cut n 182 ls (v :: r) w cb sb)) ∧
  (∀ (r : List Value), j_go (jmt 80) post cut (n + 1) 182 ls r w cb sb ↔ j_k (jmt 80) post cut n 184 ls (.int (Int8.ofInt 12).toInt32 :: r) w cb sb) ∧
  (∀ (r : List Value) (a b : Int32), j_go (jmt 80) post cut (n + 1) 184 ls (.int b :: .int a :: r) w cb sb ↔ (a ≤ b → j_k (jmt 80) post cut n 192 ls r w cb sb) ∧ (¬ (a ≤ b) → j_k (jmt 80) post cut n 187 ls r w cb sb)) ∧
  (∀ (r : List Value), j_go (jmt 80) post cut (n + 1) 187 ls r w cb sb ↔ j_k (jmt 80) post cut n 189 ls (.int (Int8.ofInt 12).toInt32 :: r) w cb sb) ∧
  (∀ (r : List Value), j_go (jmt 80) post cut (n + 1) 189 ls r w cb sb ↔ j_k (jmt 80) post cut n 193 ls r w cb sb) ∧
  (∀ (r : List Value), j_go (jmt 80) post cut (n + 1) 192 ls r w cb sb ↔ g_ld ls[1]? (fun v => t_i v ∧ j_k (jmt 80) post cut n 193 ls (v :: r) w cb sb)) ∧
  (∀ (r : List Value) (v : Value) (a : Nat), j_go (jmt 80) post cut (n + 1) 193 ls (v :: .ref a :: r) w cb sb ↔ g_ob 8 (w a) (fun fs => 0 < fs.length ∧ j_okv 0 v ∧ j_k (jmt 80) post cut n 196 ls r ((j_up w a (.inr (8, fs.set 0 v)))) cb sb)) ∧
  (j_go (jmt 80) post cut (n + 1) 196 ls [] w cb sb ↔ post none w) := ⟨fun _ => (j_go_s rfl).trans e_aload_n,
  fun _ _ => (j_go_s rfl).trans e_objinit,
  fun _ => (j_go_s rfl).trans e_aload_n,
  fun _ => (j_go_s rfl).trans e_bipush,
  fun _ _ => (j_go_s rfl).trans e_newi,
  fun _ _ _ => (j_go_s rfl).trans e_putf,
  fun _ => (j_go_s rfl).trans e_aload_n,
  fun _ => (j_go_s rfl).trans e_bipush,
  fun _ _ => (j_go_s rfl).trans e_newi,
  fun _ _ _ => (j_go_s rfl).trans e_putf,
  fun _ => (j_go_s rfl).trans e_aload_n,
  fun _ => (j_go_s rfl).trans e_bipush,
  fun _ _ => (j_go_s rfl).trans e_newi,
  fun _ _ _ => (j_go_s rfl).trans e_putf,
  fun _ => (j_go_s rfl).trans e_aload_n,
  fun _ => (j_go_s rfl).trans e_bipush,
  fun _ _ => (j_go_s rfl).trans e_newz,
  fun _ _ _ => (j_go_s rfl).trans e_putf,
  fun _ => (j_go_s rfl).trans e_aload_n,
  fun _ => (j_go_s rfl).trans e_bipush,
  fun _ _ => (j_go_s rfl).trans e_newi,
  fun _ _ _ => (j_go_s rfl).trans e_putf,
  fun _ => (j_go_s rfl).trans e_aload_n,
  fun _ => (j_go_s rfl).trans e_bipush,
  fun _ _ => (j_go_s rfl).trans e_newi,
  fun _ _ _ => (j_go_s rfl).trans e_putf,
  fun _ => (j_go_s rfl).trans e_aload_n,
  fun _ => (j_go_s rfl).trans e_sipush,
  fun _ _ => (j_go_s rfl).trans e_newi,
  fun _ _ _ => (j_go_s rfl).trans e_putf,
  fun _ => (j_go_s rfl).trans e_aload_n,
  fun _ => (j_go_s rfl).trans e_sipush,
  fun _ _ => (j_go_s rfl).trans e_newi,
  fun _ _ _ => (j_go_s rfl).trans e_putf,
  fun _ => (j_go_s rfl).trans e_aload_n,
  fun _ => (j_go_s rfl).trans e_sipush,
  fun _ _ => (j_go_s rfl).trans e_newi,
  fun _ _ _ => (j_go_s rfl).trans e_putf,
  fun _ => (j_go_s rfl).trans e_aload_n,
  fun _ => (j_go_s rfl).trans e_sipush,
  fun _ _ => (j_go_s rfl).trans e_newi,
  fun _ _ _ => (j_go_s rfl).trans e_putf,
  fun _ => (j_go_s rfl).trans e_aload_n,
  fun _ => (j_go_s rfl).trans e_sipush,
  fun _ _ => (j_go_s rfl).trans e_newi,
  fun _ _ _ => (j_go_s rfl).trans e_putf,
  fun _ => (j_go_s rfl).trans e_aload_n,
  fun _ => (j_go_s rfl).trans e_bipush,
  fun _ _ => (j_go_s rfl).trans e_newi,
  fun _ _ _ => (j_go_s rfl).trans e_putf,
  fun _ => (j_go_s rfl).trans e_aload_n,
  fun _ => (j_go_s rfl).trans e_bipush,
  fun _ _ => (j_go_s rfl).trans e_newi,
  fun _ _ _ => (j_go_s rfl).trans e_putf,
  fun _ => (j_go_s rfl).trans e_aload_n,
  fun _ => (j_go_s rfl).trans e_bipush,
  fun _ _ => (j_go_s rfl).trans e_newi,
  fun _ _ _ => (j_go_s rfl).trans e_putf,
  fun _ => (j_go_s rfl).trans e_aload_n,
  fun _ => (j_go_s rfl).trans e_sipush,
  fun _ _ => (j_go_s rfl).trans e_newi,
  fun _ _ _ => (j_go_s rfl).trans e_putf,
  fun _ => (j_go_s rfl).trans e_aload_n,
  fun _ => (j_go_s rfl).trans e_bipush,
  fun _ _ => (j_go_s rfl).trans e_newi,
  fun _ _ _ => (j_go_s rfl).trans e_putf,
  fun _ => (j_go_s rfl).trans e_aload_n,
  fun _ => (j_go_s rfl).trans e_bipush,
  fun _ _ => (j_go_s rfl).trans e_newi,
  fun _ _ _ => (j_go_s rfl).trans e_putf,
  fun _ => (j_go_s rfl).trans e_aload_n,
  fun _ => (j_go_s rfl).trans e_bipush,
  fun _ _ => (j_go_s rfl).trans e_newz,
  fun _ _ _ => (j_go_s rfl).trans e_putf,
  fun _ => (j_go_s rfl).trans e_aload_n,
  fun _ => (j_go_s rfl).trans e_sipush,
  fun _ _ => (j_go_s rfl).trans e_newi,
  fun _ _ _ => (j_go_s rfl).trans e_putf,
  fun _ => (j_go_s rfl).trans e_aload_n,
  fun _ => (j_go_s rfl).trans e_bipush,
  fun _ _ => (j_go_s rfl).trans e_newi,
  fun _ _ _ => (j_go_s rfl).trans e_putf,
  fun _ => (j_go_s rfl).trans e_aload_n,
  fun _ => (j_go_s rfl).trans e_iload_n,
  fun _ => (j_go_s rfl).trans e_iconst,
  fun _ _ _ => (j_go_s rfl).trans e_icmp,
  fun _ => (j_go_s rfl).trans e_iconst,
  fun _ => (j_go_s rfl).trans e_goto,
  fun _ => (j_go_s rfl).trans e_iload_n,
  fun _ => (j_go_s rfl).trans e_bipush,
  fun _ _ _ => (j_go_s rfl).trans e_icmp,
  fun _ => (j_go_s rfl).trans e_bipush,
  fun _ => (j_go_s rfl).trans e_goto,
  fun _ => (j_go_s rfl).trans e_iload_n,
  fun _ _ _ => (j_go_s rfl).trans e_putf,
  (j_go_s rfl).trans e_vret⟩
set_option maxRecDepth 100000 in
set_option maxHeartbeats 4000000 in
theorem st_Ref_lay {post : Option Value → jW → Prop} {cut : List Nat} {n : Nat} {ls : jL} {w : jW} {cb sb : Nat} : (∀ (r : List Value), j_go (jmt 81) post cut (n + 1) 0 ls r w cb sb ↔ g_ld ls[1]? (fun v => t_i v ∧ j_k (jmt 81) post cut n 1 ls (v :: r) w cb sb)) ∧
  (∀ (r : List Value), j_go (jmt 81) post cut (n + 1) 1 ls r w cb sb ↔ j_k (jmt 81) post cut n 2 ls (.int (Int32.ofInt 0) :: r) w cb sb) ∧
  (∀ (r : List Value), j_go (jmt 81) post cut (n + 1) 2 ls r w cb sb ↔ j_k (jmt 81) post cut n 4 ls (.int (Int8.ofInt 7).toInt32 :: r) w cb sb) ∧
  (∀ (r : List Value) (a0 a1 a2 : Value), j_go (jmt 81) post cut (n + 1) 4 ls (a2 :: a1 :: a0 :: r) w cb sb ↔ j_w8 r ∧ g_call (jmt 82) [a0, a1, a2] w cb sb (fun v w' c s => j_k (jmt 81) post cut n 7 ls (v.toList ++ r) w' c s)) ∧
  (∀ (r : List Value) (a : Int32), j_go (jmt 81) post cut (n + 1) 7 ls (.int a :: r) w cb sb ↔ (a = 0 → j_k (jmt 81) post cut n 48 ls r w cb sb) ∧ (¬ (a = 0) → j_k (jmt 81) post cut n 10 ls r w cb sb)) ∧
  (∀ (r : List Value), j_go (jmt 81) post cut (n + 1) 10 ls r w cb sb ↔ g_ld ls[2]? (fun v => t_i v ∧ j_k (jmt 81) post cut n 11 ls (v :: r) w cb sb)) ∧
  (∀ (r : List Value), j_go (jmt 81) post cut (n + 1) 11 ls r w cb sb ↔ j_k (jmt 81) post cut n 12 ls (.int (Int32.ofInt 0) :: r) w cb sb) ∧
  (∀ (r : List Value), j_go (jmt 81) post cut (n + 1) 12 ls r w cb sb ↔ j_k (jmt 81) post cut n 14 ls (.int (Int8.ofInt 7).toInt32 :: r) w cb sb) ∧
  (∀ (r : List Value) (a0 a1 a2 : Value), j_go (jmt 81) post cut (n + 1) 14 ls (a2 :: a1 :: a0 :: r) w cb sb ↔ j_w8 r ∧ g_call (jmt 82) [a0, a1, a2] w cb sb (fun v w' c s => j_k (jmt 81) post cut n 17 ls (v.toList ++ r) w' c s)) ∧
  (∀ (r : List Value) (a : Int32), j_go (jmt 81) post cut (n + 1) 17 ls (.int a :: r) w cb sb ↔ (a = 0 → j_k (jmt 81) post cut n 48 ls r w cb sb) ∧ (¬ (a = 0) → j_k (jmt 81) post cut n 20 ls r w cb sb)) ∧
  (∀ (r : List Value), j_go (jmt 81) post cut (n + 1) 20 ls r w cb sb ↔ g_ld ls[1]? (fun v => t_i v ∧ j_k (jmt 81) post cut n 21 ls (v :: r) w cb sb)) ∧
  (∀ (r : List Value), j_go (jmt 81) post cut (n + 1) 21 ls r w cb sb ↔ g_ld ls[2]? (fun v => t_i v ∧ j_k (jmt 81) post cut n 22 ls (v :: r) w cb sb)) ∧
  (∀ (r : List Value) (a b : Int32), j_go (jmt 81) post cut (n + 1) 22 ls (.int b :: .int a :: r) w cb sb ↔ (a = b → j_k (jmt 81) post cut n 48 ls r w cb sb) ∧ (¬ (a = b) → j_k (jmt 81) post cut n 25 ls r w cb sb)) ∧
  (∀ (r : List Value), j_go (jmt 81) post cut (n + 1) 25 ls r w cb sb ↔ g_ld ls[3]? (fun v => t_i v ∧ j_k (jmt 81) post cut n 26 ls (v :: r) w cb sb)) ∧
  (∀ (r : List Value), j_go (jmt 81) post cut (n + 1) 26 ls r w cb sb ↔ j_k (jmt 81) post cut n 27 ls (.int (Int32.ofInt 1) :: r) w cb sb) ∧
  (∀ (r : List Value), j_go (jmt 81) post cut (n + 1) 27 ls r w cb sb ↔ j_k (jmt 81) post cut n 29 ls (.int (Int8.ofInt 50).toInt32 :: r) w cb sb) ∧
  (∀ (r : List Value) (a0 a1 a2 : Value), j_go (jmt 81) post cut (n + 1) 29 ls (a2 :: a1 :: a0 :: r) w cb sb ↔ j_w8 r ∧ g_call (jmt 82) [a0, a1, a2] w cb sb (fun v w' c s => j_k (jmt 81) post cut n 32 ls (v.toList ++ r) w' c s)) ∧
  (∀ (r : List Value) (a : Int32), j_go (jmt 81) post cut (n + 1) 32 ls (.int a :: r) w cb sb ↔ (a = 0 → j_k (jmt 81) post cut n 48 ls r w cb sb) ∧ (¬ (a = 0) → j_k (jmt 81) post cut n 35 ls r w cb sb)) ∧
  (∀ (r : List Value), j_go (jmt 81) post cut (n + 1) 35 ls r w cb sb ↔ g_ld ls[4]? (fun v => t_i v ∧ j_k (jmt 81) post cut n 37 ls (v :: r) w cb sb)) ∧
  (∀ (r : List Value), j_go (jmt 81) post cut (n + 1) 37 ls r w cb sb ↔ j_k (jmt 81) post cut n 39 ls (.int (Int8.ofInt 8).toInt32 :: r) w cb sb) ∧
  (∀ (r : List Value), j_go (jmt 81) post cut (n + 1) 39 ls r w cb sb ↔ j_k (jmt 81) post cut n 42 ls (.int (Int16.ofInt 255).toInt32 :: r) w cb sb) ∧
  (∀ (r : List Value) (a0 a1 a2 : Value), j_go (jmt 81) post cut (n + 1) 42 ls (a2 :: a1 :: a0 :: r) w cb sb ↔ j_w8 r ∧ g_call (jmt 82) [a0, a1, a2] w cb sb (fun v w' c s => j_k (jmt 81) post cut n 45 ls (v.toList ++ r) w' c s)) ∧
  (∀ (r : List Value) (a : Int32), j_go (jmt 81) post cut (n + 1) 45 ls (.int a :: r) w cb sb ↔ (¬ a = 0 → j_k (jmt 81) post cut n 50 ls r w cb sb) ∧ (¬ (¬ a = 0) → j_k (jmt 81) post cut n 48 ls r w cb sb)) ∧
  (∀ (r : List Value), j_go (jmt 81) post cut (n + 1) 48 ls r w cb sb ↔ j_k (jmt 81) post cut n 49 ls (.int (Int32.ofInt (-1)) :: r) w cb sb) ∧
  (∀ (a : Int32), j_go (jmt 81) post cut (n + 1) 49 ls [.int a] w cb sb ↔ narrow .int (.int a) = .int a ∧ post (some (.int a)) w) ∧
  (∀ (r : List Value), j_go (jmt 81) post cut (n + 1) 50 ls r w cb sb ↔ g_ld ls[0]? (fun v => t_a v ∧ j_k (jmt 81) post cut n 51 ls (v :: r) w cb sb)) ∧
  (∀ (r : List Value) (a : Nat), j_go (jmt 81) post cut (n + 1) 51 ls (.ref a :: r) w cb sb ↔ g_ob 8 (w a) (fun fs => g_v fs[1]? (fun v => j_k (jmt 81) post cut n 54 ls (v :: r) w cb sb))) ∧
  (∀ (r : List Value), j_go (jmt 81) post cut (n + 1) 54 ls r w cb sb ↔ j_k (jmt 81) post cut n 56 ls (.int (Int8.ofInt 12).toInt32 :: r) w cb sb) ∧
  (∀ (r : List Value) (a b : Int32), j_go (jmt 81) post cut (n + 1) 56 ls (.int b :: .int a :: r) w cb sb ↔ (¬ a = b → j_k (jmt 81) post cut n 62 ls r w cb sb) ∧ (¬ (¬ a = b) → j_k (jmt 81) post cut n 59 ls r w cb sb)) ∧
  (∀ (r : List Value), j_go (jmt 81) post cut (n + 1) 59 ls r w cb sb ↔ j_k (jmt 81) post cut n 61 ls (.int (Int8.ofInt (-2)).toInt32 :: r) w cb sb) ∧
  (∀ (a : Int32), j_go (jmt 81) post cut (n + 1) 61 ls [.int a] w cb sb ↔ narrow .int (.int a) = .int a ∧ post (some (.int a)) w) ∧
  (∀ (r : List Value), j_go (jmt 81) post cut (n + 1) 62 ls r w cb sb ↔ g_ld ls[0]? (fun v => t_a v ∧ j_k (jmt 81) post cut n 63 ls (v :: r) w cb sb)) ∧
  (∀ (r : List Value) (a : Nat), j_go (jmt 81) post cut (n + 1) 63 ls (.ref a :: r) w cb sb ↔ g_ob 8 (w a) (fun fs => g_v fs[2]? (fun v => j_k (jmt 81) post cut n 66 ls (v :: r) w cb sb))) ∧
  (∀ (r : List Value), j_go (jmt 81) post cut (n + 1) 66 ls r w cb sb ↔ j_k (jmt 81) post cut n 67 ls (.int (Int32.ofInt 2) :: r) w cb sb) ∧
  (∀ (r : List Value), j_go (jmt 81) post cut (n + 1) 67 ls r w cb sb ↔ g_ld ls[0]? (fun v => t_a v ∧ j_k (jmt 81) post cut n 68 ls (v :: r) w cb sb)) ∧
  (∀ (r : List Value) (a : Nat), j_go (jmt 81) post cut (n + 1) 68 ls (.ref a :: r) w cb sb ↔ g_ob 8 (w a) (fun fs => g_v fs[1]? (fun v => j_k (jmt 81) post cut n 71 ls (v :: r) w cb sb))) ∧
  (∀ (r : List Value) (x y : Int32), j_go (jmt 81) post cut (n + 1) 71 ls (.int y :: .int x :: r) w cb sb ↔ j_k (jmt 81) post cut n 72 ls (.int (x * y) :: r) w cb sb) ∧
  (∀ (r : List Value), j_go (jmt 81) post cut (n + 1) 72 ls r w cb sb ↔ g_ld ls[1]? (fun v => t_i v ∧ j_k (jmt 81) post cut n 73 ls (v :: r) w cb sb)) ∧
  (∀ (r : List Value) (a : Nat) (j v : Int32), j_go (jmt 81) post cut (n + 1) 73 ls (.int v :: .int j :: .ref a :: r) w cb sb ↔ g_ia 0 (w a) (fun m f => vp_in j m ∧ j_k (jmt 81) post cut n 74 ls r ((j_up w a (.inl (0, m, .inl (upd f j.toNatClampNeg v))))) cb sb)) ∧
  (∀ (r : List Value), j_go (jmt 81) post cut (n + 1) 74 ls r w cb sb ↔ g_ld ls[0]? (fun v => t_a v ∧ j_k (jmt 81) post cut n 75 ls (v :: r) w cb sb)) ∧
  (∀ (r : List Value) (a : Nat), j_go (jmt 81) post cut (n + 1) 75 ls (.ref a :: r) w cb sb ↔ g_ob 8 (w a) (fun fs => g_v fs[2]? (fun v => j_k (jmt 81) post cut n 78 ls (v :: r) w cb sb))) ∧
  (∀ (r : List Value), j_go (jmt 81) post cut (n + 1) 78 ls r w cb sb ↔ j_k (jmt 81) post cut n 79 ls (.int (Int32.ofInt 2) :: r) w cb sb) ∧
  (∀ (r : List Value), j_go (jmt 81) post cut (n + 1) 79 ls r w cb sb ↔ g_ld ls[0]? (fun v => t_a v ∧ j_k (jmt 81) post cut n 80 ls (v :: r) w cb sb)) ∧
  (∀ (r : List Value) (a : Nat), j_go (jmt 81) post cut (n + 1) 80 ls (.ref a :: r) w cb sb ↔ g_ob 8 (w a) (fun fs => g_v fs[1]? (fun v => j_k (jmt 81) post cut n 83 ls (v :: r) w cb sb))) ∧
  (∀ (r : List Value) (x y : Int32), j_go (jmt 81) post cut (n + 1) 83 ls (.int y :: .int x :: r) w cb sb ↔ j_k (jmt 81) post cut n 84 ls (.int (x * y) :: r) w cb sb) ∧
  (∀ (r : List Value), j_go (jmt 81) post cut (n + 1) 84 ls r w cb sb ↔ j_k (jmt 81) post cut n 85 ls (.int (Int32.ofInt 1) :: r) w cb sb) ∧
  (∀ (r : List Value) (x y : Int32), j_go (jmt 81) post cut (n + 1) 85 ls (.int y :: .int x :: r) w cb sb ↔ j_k (jmt 81) post cut n 86 ls (.int (x + y) :: r) w cb sb) ∧
  (∀ (r : List Value), j_go (jmt 81) post cut (n + 1) 86 ls r w cb sb ↔ g_ld ls[2]? (fun v => t_i v ∧ j_k (jmt 81) post cut n 87 ls (v :: r) w cb sb)) ∧
  (∀ (r : List Value) (a : Nat) (j v : Int32), j_go (jmt 81) post cut (n + 1) 87 ls (.int v :: .int j :: .ref a :: r) w cb sb ↔ g_ia 0 (w a) (fun m f => vp_in j m ∧ j_k (jmt 81) post cut n 88 ls r ((j_up w a (.inl (0, m, .inl (upd f j.toNatClampNeg v))))) cb sb)) ∧
  (∀ (r : List Value), j_go (jmt 81) post cut (n + 1) 88 ls r w cb sb ↔ g_ld ls[0]? (fun v => t_a v ∧ j_k (jmt 81) post cut n 89 ls (v :: r) w cb sb)) ∧
  (∀ (r : List Value) (a : Nat), j_go (jmt 81) post cut (n + 1) 89 ls (.ref a :: r) w cb sb ↔ g_ob 8 (w a) (fun fs => g_v fs[3]? (fun v => j_k (jmt 81) post cut n 92 ls (v :: r) w cb sb))) ∧
  (∀ (r : List Value), j_go (jmt 81) post cut (n + 1) 92 ls r w cb sb ↔ g_ld ls[0]? (fun v => t_a v ∧ j_k (jmt 81) post cut n 93 ls (v :: r) w cb sb)) ∧
  (∀ (r : List Value) (a : Nat), j_go (jmt 81) post cut (n + 1) 93 ls (.ref a :: r) w cb sb ↔ g_ob 8 (w a) (fun fs => g_v fs[1]? (fun v => j_k (jmt 81) post cut n 96 ls (v :: r) w cb sb))) ∧
  (∀ (r : List Value), j_go (jmt 81) post cut (n + 1) 96 ls r w cb sb ↔ g_ld ls[3]? (fun v => t_i v ∧ j_k (jmt 81) post cut n 97 ls (v :: r) w cb sb)) ∧
  (∀ (r : List Value) (a : Nat) (j v : Int32), j_go (jmt 81) post cut (n + 1) 97 ls (.int v :: .int j :: .ref a :: r) w cb sb ↔ g_ia 0 (w a) (fun m f => vp_in j m ∧ j_k (jmt 81) post cut n 98 ls r ((j_up w a (.inl (0, m, .inl (upd f j.toNatClampNeg v))))) cb sb)) ∧
  (∀ (r : List Value), j_go (jmt 81) post cut (n + 1) 98 ls r w cb sb ↔ g_ld ls[0]? (fun v => t_a v ∧ j_k (jmt 81) post cut n 99 ls (v :: r) w cb sb)) ∧
  (∀ (r : List Value) (a : Nat), j_go (jmt 81) post cut (n + 1) 99 ls (.ref a :: r) w cb sb ↔ g_ob 8 (w a) (fun fs => g_v fs[4]? (fun v => j_k (jmt 81) post cut n 102 ls (v :: r) w cb sb))) ∧
  (∀ (r : List Value), j_go (jmt 81) post cut (n + 1) 102 ls r w cb sb ↔ g_ld ls[0]? (fun v => t_a v ∧ j_k (jmt 81) post cut n 103 ls (v :: r) w cb sb)) ∧
  (∀ (r : List Value) (a : Nat), j_go (jmt 81) post cut (n + 1) 103 ls (.ref a :: r) w cb sb ↔ g_ob 8 (w a) (fun fs => g_v fs[1]? (fun v => j_k (jmt 81) post cut n 106 ls (v :: r) w cb sb))) ∧
  (∀ (r : List Value), j_go (jmt 81) post cut (n + 1) 106 ls r w cb sb ↔ g_ld ls[4]? (fun v => t_i v ∧ j_k (jmt 81) post cut n 108 ls (v :: r) w cb sb)) ∧
  (∀ (r : List Value) (a : Nat) (j v : Int32), j_go (jmt 81) post cut (n + 1) 108 ls (.int v :: .int j :: .ref a :: r) w cb sb ↔ g_ia 0 (w a) (fun m f => vp_in j m ∧ j_k (jmt 81) post cut n 109 ls r ((j_up w a (.inl (0, m, .inl (upd f j.toNatClampNeg v))))) cb sb)) ∧
  (∀ (r : List Value), j_go (jmt 81) post cut (n + 1) 109 ls r w cb sb ↔ g_ld ls[0]? (fun v => t_a v ∧ j_k (jmt 81) post cut n 110 ls (v :: r) w cb sb)) ∧
  (∀ (r : List Value) (v : Value), j_go (jmt 81) post cut (n + 1) 110 ls (v :: r) w cb sb ↔ v.category = 1 ∧ j_k (jmt 81) post cut n 111 ls (v :: v :: r) w cb sb) ∧
  (∀ (r : List Value) (a : Nat), j_go (jmt 81) post cut (n + 1) 111 ls (.ref a :: r) w cb sb ↔ g_ob 8 (w a) (fun fs => g_v fs[1]? (fun v => j_k (jmt 81) post cut n 114 ls (v :: r) w cb sb))) ∧
  (∀ (r : List Value), j_go (jmt 81) post cut (n + 1) 114 ls r w cb sb ↔ j_k (jmt 81) post cut n 115 ls (.int (Int32.ofInt 1) :: r) w cb sb) ∧
  (∀ (r : List Value) (x y : Int32), j_go (jmt 81) post cut (n + 1) 115 ls (.int y :: .int x :: r) w cb sb ↔ j_k (jmt 81) post cut n 116 ls (.int (x + y) :: r) w cb sb) ∧
  (∀ (r : List Value) (v : Value) (a : Nat), j_go (jmt 81) post cut (n + 1) 116 ls (v :: .ref a :: r) w cb sb ↔ g_ob 8 (w a) (fun fs => 1 < fs.length ∧ j_okv 0 v ∧ j_k (jmt 81) post cut n 119 ls r ((j_up w a (.inr (8, fs.set 1 v)))) cb sb)) ∧
  (∀ (r : List Value), j_go (jmt 81) post cut (n + 1) 119 ls r w cb sb ↔ g_ld ls[0]? (fun v => t_a v ∧ j_k (jmt 81) post cut n 120 ls (v :: r) w cb sb)) ∧
  (∀ (r : List Value), j_go (jmt 81) post cut (n + 1) 120 ls r w cb sb ↔ g_ld ls[0]? (fun v => t_a v ∧ j_k (jmt 81) post cut n 121 ls (v :: r) w cb sb)) ∧
  (∀ (r : List Value) (a : Nat), j_go (jmt 81) post cut (n + 1) 121 ls (.ref a :: r) w cb sb ↔ g_ob 8 (w a) (fun fs => g_v fs[1]? (fun v => j_k (jmt 81) post cut n 124 ls (v :: r) w cb sb))) ∧
  (∀ (r : List Value), j_go (jmt 81) post cut (n + 1) 124 ls r w cb sb ↔ j_k (jmt 81) post cut n 125 ls (.int (Int32.ofInt 1) :: r) w cb sb) ∧
  (∀ (r : List Value) (x y : Int32), j_go (jmt 81) post cut (n + 1) 125 ls (.int y :: .int x :: r) w cb sb ↔ j_k (jmt 81) post cut n 126 ls (.int (x - y) :: r) w cb sb) ∧
  (∀ (r : List Value) (a0 : Value) (b : Nat), j_go (jmt 81) post cut (n + 1) 126 ls (a0 :: .ref b :: r) w cb sb ↔ g_ob 8 (w b) (fun _ => True) ∧ j_w8 r ∧ g_call (jmt 83) [.ref b, a0] w cb sb (fun v w' c s => j_k (jmt 81) post cut n 129 ls (v.toList ++ r) w' c s)) ∧
  (∀ (r : List Value), j_go (jmt 81) post cut (n + 1) 129 ls r w cb sb ↔ g_ld ls[0]? (fun v => t_a v ∧ j_k (jmt 81) post cut n 130 ls (v :: r) w cb sb)) ∧
  (∀ (r : List Value) (a : Nat), j_go (jmt 81) post cut (n + 1) 130 ls (.ref a :: r) w cb sb ↔ g_ob 8 (w a) (fun fs => g_v fs[1]? (fun v => j_k (jmt 81) post cut n 133 ls (v :: r) w cb sb))) ∧
  (∀ (r : List Value), j_go (jmt 81) post cut (n + 1) 133 ls r w cb sb ↔ j_k (jmt 81) post cut n 134 ls (.int (Int32.ofInt 1) :: r) w cb sb) ∧
  (∀ (r : List Value) (x y : Int32), j_go (jmt 81) post cut (n + 1) 134 ls (.int y :: .int x :: r) w cb sb ↔ j_k (jmt 81) post cut n 135 ls (.int (x - y) :: r) w cb sb) ∧
  (∀ (a : Int32), j_go (jmt 81) post cut (n + 1) 135 ls [.int a] w cb sb ↔ narrow .int (.int a) = .int a ∧ post (some (.int a)) w) := ⟨fun _ => (j_go_s rfl).trans e_iload_n,
  fun _ => (j_go_s rfl).trans e_iconst,
  fun _ => (j_go_s rfl).trans e_bipush,
  fun _ _ _ _ => (j_go_s rfl).trans e_calls,
  fun _ _ => (j_go_s rfl).trans e_if,
  fun _ => (j_go_s rfl).trans e_iload_n,
  fun _ => (j_go_s rfl).trans e_iconst,
  fun _ => (j_go_s rfl).trans e_bipush,
  fun _ _ _ _ => (j_go_s rfl).trans e_calls,
  fun _ _ => (j_go_s rfl).trans e_if,
  fun _ => (j_go_s rfl).trans e_iload_n,
  fun _ => (j_go_s rfl).trans e_iload_n,
  fun _ _ _ => (j_go_s rfl).trans e_icmp,
  fun _ => (j_go_s rfl).trans e_iload_n,
  fun _ => (j_go_s rfl).trans e_iconst,
  fun _ => (j_go_s rfl).trans e_bipush,
  fun _ _ _ _ => (j_go_s rfl).trans e_calls,
  fun _ _ => (j_go_s rfl).trans e_if,
  fun _ => (j_go_s rfl).trans e_iload,
  fun _ => (j_go_s rfl).trans e_bipush,
  fun _ => (j_go_s rfl).trans e_sipush,
  fun _ _ _ _ => (j_go_s rfl).trans e_calls,
  fun _ _ => (j_go_s rfl).trans e_if,
  fun _ => (j_go_s rfl).trans e_iconst,
  fun _ => (j_go_s rfl).trans e_iret,
  fun _ => (j_go_s rfl).trans e_aload_n,
  fun _ _ => (j_go_s rfl).trans e_getf,
  fun _ => (j_go_s rfl).trans e_bipush,
  fun _ _ _ => (j_go_s rfl).trans e_icmp,
  fun _ => (j_go_s rfl).trans e_bipush,
  fun _ => (j_go_s rfl).trans e_iret,
  fun _ => (j_go_s rfl).trans e_aload_n,
  fun _ _ => (j_go_s rfl).trans e_getf,
  fun _ => (j_go_s rfl).trans e_iconst,
  fun _ => (j_go_s rfl).trans e_aload_n,
  fun _ _ => (j_go_s rfl).trans e_getf,
  fun _ _ _ => (j_go_s rfl).trans e_imul,
  fun _ => (j_go_s rfl).trans e_iload_n,
  fun _ _ _ _ => (j_go_s rfl).trans e_iast,
  fun _ => (j_go_s rfl).trans e_aload_n,
  fun _ _ => (j_go_s rfl).trans e_getf,
  fun _ => (j_go_s rfl).trans e_iconst,
  fun _ => (j_go_s rfl).trans e_aload_n,
  fun _ _ => (j_go_s rfl).trans e_getf,
  fun _ _ _ => (j_go_s rfl).trans e_imul,
  fun _ => (j_go_s rfl).trans e_iconst,
  fun _ _ _ => (j_go_s rfl).trans e_iadd,
  fun _ => (j_go_s rfl).trans e_iload_n,
  fun _ _ _ _ => (j_go_s rfl).trans e_iast,
  fun _ => (j_go_s rfl).trans e_aload_n,
  fun _ _ => (j_go_s rfl).trans e_getf,
  fun _ => (j_go_s rfl).trans e_aload_n,
  fun _ _ => (j_go_s rfl).trans e_getf,
  fun _ => (j_go_s rfl).trans e_iload_n,
  fun _ _ _ _ => (j_go_s rfl).trans e_iast,
  fun _ => (j_go_s rfl).trans e_aload_n,
  fun _ _ => (j_go_s rfl).trans e_getf,
  fun _ => (j_go_s rfl).trans e_aload_n,
  fun _ _ => (j_go_s rfl).trans e_getf,
  fun _ => (j_go_s rfl).trans e_iload,
  fun _ _ _ _ => (j_go_s rfl).trans e_iast,
  fun _ => (j_go_s rfl).trans e_aload_n,
  fun _ _ => (j_go_s rfl).trans e_dup,
  fun _ _ => (j_go_s rfl).trans e_getf,
  fun _ => (j_go_s rfl).trans e_iconst,
  fun _ _ _ => (j_go_s rfl).trans e_iadd,
  fun _ _ _ => (j_go_s rfl).trans e_putf,
  fun _ => (j_go_s rfl).trans e_aload_n,
  fun _ => (j_go_s rfl).trans e_aload_n,
  fun _ _ => (j_go_s rfl).trans e_getf,
  fun _ => (j_go_s rfl).trans e_iconst,
  fun _ _ _ => (j_go_s rfl).trans e_isub,
  fun _ _ _ => (j_go_s rfl).trans e_callv,
  fun _ => (j_go_s rfl).trans e_aload_n,
  fun _ _ => (j_go_s rfl).trans e_getf,
  fun _ => (j_go_s rfl).trans e_iconst,
  fun _ _ _ => (j_go_s rfl).trans e_isub,
  fun _ => (j_go_s rfl).trans e_iret⟩
set_option maxRecDepth 100000 in
set_option maxHeartbeats 4000000 in
theorem st_Ref_in {post : Option Value → jW → Prop} {cut : List Nat} {n : Nat} {ls : jL} {w : jW} {cb sb : Nat} : (∀ (r : List Value), j_go (jmt 82) post cut (n + 1) 0 ls r w cb sb ↔ g_ld ls[0]? (fun v => t_i v ∧ j_k (jmt 82) post cut n 1 ls (v :: r) w cb sb)) ∧
  (∀ (r : List Value), j_go (jmt 82) post cut (n + 1) 1 ls r w cb sb ↔ g_ld ls[1]? (fun v => t_i v ∧ j_k (jmt 82) post cut n 2 ls (v :: r) w cb sb)) ∧
  (∀ (r : List Value) (a b : Int32), j_go (jmt 82) post cut (n + 1) 2 ls (.int b :: .int a :: r) w cb sb ↔ (a < b → j_k (jmt 82) post cut n 14 ls r w cb sb) ∧ (¬ (a < b) → j_k (jmt 82) post cut n 5 ls r w cb sb)) ∧
  (∀ (r : List Value), j_go (jmt 82) post cut (n + 1) 5 ls r w cb sb ↔ g_ld ls[0]? (fun v => t_i v ∧ j_k (jmt 82) post cut n 6 ls (v :: r) w cb sb)) ∧
  (∀ (r : List Value), j_go (jmt 82) post cut (n + 1) 6 ls r w cb sb ↔ g_ld ls[2]? (fun v => t_i v ∧ j_k (jmt 82) post cut n 7 ls (v :: r) w cb sb)) ∧
  (∀ (r : List Value) (a b : Int32), j_go (jmt 82) post cut (n + 1) 7 ls (.int b :: .int a :: r) w cb sb ↔ (b < a → j_k (jmt 82) post cut n 14 ls r w cb sb) ∧ (¬ (b < a) → j_k (jmt 82) post cut n 10 ls r w cb sb)) ∧
  (∀ (r : List Value), j_go (jmt 82) post cut (n + 1) 10 ls r w cb sb ↔ j_k (jmt 82) post cut n 11 ls (.int (Int32.ofInt 1) :: r) w cb sb) ∧
  (∀ (r : List Value), j_go (jmt 82) post cut (n + 1) 11 ls r w cb sb ↔ j_k (jmt 82) post cut n 15 ls r w cb sb) ∧
  (∀ (r : List Value), j_go (jmt 82) post cut (n + 1) 14 ls r w cb sb ↔ j_k (jmt 82) post cut n 15 ls (.int (Int32.ofInt 0) :: r) w cb sb) ∧
  (∀ (a : Int32), j_go (jmt 82) post cut (n + 1) 15 ls [.int a] w cb sb ↔ narrow .boolean (.int a) = .int a ∧ post (some (.int a)) w) := ⟨fun _ => (j_go_s rfl).trans e_iload_n,
  fun _ => (j_go_s rfl).trans e_iload_n,
  fun _ _ _ => (j_go_s rfl).trans e_icmp,
  fun _ => (j_go_s rfl).trans e_iload_n,
  fun _ => (j_go_s rfl).trans e_iload_n,
  fun _ _ _ => (j_go_s rfl).trans e_icmp,
  fun _ => (j_go_s rfl).trans e_iconst,
  fun _ => (j_go_s rfl).trans e_goto,
  fun _ => (j_go_s rfl).trans e_iconst,
  fun _ => (j_go_s rfl).trans e_iret⟩
set_option maxRecDepth 100000 in
set_option maxHeartbeats 4000000 in
theorem st_Ref_raise {post : Option Value → jW → Prop} {cut : List Nat} {n : Nat} {ls : jL} {w : jW} {cb sb : Nat} : (∀ (r : List Value), j_go (jmt 83) post cut (n + 1) 0 ls r w cb sb ↔ g_ld ls[0]? (fun v => t_a v ∧ j_k (jmt 83) post cut n 1 ls (v :: r) w cb sb)) ∧
  (∀ (r : List Value) (a : Nat), j_go (jmt 83) post cut (n + 1) 1 ls (.ref a :: r) w cb sb ↔ g_ob 8 (w a) (fun fs => g_v fs[5]? (fun v => j_k (jmt 83) post cut n 4 ls (v :: r) w cb sb))) ∧
  (∀ (r : List Value), j_go (jmt 83) post cut (n + 1) 4 ls r w cb sb ↔ g_ld ls[1]? (fun v => t_i v ∧ j_k (jmt 83) post cut n 5 ls (v :: r) w cb sb)) ∧
  (∀ (r : List Value), j_go (jmt 83) post cut (n + 1) 5 ls r w cb sb ↔ j_k (jmt 83) post cut n 6 ls (.int (Int32.ofInt 1) :: r) w cb sb) ∧
  (∀ (r : List Value) (a : Nat) (j v : Int32), j_go (jmt 83) post cut (n + 1) 6 ls (.int v :: .int j :: .ref a :: r) w cb sb ↔ g_ia 1 (w a) (fun m f => vp_in j m ∧ j_k (jmt 83) post cut n 7 ls r ((j_up w a (.inl (1, m, .inl (upd f j.toNatClampNeg (vp_nar .boolean v)))))) cb sb)) ∧
  (∀ (r : List Value), j_go (jmt 83) post cut (n + 1) 7 ls r w cb sb ↔ g_ld ls[0]? (fun v => t_a v ∧ j_k (jmt 83) post cut n 8 ls (v :: r) w cb sb)) ∧
  (∀ (r : List Value), j_go (jmt 83) post cut (n + 1) 8 ls r w cb sb ↔ g_ld ls[0]? (fun v => t_a v ∧ j_k (jmt 83) post cut n 9 ls (v :: r) w cb sb)) ∧
  (∀ (r : List Value) (a : Nat), j_go (jmt 83) post cut (n + 1) 9 ls (.ref a :: r) w cb sb ↔ g_ob 8 (w a) (fun fs => g_v fs[2]? (fun v => j_k (jmt 83) post cut n 12 ls (v :: r) w cb sb))) ∧
  (∀ (r : List Value), j_go (jmt 83) post cut (n + 1) 12 ls r w cb sb ↔ j_k (jmt 83) post cut n 13 ls (.int (Int32.ofInt 2) :: r) w cb sb) ∧
  (∀ (r : List Value), j_go (jmt 83) post cut (n + 1) 13 ls r w cb sb ↔ g_ld ls[1]? (fun v => t_i v ∧ j_k (jmt 83) post cut n 14 ls (v :: r) w cb sb)) ∧
  (∀ (r : List Value) (x y : Int32), j_go (jmt 83) post cut (n + 1) 14 ls (.int y :: .int x :: r) w cb sb ↔ j_k (jmt 83) post cut n 15 ls (.int (x * y) :: r) w cb sb) ∧
  (∀ (r : List Value) (a : Nat) (j : Int32), j_go (jmt 83) post cut (n + 1) 15 ls (.int j :: .ref a :: r) w cb sb ↔ g_ia 0 (w a) (fun m f => vp_in j m ∧ j_k (jmt 83) post cut n 16 ls (.int (f j.toNatClampNeg) :: r) w cb sb)) ∧
  (∀ (r : List Value) (a0 : Value) (b : Nat), j_go (jmt 83) post cut (n + 1) 16 ls (a0 :: .ref b :: r) w cb sb ↔ g_ob 8 (w b) (fun _ => True) ∧ j_w8 r ∧ g_call (jmt 84) [.ref b, a0] w cb sb (fun v w' c s => j_k (jmt 83) post cut n 19 ls (v.toList ++ r) w' c s)) ∧
  (∀ (r : List Value), j_go (jmt 83) post cut (n + 1) 19 ls r w cb sb ↔ g_ld ls[0]? (fun v => t_a v ∧ j_k (jmt 83) post cut n 20 ls (v :: r) w cb sb)) ∧
  (∀ (r : List Value), j_go (jmt 83) post cut (n + 1) 20 ls r w cb sb ↔ g_ld ls[0]? (fun v => t_a v ∧ j_k (jmt 83) post cut n 21 ls (v :: r) w cb sb)) ∧
  (∀ (r : List Value) (a : Nat), j_go (jmt 83) post cut (n + 1) 21 ls (.ref a :: r) w cb sb ↔ g_ob 8 (w a) (fun fs => g_v fs[2]? (fun v => j_k (jmt 83) post cut n 24 ls (v :: r) w cb sb))) ∧
  (∀ (r : List Value), j_go (jmt 83) post cut (n + 1) 24 ls r w cb sb ↔ j_k (jmt 83) post cut n 25 ls (.int (Int32.ofInt 2) :: r) w cb sb) ∧
  (∀ (r : List Value), j_go (jmt 83) post cut (n + 1) 25 ls r w cb sb ↔ g_ld ls[1]? (fun v => t_i v ∧ j_k (jmt 83) post cut n 26 ls (v :: r) w cb sb)) ∧
  (∀ (r : List Value) (x y : Int32), j_go (jmt 83) post cut (n + 1) 26 ls (.int y :: .int x :: r) w cb sb ↔ j_k (jmt 83) post cut n 27 ls (.int (x * y) :: r) w cb sb) ∧
  (∀ (r : List Value), j_go (jmt 83) post cut (n + 1) 27 ls r w cb sb ↔ j_k (jmt 83) post cut n 28 ls (.int (Int32.ofInt 1) :: r) w cb sb) ∧
  (∀ (r : List Value) (x y : Int32), j_go (jmt 83) post cut (n + 1) 28 ls (.int y :: .int x :: r) w cb sb ↔ j_k (jmt 83) post cut n 29 ls (.int (x + y) :: r) w cb sb) ∧
  (∀ (r : List Value) (a : Nat) (j : Int32), j_go (jmt 83) post cut (n + 1) 29 ls (.int j :: .ref a :: r) w cb sb ↔ g_ia 0 (w a) (fun m f => vp_in j m ∧ j_k (jmt 83) post cut n 30 ls (.int (f j.toNatClampNeg) :: r) w cb sb)) ∧
  (∀ (r : List Value) (a0 : Value) (b : Nat), j_go (jmt 83) post cut (n + 1) 30 ls (a0 :: .ref b :: r) w cb sb ↔ g_ob 8 (w b) (fun _ => True) ∧ j_w8 r ∧ g_call (jmt 84) [.ref b, a0] w cb sb (fun v w' c s => j_k (jmt 83) post cut n 33 ls (v.toList ++ r) w' c s)) ∧
  (∀ (r : List Value), j_go (jmt 83) post cut (n + 1) 33 ls r w cb sb ↔ g_ld ls[0]? (fun v => t_a v ∧ j_k (jmt 83) post cut n 34 ls (v :: r) w cb sb)) ∧
  (∀ (r : List Value), j_go (jmt 83) post cut (n + 1) 34 ls r w cb sb ↔ g_ld ls[1]? (fun v => t_i v ∧ j_k (jmt 83) post cut n 35 ls (v :: r) w cb sb)) ∧
  (∀ (r : List Value) (a0 : Value) (b : Nat), j_go (jmt 83) post cut (n + 1) 35 ls (a0 :: .ref b :: r) w cb sb ↔ g_ob 8 (w b) (fun _ => True) ∧ j_w8 r ∧ g_call (jmt 87) [.ref b, a0] w cb sb (fun v w' c s => j_k (jmt 83) post cut n 38 ls (v.toList ++ r) w' c s)) ∧
  (j_go (jmt 83) post cut (n + 1) 38 ls [] w cb sb ↔ post none w) := ⟨fun _ => (j_go_s rfl).trans e_aload_n,
  fun _ _ => (j_go_s rfl).trans e_getf,
  fun _ => (j_go_s rfl).trans e_iload_n,
  fun _ => (j_go_s rfl).trans e_iconst,
  fun _ _ _ _ => (j_go_s rfl).trans e_zast,
  fun _ => (j_go_s rfl).trans e_aload_n,
  fun _ => (j_go_s rfl).trans e_aload_n,
  fun _ _ => (j_go_s rfl).trans e_getf,
  fun _ => (j_go_s rfl).trans e_iconst,
  fun _ => (j_go_s rfl).trans e_iload_n,
  fun _ _ _ => (j_go_s rfl).trans e_imul,
  fun _ _ _ => (j_go_s rfl).trans e_iald,
  fun _ _ _ => (j_go_s rfl).trans e_callv,
  fun _ => (j_go_s rfl).trans e_aload_n,
  fun _ => (j_go_s rfl).trans e_aload_n,
  fun _ _ => (j_go_s rfl).trans e_getf,
  fun _ => (j_go_s rfl).trans e_iconst,
  fun _ => (j_go_s rfl).trans e_iload_n,
  fun _ _ _ => (j_go_s rfl).trans e_imul,
  fun _ => (j_go_s rfl).trans e_iconst,
  fun _ _ _ => (j_go_s rfl).trans e_iadd,
  fun _ _ _ => (j_go_s rfl).trans e_iald,
  fun _ _ _ => (j_go_s rfl).trans e_callv,
  fun _ => (j_go_s rfl).trans e_aload_n,
  fun _ => (j_go_s rfl).trans e_iload_n,
  fun _ _ _ => (j_go_s rfl).trans e_callv,
  (j_go_s rfl).trans e_vret⟩
set_option maxRecDepth 100000 in
set_option maxHeartbeats 4000000 in
theorem st_Ref_tell {post : Option Value → jW → Prop} {cut : List Nat} {n : Nat} {ls : jL} {w : jW} {cb sb : Nat} : (∀ (r : List Value), j_go (jmt 84) post cut (n + 1) 0 ls r w cb sb ↔ g_ld ls[0]? (fun v => t_a v ∧ j_k (jmt 84) post cut n 1 ls (v :: r) w cb sb)) ∧
  (∀ (r : List Value) (v : Value), j_go (jmt 84) post cut (n + 1) 1 ls (v :: r) w cb sb ↔ v.category = 1 ∧ j_k (jmt 84) post cut n 2 ls (v :: v :: r) w cb sb) ∧
  (∀ (r : List Value) (a : Nat), j_go (jmt 84) post cut (n + 1) 2 ls (.ref a :: r) w cb sb ↔ g_ob 8 (w a) (fun fs => g_v fs[8]? (fun v => j_k (jmt 84) post cut n 5 ls (v :: r) w cb sb))) ∧
  (∀ (r : List Value), j_go (jmt 84) post cut (n + 1) 5 ls r w cb sb ↔ j_k (jmt 84) post cut n 6 ls (.int (Int32.ofInt 1) :: r) w cb sb) ∧
  (∀ (r : List Value) (x y : Int32), j_go (jmt 84) post cut (n + 1) 6 ls (.int y :: .int x :: r) w cb sb ↔ j_k (jmt 84) post cut n 7 ls (.int (x + y) :: r) w cb sb) ∧
  (∀ (r : List Value) (v : Value) (a : Nat), j_go (jmt 84) post cut (n + 1) 7 ls (v :: .ref a :: r) w cb sb ↔ g_ob 8 (w a) (fun fs => 8 < fs.length ∧ j_okv 0 v ∧ j_k (jmt 84) post cut n 10 ls r ((j_up w a (.inr (8, fs.set 8 v)))) cb sb)) ∧
  (∀ (r : List Value), j_go (jmt 84) post cut (n + 1) 10 ls r w cb sb ↔ g_ld ls[0]? (fun v => t_a v ∧ j_k (jmt 84) post cut n 11 ls (v :: r) w cb sb)) ∧
  (∀ (r : List Value) (a : Nat), j_go (jmt 84) post cut (n + 1) 11 ls (.ref a :: r) w cb sb ↔ g_ob 8 (w a) (fun fs => g_v fs[14]? (fun v => j_k (jmt 84) post cut n 14 ls (v :: r) w cb sb))) ∧
  (∀ (r : List Value), j_go (jmt 84) post cut (n + 1) 14 ls r w cb sb ↔ g_ld ls[1]? (fun v => t_i v ∧ j_k (jmt 84) post cut n 15 ls (v :: r) w cb sb)) ∧
  (∀ (r : List Value) (v u : Value), j_go (jmt 84) post cut (n + 1) 15 ls (v :: u :: r) w cb sb ↔ (v.category = 1 ∧ u.category = 1) ∧ j_k (jmt 84) post cut n 16 ls (v :: u :: v :: u :: r) w cb sb) ∧
  (∀ (r : List Value) (a : Nat) (j : Int32), j_go (jmt 84) post cut (n + 1) 16 ls (.int j :: .ref a :: r) w cb sb ↔ g_ia 0 (w a) (fun m f => vp_in j m ∧ j_k (jmt 84) post cut n 17 ls (.int (f j.toNatClampNeg) :: r) w cb sb)) ∧
  (∀ (r : List Value), j_go (jmt 84) post cut (n + 1) 17 ls r w cb sb ↔ j_k (jmt 84) post cut n 18 ls (.int (Int32.ofInt 1) :: r) w cb sb) ∧
  (∀ (r : List Value) (x y : Int32), j_go (jmt 84) post cut (n + 1) 18 ls (.int y :: .int x :: r) w cb sb ↔ j_k (jmt 84) post cut n 19 ls (.int (x + y) :: r) w cb sb) ∧
  (∀ (r : List Value) (a : Nat) (j v : Int32), j_go (jmt 84) post cut (n + 1) 19 ls (.int v :: .int j :: .ref a :: r) w cb sb ↔ g_ia 0 (w a) (fun m f => vp_in j m ∧ j_k (jmt 84) post cut n 20 ls r ((j_up w a (.inl (0, m, .inl (upd f j.toNatClampNeg v))))) cb sb)) ∧
  (∀ (r : List Value), j_go (jmt 84) post cut (n + 1) 20 ls r w cb sb ↔ g_ld ls[0]? (fun v => t_a v ∧ j_k (jmt 84) post cut n 21 ls (v :: r) w cb sb)) ∧
  (∀ (r : List Value) (a : Nat), j_go (jmt 84) post cut (n + 1) 21 ls (.ref a :: r) w cb sb ↔ g_ob 8 (w a) (fun fs => g_v fs[9]? (fun v => j_k (jmt 84) post cut n 24 ls (v :: r) w cb sb))) ∧
  (∀ (r : List Value), j_go (jmt 84) post cut (n + 1) 24 ls r w cb sb ↔ g_ld ls[0]? (fun v => t_a v ∧ j_k (jmt 84) post cut n 25 ls (v :: r) w cb sb)) ∧
  (∀ (r : List Value) (a : Nat), j_go (jmt 84) post cut (n + 1) 25 ls (.ref a :: r) w cb sb ↔ g_ob 8 (w a) (fun fs => g_v fs[8]? (fun v => j_k (jmt 84) post cut n 28 ls (v :: r) w cb sb))) ∧
  (∀ (r : List Value), j_go (jmt 84) post cut (n + 1) 28 ls r w cb sb ↔ g_ld ls[1]? (fun v => t_i v ∧ j_k (jmt 84) post cut n 29 ls (v :: r) w cb sb)) ∧
  (∀ (r : List Value) (a : Nat) (j v : Int32), j_go (jmt 84) post cut (n + 1) 29 ls (.int v :: .int j :: .ref a :: r) w cb sb ↔ g_ia 0 (w a) (fun m f => vp_in j m ∧ j_k (jmt 84) post cut n 30 ls r ((j_up w a (.inl (0, m, .inl (upd f j.toNatClampNeg v))))) cb sb)) ∧
  (∀ (r : List Value), j_go (jmt 84) post cut (n + 1) 30 ls r w cb sb ↔ g_ld ls[0]? (fun v => t_a v ∧ j_k (jmt 84) post cut n 31 ls (v :: r) w cb sb)) ∧
  (∀ (r : List Value) (a : Nat), j_go (jmt 84) post cut (n + 1) 31 ls (.ref a :: r) w cb sb ↔ g_ob 8 (w a) (fun fs => g_v fs[10]? (fun v => j_k (jmt 84) post cut n 34 ls (v :: r) w cb sb))) ∧
  (∀ (r : List Value), j_go (jmt 84) post cut (n + 1) 34 ls r w cb sb ↔ g_ld ls[0]? (fun v => t_a v ∧ j_k (jmt 84) post cut n 35 ls (v :: r) w cb sb)) ∧
  (∀ (r : List Value) (a : Nat), j_go (jmt 84) post cut (n + 1) 35 ls (.ref a :: r) w cb sb ↔ g_ob 8 (w a) (fun fs => g_v fs[8]? (fun v => j_k (jmt 84) post cut n 38 ls (v :: r) w cb sb))) ∧
  (∀ (r : List Value), j_go (jmt 84) post cut (n + 1) 38 ls r w cb sb ↔ g_ld ls[0]? (fun v => t_a v ∧ j_k (jmt 84) post cut n 39 ls (v :: r) w cb sb)) ∧
  (∀ (r : List Value) (a : Nat), j_go (jmt 84) post cut (n + 1) 39 ls (.ref a :: r) w cb sb ↔ g_ob 8 (w a) (fun fs => g_v fs[14]? (fun v => j_k (jmt 84) post cut n 42 ls (v :: r) w cb sb))) ∧
  (∀ (r : List Value), j_go (jmt 84) post cut (n + 1) 42 ls r w cb sb ↔ g_ld ls[1]? (fun v => t_i v ∧ j_k (jmt 84) post cut n 43 ls (v :: r) w cb sb)) ∧
  (∀ (r : List Value) (a : Nat) (j : Int32), j_go (jmt 84) post cut (n + 1) 43 ls (.int j :: .ref a :: r) w cb sb ↔ g_ia 0 (w a) (fun m f => vp_in j m ∧ j_k (jmt 84) post cut n 44 ls (.int (f j.toNatClampNeg) :: r) w cb sb)) ∧
  (∀ (r : List Value) (a : Nat) (j v : Int32), j_go (jmt 84) post cut (n + 1) 44 ls (.int v :: .int j :: .ref a :: r) w cb sb ↔ g_ia 0 (w a) (fun m f => vp_in j m ∧ j_k (jmt 84) post cut n 45 ls r ((j_up w a (.inl (0, m, .inl (upd f j.toNatClampNeg v))))) cb sb)) ∧
  (∀ (r : List Value), j_go (jmt 84) post cut (n + 1) 45 ls r w cb sb ↔ j_k (jmt 84) post cut n 46 ls (.int (Int32.ofInt 0) :: r) w cb sb) ∧
  (∀ (r : List Value) (x : Int32), j_go (jmt 84) post cut (n + 1) 46 ls (.int x :: r) w cb sb ↔ j_ok1 ls 2 = true ∧ j_k (jmt 84) post cut n 47 (ls.set 2 (some (.int x))) r w cb sb) ∧
  (∀ (r : List Value), j_go (jmt 84) post cut (n + 1) 47 ls r w cb sb ↔ g_ld ls[2]? (fun v => t_i v ∧ j_k (jmt 84) post cut n 48 ls (v :: r) w cb sb)) ∧
  (∀ (r : List Value), j_go (jmt 84) post cut (n + 1) 48 ls r w cb sb ↔ g_ld ls[0]? (fun v => t_a v ∧ j_k (jmt 84) post cut n 49 ls (v :: r) w cb sb)) ∧
  (∀ (r : List Value) (a : Nat), j_go (jmt 84) post cut (n + 1) 49 ls (.ref a :: r) w cb sb ↔ g_ob 8 (w a) (fun fs => g_v fs[1]? (fun v => j_k (jmt 84) post cut n 52 ls (v :: r) w cb sb))) ∧
  (∀ (r : List Value) (a b : Int32), j_go (jmt 84) post cut (n + 1) 52 ls (.int b :: .int a :: r) w cb sb ↔ (b ≤ a → j_k (jmt 84) post cut n 121 ls r w cb sb) ∧ (¬ (b ≤ a) → j_k (jmt 84) post cut n 55 ls r w cb sb)) ∧
  (∀ (r : List Value), j_go (jmt 84) post cut (n + 1) 55 ls r w cb sb ↔ g_ld ls[0]? (fun v => t_a v ∧ j_k (jmt 84) post cut n 56 ls (v :: r) w cb sb)) ∧
  (∀ (r : List Value) (a : Nat), j_go (jmt 84) post cut (n + 1) 56 ls (.ref a :: r) w cb sb ↔ g_ob 8 (w a) (fun fs => g_v fs[2]? (fun v => j_k (jmt 84) post cut n 59 ls (v :: r) w cb sb))) ∧
  (∀ (r : List Value), j_go (jmt 84) post cut (n + 1) 59 ls r w cb sb ↔ j_k (jmt 84) post cut n 60 ls (.int (Int32.ofInt 2) :: r) w cb sb) ∧
  (∀ (r : List Value), j_go (jmt 84) post cut (n + 1) 60 ls r w cb sb ↔ g_ld ls[2]? (fun v => t_i v ∧ j_k (jmt 84) post cut n 61 ls (v :: r) w cb sb)) ∧
  (∀ (r : List Value) (x y : Int32), j_go (jmt 84) post cut (n + 1) 61 ls (.int y :: .int x :: r) w cb sb ↔ j_k (jmt 84) post cut n 62 ls (.int (x * y) :: r) w cb sb) ∧
  (∀ (r : List Value) (a : Nat) (j : Int32), j_go (jmt 84) post cut (n + 1) 62 ls (.int j :: .ref a :: r) w cb sb ↔ g_ia 0 (w a) (fun m f => vp_in j m ∧ j_k (jmt 84) post cut n 63 ls (.int (f j.toNatClampNeg) :: r) w cb sb)) ∧
  (∀ (r : List Value), j_go (jmt 84) post cut (n + 1) 63 ls r w cb sb ↔ g_ld ls[1]? (fun v => t_i v ∧ j_k (jmt 84) post cut n 64 ls (v :: r) w cb sb)) ∧
  (∀ (r : List Value) (a b : Int32), j_go (jmt 84) post cut (n + 1) 64 ls (.int b :: .int a :: r) w cb sb ↔ (a = b → j_k (jmt 84) post cut n 81 ls r w cb sb) ∧ (¬ (a = b) → j_k (jmt 84) post cut n 67 ls r w cb sb)) ∧
  (∀ (r : List Value), j_go (jmt 84) post cut (n + 1) 67 ls r w cb sb ↔ g_ld ls[0]? (fun v => t_a v ∧ j_k (jmt 84) post cut n 68 ls (v :: r) w cb sb)) ∧
  (∀ (r : List Value) (a : Nat), j_go (jmt 84) post cut (n + 1) 68 ls (.ref a :: r) w cb sb ↔ g_ob 8 (w a) (fun fs => g_v fs[2]? (fun v => j_k (jmt 84) post cut n 71 ls (v :: r) w cb sb))) ∧
  (∀ (r : List Value), j_go (jmt 84) post cut (n + 1) 71 ls r w cb sb ↔ j_k (jmt 84) post cut n 72 ls (.int (Int32.ofInt 2) :: r) w cb sb) ∧
  (∀ (r : List Value), j_go (jmt 84) post cut (n + 1) 72 ls r w cb sb ↔ g_ld ls[2]? (fun v => t_i v ∧ j_k (jmt 84) post cut n 73 ls (v :: r) w cb sb)) ∧
  (∀ (r : List Value) (x y : Int32), j_go (jmt 84) post cut (n + 1) 73 ls (.int y :: .int x :: r) w cb sb ↔ j_k (jmt 84) post cut n 74 ls (.int (x * y) :: r) w cb sb) ∧
  (∀ (r : List Value), j_go (jmt 84) post cut (n + 1) 74 ls r w cb sb ↔ j_k (jmt 84) post cut n 75 ls (.int (Int32.ofInt 1) :: r) w cb sb) ∧
  (∀ (r : List Value) (x y : Int32), j_go (jmt 84) post cut (n + 1) 75 ls (.int y :: .int x :: r) w cb sb ↔ j_k (jmt 84) post cut n 76 ls (.int (x + y) :: r) w cb sb) ∧
  (∀ (r : List Value) (a : Nat) (j : Int32), j_go (jmt 84) post cut (n + 1) 76 ls (.int j :: .ref a :: r) w cb sb ↔ g_ia 0 (w a) (fun m f => vp_in j m ∧ j_k (jmt 84) post cut n 77 ls (.int (f j.toNatClampNeg) :: r) w cb sb)) ∧
  (∀ (r : List Value), j_go (jmt 84) post cut (n + 1) 77 ls r w cb sb ↔ g_ld ls[1]? (fun v => t_i v ∧ j_k (jmt 84) post cut n 78 ls (v :: r) w cb sb)) ∧
  (∀ (r : List Value) (a b : Int32), j_go (jmt 84) post cut (n + 1) 78 ls (.int b :: .int a :: r) w cb sb ↔ (¬ a = b → j_k (jmt 84) post cut n 85 ls r w cb sb) ∧ (¬ (¬ a = b) → j_k (jmt 84) post cut n 81 ls r w cb sb)) ∧
  (∀ (r : List Value), j_go (jmt 84) post cut (n + 1) 81 ls r w cb sb ↔ j_k (jmt 84) post cut n 82 ls (.int (Int32.ofInt 1) :: r) w cb sb) ∧
  (∀ (r : List Value), j_go (jmt 84) post cut (n + 1) 82 ls r w cb sb ↔ j_k (jmt 84) post cut n 86 ls r w cb sb) ∧
  (∀ (r : List Value), j_go (jmt 84) post cut (n + 1) 85 ls r w cb sb ↔ j_k (jmt 84) post cut n 86 ls (.int (Int32.ofInt 0) :: r) w cb sb) ∧
  (∀ (r : List Value) (x : Int32), j_go (jmt 84) post cut (n + 1) 86 ls (.int x :: r) w cb sb ↔ j_ok1 ls 3 = true ∧ j_k (jmt 84) post cut n 87 (ls.set 3 (some (.int x))) r w cb sb) ∧
  (∀ (r : List Value), j_go (jmt 84) post cut (n + 1) 87 ls r w cb sb ↔ g_ld ls[3]? (fun v => t_i v ∧ j_k (jmt 84) post cut n 88 ls (v :: r) w cb sb)) ∧
  (∀ (r : List Value) (a : Int32), j_go (jmt 84) post cut (n + 1) 88 ls (.int a :: r) w cb sb ↔ (a = 0 → j_k (jmt 84) post cut n 115 ls r w cb sb) ∧ (¬ (a = 0) → j_k (jmt 84) post cut n 91 ls r w cb sb)) ∧
  (∀ (r : List Value), j_go (jmt 84) post cut (n + 1) 91 ls r w cb sb ↔ g_ld ls[0]? (fun v => t_a v ∧ j_k (jmt 84) post cut n 92 ls (v :: r) w cb sb)) ∧
  (∀ (r : List Value) (a : Nat), j_go (jmt 84) post cut (n + 1) 92 ls (.ref a :: r) w cb sb ↔ g_ob 8 (w a) (fun fs => g_v fs[5]? (fun v => j_k (jmt 84) post cut n 95 ls (v :: r) w cb sb))) ∧
  (∀ (r : List Value), j_go (jmt 84) post cut (n + 1) 95 ls r w cb sb ↔ g_ld ls[2]? (fun v => t_i v ∧ j_k (jmt 84) post cut n 96 ls (v :: r) w cb sb)) ∧
  (∀ (r : List Value) (a : Nat) (j : Int32), j_go (jmt 84) post cut (n + 1) 96 ls (.int j :: .ref a :: r) w cb sb ↔ g_ia 1 (w a) (fun m f => vp_in j m ∧ j_k (jmt 84) post cut n 97 ls (.int (f j.toNatClampNeg) :: r) w cb sb)) ∧
  (∀ (r : List Value) (a : Int32), j_go (jmt 84) post cut (n + 1) 97 ls (.int a :: r) w cb sb ↔ (a = 0 → j_k (jmt 84) post cut n 115 ls r w cb sb) ∧ (¬ (a = 0) → j_k (jmt 84) post cut n 100 ls r w cb sb)) ∧
  (∀ (r : List Value), j_go (jmt 84) post cut (n + 1) 100 ls r w cb sb ↔ g_ld ls[0]? (fun v => t_a v ∧ j_k (jmt 84) post cut n 101 ls (v :: r) w cb sb)) ∧
  (∀ (r : List Value) (a : Nat), j_go (jmt 84) post cut (n + 1) 101 ls (.ref a :: r) w cb sb ↔ g_ob 8 (w a) (fun fs => g_v fs[11]? (fun v => j_k (jmt 84) post cut n 104 ls (v :: r) w cb sb))) ∧
  (∀ (r : List Value), j_go (jmt 84) post cut (n + 1) 104 ls r w cb sb ↔ g_ld ls[0]? (fun v => t_a v ∧ j_k (jmt 84) post cut n 105 ls (v :: r) w cb sb)) ∧
  (∀ (r : List Value) (a : Nat), j_go (jmt 84) post cut (n + 1) 105 ls (.ref a :: r) w cb sb ↔ g_ob 8 (w a) (fun fs => g_v fs[8]? (fun v => j_k (jmt 84) post cut n 108 ls (v :: r) w cb sb))) ∧
  (∀ (r : List Value) (v u : Value), j_go (jmt 84) post cut (n + 1) 108 ls (v :: u :: r) w cb sb ↔ (v.category = 1 ∧ u.category = 1) ∧ j_k (jmt 84) post cut n 109 ls (v :: u :: v :: u :: r) w cb sb) ∧
  (∀ (r : List Value) (a : Nat) (j : Int32), j_go (jmt 84) post cut (n + 1) 109 ls (.int j :: .ref a :: r) w cb sb ↔ g_ia 0 (w a) (fun m f => vp_in j m ∧ j_k (jmt 84) post cut n 110 ls (.int (f j.toNatClampNeg) :: r) w cb sb)) ∧
  (∀ (r : List Value), j_go (jmt 84) post cut (n + 1) 110 ls r w cb sb ↔ j_k (jmt 84) post cut n 111 ls (.int (Int32.ofInt 1) :: r) w cb sb) ∧
  (∀ (r : List Value), j_go (jmt 84) post cut (n + 1) 111 ls r w cb sb ↔ g_ld ls[2]? (fun v => t_i v ∧ j_k (jmt 84) post cut n 112 ls (v :: r) w cb sb)) ∧
  (∀ (r : List Value) (x y : Int32), j_go (jmt 84) post cut (n + 1) 112 ls (.int y :: .int x :: r) w cb sb ↔ j_k (jmt 84) post cut n 113 ls (.int (x <<< (y &&& 31)) :: r) w cb sb) ∧
  (∀ (r : List Value) (x y : Int32), j_go (jmt 84) post cut (n + 1) 113 ls (.int y :: .int x :: r) w cb sb ↔ j_k (jmt 84) post cut n 114 ls (.int (x ||| y) :: r) w cb sb) ∧
  (∀ (r : List Value) (a : Nat) (j v : Int32), j_go (jmt 84) post cut (n + 1) 114 ls (.int v :: .int j :: .ref a :: r) w cb sb ↔ g_ia 0 (w a) (fun m f => vp_in j m ∧ j_k (jmt 84) post cut n 115 ls r ((j_up w a (.inl (0, m, .inl (upd f j.toNatClampNeg v))))) cb sb)) ∧
  (∀ (r : List Value), j_go (jmt 84) post cut (n + 1) 115 ls r w cb sb ↔ g_ld ls[2]? (fun v => (match v with
      | .int x => j_ok1 ls 2 = true ∧ j_k (jmt 84) post cut n 118 (ls.set 2 (some (.int (x + Int32.ofInt 1)))) r w cb sb
      | _ => False))) ∧
  (∀ (r : List Value), j_go (jmt 84) post cut (n + 1) 118 ls r w cb sb ↔ j_k (jmt 84) post cut n 47 ls r w cb sb) ∧
  (∀ (r : List Value), j_go (jmt 84) post cut (n + 1) 121 ls r w cb sb ↔ g_ld ls[0]? (fun v => t_a v ∧ j_k (jmt 84) post cut n 122 ls (v :: r) w cb sb)) ∧
  (∀ (r : List Value) (a : Nat), j_go (jmt 84) post cut (n + 1) 122 ls (.ref a :: r) w cb sb ↔ g_ob 8 (w a) (fun fs => g_v fs[12]? (fun v => j_k (jmt 84) post cut n 125 ls (v :: r) w cb sb))) ∧
  (∀ (r : List Value), j_go (jmt 84) post cut (n + 1) 125 ls r w cb sb ↔ g_ld ls[0]? (fun v => t_a v ∧ j_k (jmt 84) post cut n 126 ls (v :: r) w cb sb)) ∧
  (∀ (r : List Value) (a : Nat), j_go (jmt 84) post cut (n + 1) 126 ls (.ref a :: r) w cb sb ↔ g_ob 8 (w a) (fun fs => g_v fs[8]? (fun v => j_k (jmt 84) post cut n 129 ls (v :: r) w cb sb))) ∧
  (∀ (r : List Value), j_go (jmt 84) post cut (n + 1) 129 ls r w cb sb ↔ g_ld ls[0]? (fun v => t_a v ∧ j_k (jmt 84) post cut n 130 ls (v :: r) w cb sb)) ∧
  (∀ (r : List Value) (a : Nat), j_go (jmt 84) post cut (n + 1) 130 ls (.ref a :: r) w cb sb ↔ g_ob 8 (w a) (fun fs => g_v fs[6]? (fun v => j_k (jmt 84) post cut n 133 ls (v :: r) w cb sb))) ∧
  (∀ (r : List Value), j_go (jmt 84) post cut (n + 1) 133 ls r w cb sb ↔ g_ld ls[1]? (fun v => t_i v ∧ j_k (jmt 84) post cut n 134 ls (v :: r) w cb sb)) ∧
  (∀ (r : List Value) (a : Nat) (j : Int32), j_go (jmt 84) post cut (n + 1) 134 ls (.int j :: .ref a :: r) w cb sb ↔ g_ia 0 (w a) (fun m f => vp_in j m ∧ j_k (jmt 84) post cut n 135 ls (.int (f j.toNatClampNeg) :: r) w cb sb)) ∧
  (∀ (r : List Value) (a : Nat) (j v : Int32), j_go (jmt 84) post cut (n + 1) 135 ls (.int v :: .int j :: .ref a :: r) w cb sb ↔ g_ia 0 (w a) (fun m f => vp_in j m ∧ j_k (jmt 84) post cut n 136 ls r ((j_up w a (.inl (0, m, .inl (upd f j.toNatClampNeg v))))) cb sb)) ∧
  (∀ (r : List Value), j_go (jmt 84) post cut (n + 1) 136 ls r w cb sb ↔ j_k (jmt 84) post cut n 137 ls (.int (Int32.ofInt 0) :: r) w cb sb) ∧
  (∀ (r : List Value) (x : Int32), j_go (jmt 84) post cut (n + 1) 137 ls (.int x :: r) w cb sb ↔ j_ok1 ls 2 = true ∧ j_k (jmt 84) post cut n 138 (ls.set 2 (some (.int x))) r w cb sb) ∧
  (∀ (r : List Value), j_go (jmt 84) post cut (n + 1) 138 ls r w cb sb ↔ g_ld ls[2]? (fun v => t_i v ∧ j_k (jmt 84) post cut n 139 ls (v :: r) w cb sb)) ∧
  (∀ (r : List Value), j_go (jmt 84) post cut (n + 1) 139 ls r w cb sb ↔ j_k (jmt 84) post cut n 140 ls (.int (Int32.ofInt 3) :: r) w cb sb) ∧
  (∀ (r : List Value) (a b : Int32), j_go (jmt 84) post cut (n + 1) 140 ls (.int b :: .int a :: r) w cb sb ↔ (b ≤ a → j_k (jmt 84) post cut n 172 ls r w cb sb) ∧ (¬ (b ≤ a) → j_k (jmt 84) post cut n 143 ls r w cb sb)) ∧
  (∀ (r : List Value), j_go (jmt 84) post cut (n + 1) 143 ls r w cb sb ↔ g_ld ls[0]? (fun v => t_a v ∧ j_k (jmt 84) post cut n 144 ls (v :: r) w cb sb)) ∧
  (∀ (r : List Value) (a : Nat), j_go (jmt 84) post cut (n + 1) 144 ls (.ref a :: r) w cb sb ↔ g_ob 8 (w a) (fun fs => g_v fs[13]? (fun v => j_k (jmt 84) post cut n 147 ls (v :: r) w cb sb))) ∧
  (∀ (r : List Value), j_go (jmt 84) post cut (n + 1) 147 ls r w cb sb ↔ j_k (jmt 84) post cut n 148 ls (.int (Int32.ofInt 3) :: r) w cb sb) ∧
  (∀ (r : List Value), j_go (jmt 84) post cut (n + 1) 148 ls r w cb sb ↔ g_ld ls[0]? (fun v => t_a v ∧ j_k (jmt 84) post cut n 149 ls (v :: r) w cb sb)) ∧
  (∀ (r : List Value) (a : Nat), j_go (jmt 84) post cut (n + 1) 149 ls (.ref a :: r) w cb sb ↔ g_ob 8 (w a) (fun fs => g_v fs[8]? (fun v => j_k (jmt 84) post cut n 152 ls (v :: r) w cb sb))) ∧
  (∀ (r : List Value) (x y : Int32), j_go (jmt 84) post cut (n + 1) 152 ls (.int y :: .int x :: r) w cb sb ↔ j_k (jmt 84) post cut n 153 ls (.int (x * y) :: r) w cb sb) ∧
  (∀ (r : List Value), j_go (jmt 84) post cut (n + 1) 153 ls r w cb sb ↔ g_ld ls[2]? (fun v => t_i v ∧ j_k (jmt 84) post cut n 154 ls (v :: r) w cb sb)) ∧
  (∀ (r : List Value) (x y : Int32), j_go (jmt 84) post cut (n + 1) 154 ls (.int y :: .int x :: r) w cb sb ↔ j_k (jmt 84) post cut n 155 ls (.int (x + y) :: r) w cb sb) ∧
  (∀ (r : List Value), j_go (jmt 84) post cut (n + 1) 155 ls r w cb sb ↔ g_ld ls[0]? (fun v => t_a v ∧ j_k (jmt 84) post cut n 156 ls (v :: r) w cb sb)) ∧
  (∀ (r : List Value) (a : Nat), j_go (jmt 84) post cut (n + 1) 156 ls (.ref a :: r) w cb sb ↔ g_ob 8 (w a) (fun fs => g_v fs[7]? (fun v => j_k (jmt 84) post cut n 159 ls (v :: r) w cb sb))) ∧
  (∀ (r : List Value), j_go (jmt 84) post cut (n + 1) 159 ls r w cb sb ↔ j_k (jmt 84) post cut n 160 ls (.int (Int32.ofInt 3) :: r) w cb sb) ∧
  (∀ (r : List Value), j_go (jmt 84) post cut (n + 1) 160 ls r w cb sb ↔ g_ld ls[1]? (fun v => t_i v ∧ j_k (jmt 84) post cut n 161 ls (v :: r) w cb sb)) ∧
  (∀ (r : List Value) (x y : Int32), j_go (jmt 84) post cut (n + 1) 161 ls (.int y :: .int x :: r) w cb sb ↔ j_k (jmt 84) post cut n 162 ls (.int (x * y) :: r) w cb sb) ∧
  (∀ (r : List Value), j_go (jmt 84) post cut (n + 1) 162 ls r w cb sb ↔ g_ld ls[2]? (fun v => t_i v ∧ j_k (jmt 84) post cut n 163 ls (v :: r) w cb sb)) ∧
  (∀ (r : List Value) (x y : Int32), j_go (jmt 84) post cut (n + 1) 163 ls (.int y :: .int x :: r) w cb sb ↔ j_k (jmt 84) post cut n 164 ls (.int (x + y) :: r) w cb sb) ∧
  (∀ (r : List Value) (a : Nat) (j : Int32), j_go (jmt 84) post cut (n + 1) 164 ls (.int j :: .ref a :: r) w cb sb ↔ g_ia 0 (w a) (fun m f => vp_in j m ∧ j_k (jmt 84) post cut n 165 ls (.int (f j.toNatClampNeg) :: r) w cb sb)) ∧
  (∀ (r : List Value) (a : Nat) (j v : Int32), j_go (jmt 84) post cut (n + 1) 165 ls (.int v :: .int j :: .ref a :: r) w cb sb ↔ g_ia 0 (w a) (fun m f => vp_in j m ∧ j_k (jmt 84) post cut n 166 ls r ((j_up w a (.inl (0, m, .inl (upd f j.toNatClampNeg v))))) cb sb)) ∧
  (∀ (r : List Value), j_go (jmt 84) post cut (n + 1) 166 ls r w cb sb ↔ g_ld ls[2]? (fun v => (match v with
      | .int x => j_ok1 ls 2 = true ∧ j_k (jmt 84) post cut n 169 (ls.set 2 (some (.int (x + Int32.ofInt 1)))) r w cb sb
      | _ => False))) ∧
  (∀ (r : List Value), j_go (jmt 84) post cut (n + 1) 169 ls r w cb sb ↔ j_k (jmt 84) post cut n 138 ls r w cb sb) ∧
  (∀ (r : List Value), j_go (jmt 84) post cut (n + 1) 172 ls r w cb sb ↔ g_ld ls[0]? (fun v => t_a v ∧ j_k (jmt 84) post cut n 173 ls (v :: r) w cb sb)) ∧
  (∀ (r : List Value) (a : Nat), j_go (jmt 84) post cut (n + 1) 173 ls (.ref a :: r) w cb sb ↔ g_ob 8 (w a) (fun fs => g_v fs[15]? (fun v => j_k (jmt 84) post cut n 176 ls (v :: r) w cb sb))) ∧
  (∀ (r : List Value), j_go (jmt 84) post cut (n + 1) 176 ls r w cb sb ↔ j_k (jmt 84) post cut n 178 ls (.int (Int8.ofInt 8).toInt32 :: r) w cb sb) ∧
  (∀ (r : List Value), j_go (jmt 84) post cut (n + 1) 178 ls r w cb sb ↔ g_ld ls[1]? (fun v => t_i v ∧ j_k (jmt 84) post cut n 179 ls (v :: r) w cb sb)) ∧
  (∀ (r : List Value) (x y : Int32), j_go (jmt 84) post cut (n + 1) 179 ls (.int y :: .int x :: r) w cb sb ↔ j_k (jmt 84) post cut n 180 ls (.int (x * y) :: r) w cb sb) ∧
  (∀ (r : List Value), j_go (jmt 84) post cut (n + 1) 180 ls r w cb sb ↔ g_ld ls[1]? (fun v => t_i v ∧ j_k (jmt 84) post cut n 181 ls (v :: r) w cb sb)) ∧
  (∀ (r : List Value) (x y : Int32), j_go (jmt 84) post cut (n + 1) 181 ls (.int y :: .int x :: r) w cb sb ↔ j_k (jmt 84) post cut n 182 ls (.int (x + y) :: r) w cb sb) ∧
  (∀ (r : List Value), j_go (jmt 84) post cut (n + 1) 182 ls r w cb sb ↔ g_ld ls[0]? (fun v => t_a v ∧ j_k (jmt 84) post cut n 183 ls (v :: r) w cb sb)) ∧
  (∀ (r : List Value) (a : Nat), j_go (jmt 84) post cut (n + 1) 183 ls (.ref a :: r) w cb sb ↔ g_ob 8 (w a) (fun fs => g_v fs[8]? (fun v => j_k (jmt 84) post cut n 186 ls (v :: r) w cb sb))) ∧
  (∀ (r : List Value) (a : Nat) (j v : Int32), j_go (jmt 84) post cut (n + 1) 186 ls (.int v :: .int j :: .ref a :: r) w cb sb ↔ g_ia 0 (w a) (fun m f => vp_in j m ∧ j_k (jmt 84) post cut n 187 ls r ((j_up w a (.inl (0, m, .inl (upd f j.toNatClampNeg v))))) cb sb)) ∧
  (∀ (r : List Value), j_go (jmt 84) post cut (n + 1) 187 ls r w cb sb ↔ g_ld ls[0]? (fun v => t_a v ∧ j_k (jmt 84) post cut n 188 ls (v :: r) w cb sb)) ∧
  (∀ (r : List Value), j_go (jmt 84) post cut (n + 1) 188 ls r w cb sb ↔ g_ld ls[1]? (fun v => t_i v ∧ j_k (jmt 84) post cut n 189 ls (v :: r) w cb sb)) ∧
  (∀ (r : List Value), j_go (jmt 84) post cut (n + 1) 189 ls r w cb sb ↔ g_ld ls[0]? (fun v => t_a v ∧ j_k (jmt 84) post cut n 190 ls (v :: r) w cb sb)) ∧
  (∀ (r : List Value) (a : Nat), j_go (jmt 84) post cut (n + 1) 190 ls (.ref a :: r) w cb sb ↔ g_ob 8 (w a) (fun fs => g_v fs[8]? (fun v => j_k (jmt 84) post cut n 193 ls (v :: r) w cb sb))) ∧
  (∀ (r : List Value), j_go (jmt 84) post cut (n + 1) 193 ls r w cb sb ↔ j_k (jmt 84) post cut n 194 ls (.int (Int32.ofInt (-1)) :: r) w cb sb) ∧
  (∀ (r : List Value) (a0 a1 a2 : Value) (b : Nat), j_go (jmt 84) post cut (n + 1) 194 ls (a2 :: a1 :: a0 :: .ref b :: r) w cb sb ↔ g_ob 8 (w b) (fun _ => True) ∧ j_w8 r ∧ g_call (jmt 85) [.ref b, a0, a1, a2] w cb sb (fun v w' c s => j_k (jmt 84) post cut n 197 ls (v.toList ++ r) w' c s)) ∧
  (j_go (jmt 84) post cut (n + 1) 197 ls [] w cb sb ↔ post none w) := ⟨fun _ => (j_go_s rfl).trans e_aload_n,
  fun _ _ => (j_go_s rfl).trans e_dup,
  fun _ _ => (j_go_s rfl).trans e_getf,
  fun _ => (j_go_s rfl).trans e_iconst,
  fun _ _ _ => (j_go_s rfl).trans e_iadd,
  fun _ _ _ => (j_go_s rfl).trans e_putf,
  fun _ => (j_go_s rfl).trans e_aload_n,
  fun _ _ => (j_go_s rfl).trans e_getf,
  fun _ => (j_go_s rfl).trans e_iload_n,
  fun _ _ _ => (j_go_s rfl).trans e_dup2,
  fun _ _ _ => (j_go_s rfl).trans e_iald,
  fun _ => (j_go_s rfl).trans e_iconst,
  fun _ _ _ => (j_go_s rfl).trans e_iadd,
  fun _ _ _ _ => (j_go_s rfl).trans e_iast,
  fun _ => (j_go_s rfl).trans e_aload_n,
  fun _ _ => (j_go_s rfl).trans e_getf,
  fun _ => (j_go_s rfl).trans e_aload_n,
  fun _ _ => (j_go_s rfl).trans e_getf,
  fun _ => (j_go_s rfl).trans e_iload_n,
  fun _ _ _ _ => (j_go_s rfl).trans e_iast,
  fun _ => (j_go_s rfl).trans e_aload_n,
  fun _ _ => (j_go_s rfl).trans e_getf,
  fun _ => (j_go_s rfl).trans e_aload_n,
  fun _ _ => (j_go_s rfl).trans e_getf,
  fun _ => (j_go_s rfl).trans e_aload_n,
  fun _ _ => (j_go_s rfl).trans e_getf,
  fun _ => (j_go_s rfl).trans e_iload_n,
  fun _ _ _ => (j_go_s rfl).trans e_iald,
  fun _ _ _ _ => (j_go_s rfl).trans e_iast,
  fun _ => (j_go_s rfl).trans e_iconst,
  fun _ _ => (j_go_s rfl).trans e_istore_n,
  fun _ => (j_go_s rfl).trans e_iload_n,
  fun _ => (j_go_s rfl).trans e_aload_n,
  fun _ _ => (j_go_s rfl).trans e_getf,
  fun _ _ _ => (j_go_s rfl).trans e_icmp,
  fun _ => (j_go_s rfl).trans e_aload_n,
  fun _ _ => (j_go_s rfl).trans e_getf,
  fun _ => (j_go_s rfl).trans e_iconst,
  fun _ => (j_go_s rfl).trans e_iload_n,
  fun _ _ _ => (j_go_s rfl).trans e_imul,
  fun _ _ _ => (j_go_s rfl).trans e_iald,
  fun _ => (j_go_s rfl).trans e_iload_n,
  fun _ _ _ => (j_go_s rfl).trans e_icmp,
  fun _ => (j_go_s rfl).trans e_aload_n,
  fun _ _ => (j_go_s rfl).trans e_getf,
  fun _ => (j_go_s rfl).trans e_iconst,
  fun _ => (j_go_s rfl).trans e_iload_n,
  fun _ _ _ => (j_go_s rfl).trans e_imul,
  fun _ => (j_go_s rfl).trans e_iconst,
  fun _ _ _ => (j_go_s rfl).trans e_iadd,
  fun _ _ _ => (j_go_s rfl).trans e_iald,
  fun _ => (j_go_s rfl).trans e_iload_n,
  fun _ _ _ => (j_go_s rfl).trans e_icmp,
  fun _ => (j_go_s rfl).trans e_iconst,
  fun _ => (j_go_s rfl).trans e_goto,
  fun _ => (j_go_s rfl).trans e_iconst,
  fun _ _ => (j_go_s rfl).trans e_istore_n,
  fun _ => (j_go_s rfl).trans e_iload_n,
  fun _ _ => (j_go_s rfl).trans e_if,
  fun _ => (j_go_s rfl).trans e_aload_n,
  fun _ _ => (j_go_s rfl).trans e_getf,
  fun _ => (j_go_s rfl).trans e_iload_n,
  fun _ _ _ => (j_go_s rfl).trans e_zald,
  fun _ _ => (j_go_s rfl).trans e_if,
  fun _ => (j_go_s rfl).trans e_aload_n,
  fun _ _ => (j_go_s rfl).trans e_getf,
  fun _ => (j_go_s rfl).trans e_aload_n,
  fun _ _ => (j_go_s rfl).trans e_getf,
  fun _ _ _ => (j_go_s rfl).trans e_dup2,
  fun _ _ _ => (j_go_s rfl).trans e_iald,
  fun _ => (j_go_s rfl).trans e_iconst,
  fun _ => (j_go_s rfl).trans e_iload_n,
  fun _ _ _ => (j_go_s rfl).trans e_ishl,
  fun _ _ _ => (j_go_s rfl).trans e_ior,
  fun _ _ _ _ => (j_go_s rfl).trans e_iast,
  fun _ => (j_go_s rfl).trans e_iinc,
  fun _ => (j_go_s rfl).trans e_goto,
  fun _ => (j_go_s rfl).trans e_aload_n,
  fun _ _ => (j_go_s rfl).trans e_getf,
  fun _ => (j_go_s rfl).trans e_aload_n,
  fun _ _ => (j_go_s rfl).trans e_getf,
  fun _ => (j_go_s rfl).trans e_aload_n,
  fun _ _ => (j_go_s rfl).trans e_getf,
  fun _ => (j_go_s rfl).trans e_iload_n,
  fun _ _ _ => (j_go_s rfl).trans e_iald,
  fun _ _ _ _ => (j_go_s rfl).trans e_iast,
  fun _ => (j_go_s rfl).trans e_iconst,
  fun _ _ => (j_go_s rfl).trans e_istore_n,
  fun _ => (j_go_s rfl).trans e_iload_n,
  fun _ => (j_go_s rfl).trans e_iconst,
  fun _ _ _ => (j_go_s rfl).trans e_icmp,
  fun _ => (j_go_s rfl).trans e_aload_n,
  fun _ _ => (j_go_s rfl).trans e_getf,
  fun _ => (j_go_s rfl).trans e_iconst,
  fun _ => (j_go_s rfl).trans e_aload_n,
  fun _ _ => (j_go_s rfl).trans e_getf,
  fun _ _ _ => (j_go_s rfl).trans e_imul,
  fun _ => (j_go_s rfl).trans e_iload_n,
  fun _ _ _ => (j_go_s rfl).trans e_iadd,
  fun _ => (j_go_s rfl).trans e_aload_n,
  fun _ _ => (j_go_s rfl).trans e_getf,
  fun _ => (j_go_s rfl).trans e_iconst,
  fun _ => (j_go_s rfl).trans e_iload_n,
  fun _ _ _ => (j_go_s rfl).trans e_imul,
  fun _ => (j_go_s rfl).trans e_iload_n,
  fun _ _ _ => (j_go_s rfl).trans e_iadd,
  fun _ _ _ => (j_go_s rfl).trans e_iald,
  fun _ _ _ _ => (j_go_s rfl).trans e_iast,
  fun _ => (j_go_s rfl).trans e_iinc,
  fun _ => (j_go_s rfl).trans e_goto,
  fun _ => (j_go_s rfl).trans e_aload_n,
  fun _ _ => (j_go_s rfl).trans e_getf,
  fun _ => (j_go_s rfl).trans e_bipush,
  fun _ => (j_go_s rfl).trans e_iload_n,
  fun _ _ _ => (j_go_s rfl).trans e_imul,
  fun _ => (j_go_s rfl).trans e_iload_n,
  fun _ _ _ => (j_go_s rfl).trans e_iadd,
  fun _ => (j_go_s rfl).trans e_aload_n,
  fun _ _ => (j_go_s rfl).trans e_getf,
  fun _ _ _ _ => (j_go_s rfl).trans e_iast,
  fun _ => (j_go_s rfl).trans e_aload_n,
  fun _ => (j_go_s rfl).trans e_iload_n,
  fun _ => (j_go_s rfl).trans e_aload_n,
  fun _ _ => (j_go_s rfl).trans e_getf,
  fun _ => (j_go_s rfl).trans e_iconst,
  fun _ _ _ _ _ => (j_go_s rfl).trans e_callv,
  (j_go_s rfl).trans e_vret⟩
