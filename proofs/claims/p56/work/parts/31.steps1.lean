-- an equation for each instruction (written by wip/p56/gen30.py)
-- 0 java/lang/String.length
theorem k0 : np_P.1 0 = np_c0 := rfl
theorem e0_0 (x : Nat) {st : List Value} {σ : nv_St} : np_X 0 0 [some (.ref x)] st σ = np_X 0 1 [some (.ref x)] (.ref x :: st) σ := np_op k0 rfl rfl
theorem e0_0u  {st : List Value} {σ : nv_St} : np_X 0 0 [some .null] st σ = np_X 0 1 [some .null] (.null :: st) σ := np_op k0 rfl rfl
theorem e0_1 {ls : nv_Ls} {st : List Value} {σ : nv_St} {b : Nat} (h : ¬ b < 1000000) : np_X 0 1 ls (.ref b :: st) σ = np_b (nv_valv[b - 1000000]?) (fun v => np_X 0 4 ls (v :: st) σ) := np_sget k0 rfl h
theorem e0_4 {ls : nv_Ls} {st : List Value} {σ : nv_St} {b : Nat} (h : ¬ b < 1000100) : np_X 0 4 ls (.ref b :: st) σ = np_b (nv_lens[b - 1000100]?) (fun m => np_X 0 5 ls (.int (Int32.ofNat m) :: st) σ) := np_slens k0 rfl h
theorem e0_5 (x : Nat) {st : List Value} {σ : nv_St} : np_X 0 5 [some (.ref x)] st σ = np_X 0 6 [some (.ref x)] (.ref x :: st) σ := np_op k0 rfl rfl
theorem e0_5u  {st : List Value} {σ : nv_St} : np_X 0 5 [some .null] st σ = np_X 0 6 [some .null] (.null :: st) σ := np_op k0 rfl rfl
theorem e0_6 {ls : nv_Ls} {st : List Value} {σ : nv_St} {a : Nat}  (h : st.length ≤ 4) (h0 : 1000000 ≤ a) (h1 : a < 1000032) : np_X 0 6 ls (.ref a :: st) σ = np_aft 0 6 9 ls st (np_X 2 0 [some (.ref a)] [] σ) := np_call k0 rfl (Nat.le_add_left 1 _) rfl rfl h rfl (decide_eq_true ⟨h0, h1⟩) rfl
theorem e0_9 {ls : nv_Ls} {st : List Value} {σ : nv_St} {x y : Int32} : np_X 0 9 ls (.int y :: .int x :: st) σ = np_X 0 10 ls (.int (x >>> (y &&& 31)) :: st) σ := np_op k0 rfl rfl
theorem e0_10 {ls : nv_Ls} {σ : nv_St} {x : Int32} : np_X 0 10 ls [.int x] σ = some (.inl (some (.int x)), σ) := np_reti k0 rfl rfl
-- 1 java/lang/String.charAt
theorem k1 : np_P.1 1 = np_c1 := rfl
theorem e1_0 (x : Nat) {l1 : Option Value} {st : List Value} {σ : nv_St} : np_X 1 0 [some (.ref x), l1] st σ = np_X 1 1 [some (.ref x), l1] (.ref x :: st) σ := np_op k1 rfl rfl
theorem e1_0u  {l1 : Option Value} {st : List Value} {σ : nv_St} : np_X 1 0 [some .null, l1] st σ = np_X 1 1 [some .null, l1] (.null :: st) σ := np_op k1 rfl rfl
theorem e1_1 {ls : nv_Ls} {st : List Value} {σ : nv_St} {a : Nat}  (h : st.length ≤ 4) (h0 : 1000000 ≤ a) (h1 : a < 1000032) : np_X 1 1 ls (.ref a :: st) σ = np_aft 1 1 4 ls st (np_X 3 0 [some (.ref a)] [] σ) := np_call k1 rfl (Nat.le_add_left 1 _) rfl rfl h rfl (decide_eq_true ⟨h0, h1⟩) rfl
theorem e1_4 {ls : nv_Ls} {st : List Value} {σ : nv_St} {x : Int32} : np_X 1 4 ls (.int x :: st) σ = if x = 0 then np_X 1 16 ls st σ else np_X 1 7 ls st σ := np_br inferInstance k1 rfl rfl
theorem e1_7 (x : Nat) {l1 : Option Value} {st : List Value} {σ : nv_St} : np_X 1 7 [some (.ref x), l1] st σ = np_X 1 8 [some (.ref x), l1] (.ref x :: st) σ := np_op k1 rfl rfl
theorem e1_7u  {l1 : Option Value} {st : List Value} {σ : nv_St} : np_X 1 7 [some .null, l1] st σ = np_X 1 8 [some .null, l1] (.null :: st) σ := np_op k1 rfl rfl
theorem e1_8 {ls : nv_Ls} {st : List Value} {σ : nv_St} {b : Nat} (h : ¬ b < 1000000) : np_X 1 8 ls (.ref b :: st) σ = np_b (nv_valv[b - 1000000]?) (fun v => np_X 1 11 ls (v :: st) σ) := np_sget k1 rfl h
theorem e1_11 (x : Int32) {l0 : Option Value} {st : List Value} {σ : nv_St} : np_X 1 11 [l0, some (.int x)] st σ = np_X 1 12 [l0, some (.int x)] (.int x :: st) σ := np_op k1 rfl rfl
theorem e1_12 {ls : nv_Ls} {st : List Value} {σ : nv_St}  {x0 : Nat} {x1 : Int32} (h : st.length ≤ 4) : np_X 1 12 ls (.int x1 :: .ref x0 :: st) σ = np_aft 1 12 15 ls st (np_X 5 0 [some (.ref x0), some (.int x1)] [] σ) := np_call k1 rfl (Nat.le_add_left 2 _) rfl rfl h rfl rfl rfl
theorem e1_15 {ls : nv_Ls} {σ : nv_St} {x : Int32} (h : narrow .char (.int x) = .int x) : np_X 1 15 ls [.int x] σ = some (.inl (some (.int x)), σ) := np_reti k1 rfl h
-- 2 java/lang/String.coder
theorem k2 : np_P.1 2 = np_c2 := rfl
theorem e2_0 {ls : nv_Ls} {st : List Value} {σ : nv_St} : np_X 2 0 ls st σ = np_X 2 3 ls (.int 1 :: st) σ := np_op k2 rfl rfl
theorem e2_3 {ls : nv_Ls} {st : List Value} {σ : nv_St} {x : Int32} : np_X 2 3 ls (.int x :: st) σ = if x = 0 then np_X 2 13 ls st σ else np_X 2 6 ls st σ := np_br inferInstance k2 rfl rfl
theorem e2_6 (x : Nat) {st : List Value} {σ : nv_St} : np_X 2 6 [some (.ref x)] st σ = np_X 2 7 [some (.ref x)] (.ref x :: st) σ := np_op k2 rfl rfl
theorem e2_6u  {st : List Value} {σ : nv_St} : np_X 2 6 [some .null] st σ = np_X 2 7 [some .null] (.null :: st) σ := np_op k2 rfl rfl
theorem e2_7 {ls : nv_Ls} {st : List Value} {σ : nv_St} {b : Nat} (h : ¬ b < 1000000) : np_X 2 7 ls (.ref b :: st) σ = np_b (nv_codv[b - 1000000]?) (fun v => np_X 2 10 ls (v :: st) σ) := np_sget k2 rfl h
theorem e2_10 {ls : nv_Ls} {st : List Value} {σ : nv_St} : np_X 2 10 ls st σ = np_X 2 14 ls st σ := np_op k2 rfl rfl
theorem e2_14 {ls : nv_Ls} {σ : nv_St} {x : Int32} (h : narrow .byte (.int x) = .int x) : np_X 2 14 ls [.int x] σ = some (.inl (some (.int x)), σ) := np_reti k2 rfl h
-- 3 java/lang/String.isLatin1
theorem k3 : np_P.1 3 = np_c3 := rfl
theorem e3_0 {ls : nv_Ls} {st : List Value} {σ : nv_St} : np_X 3 0 ls st σ = np_X 3 3 ls (.int 1 :: st) σ := np_op k3 rfl rfl
theorem e3_3 {ls : nv_Ls} {st : List Value} {σ : nv_St} {x : Int32} : np_X 3 3 ls (.int x :: st) σ = if x = 0 then np_X 3 17 ls st σ else np_X 3 6 ls st σ := np_br inferInstance k3 rfl rfl
theorem e3_6 (x : Nat) {st : List Value} {σ : nv_St} : np_X 3 6 [some (.ref x)] st σ = np_X 3 7 [some (.ref x)] (.ref x :: st) σ := np_op k3 rfl rfl
theorem e3_6u  {st : List Value} {σ : nv_St} : np_X 3 6 [some .null] st σ = np_X 3 7 [some .null] (.null :: st) σ := np_op k3 rfl rfl
theorem e3_7 {ls : nv_Ls} {st : List Value} {σ : nv_St} {b : Nat} (h : ¬ b < 1000000) : np_X 3 7 ls (.ref b :: st) σ = np_b (nv_codv[b - 1000000]?) (fun v => np_X 3 10 ls (v :: st) σ) := np_sget k3 rfl h
theorem e3_10 {ls : nv_Ls} {st : List Value} {σ : nv_St} {x : Int32} : np_X 3 10 ls (.int x :: st) σ = if x = 0 then np_X 3 13 ls st σ else np_X 3 17 ls st σ := np_br inferInstance k3 rfl rfl
theorem e3_13 {ls : nv_Ls} {st : List Value} {σ : nv_St} : np_X 3 13 ls st σ = np_X 3 14 ls (.int (1) :: st) σ := np_op k3 rfl rfl
theorem e3_14 {ls : nv_Ls} {st : List Value} {σ : nv_St} : np_X 3 14 ls st σ = np_X 3 18 ls st σ := np_op k3 rfl rfl
theorem e3_18 {ls : nv_Ls} {σ : nv_St} {x : Int32} (h : narrow .boolean (.int x) = .int x) : np_X 3 18 ls [.int x] σ = some (.inl (some (.int x)), σ) := np_reti k3 rfl h
-- 4 java/lang/String.checkIndex
theorem k4 : np_P.1 4 = np_c4 := rfl
theorem e4_0 (x : Int32) {l1 : Option Value} {st : List Value} {σ : nv_St} : np_X 4 0 [some (.int x), l1] st σ = np_X 4 1 [some (.int x), l1] (.int x :: st) σ := np_op k4 rfl rfl
theorem e4_1 (x : Int32) {l0 : Option Value} {st : List Value} {σ : nv_St} : np_X 4 1 [l0, some (.int x)] st σ = np_X 4 2 [l0, some (.int x)] (.int x :: st) σ := np_op k4 rfl rfl
theorem e4_2 {ls : nv_Ls} {st : List Value} {σ : nv_St} : np_X 4 2 ls st σ = np_X 4 5 ls (.ref 1000303 :: st) σ := np_op k4 rfl rfl
theorem e4_5 {ls : nv_Ls} {st : List Value} {σ : nv_St}  {x0 : Int32} {x1 : Int32} {x2 : Nat} (h : st.length ≤ 4) : np_X 4 5 ls (.ref x2 :: .int x1 :: .int x0 :: st) σ = np_aft 4 5 8 ls st (np_X 6 0 [some (.int x0), some (.int x1), some (.ref x2)] [] σ) := np_call k4 rfl (Nat.le_add_left 3 _) rfl rfl h rfl rfl rfl
theorem e4_8 {ls : nv_Ls} {st : List Value} {σ : nv_St} {x : Nat} : np_X 4 8 ls (.ref x :: st) σ = np_X 4 9 ls st σ := np_op k4 rfl rfl
theorem e4_8i {ls : nv_Ls} {st : List Value} {σ : nv_St} {x : Int32} : np_X 4 8 ls (.int x :: st) σ = np_X 4 9 ls st σ := np_op k4 rfl rfl
theorem e4_9 {ls : nv_Ls} {σ : nv_St} : np_X 4 9 ls [] σ = some (.inl none, σ) := np_ret k4 rfl rfl
-- 5 java/lang/StringLatin1.charAt
theorem k5 : np_P.1 5 = np_c5 := rfl
theorem e5_0 (x : Int32) {l0 : Option Value} {st : List Value} {σ : nv_St} : np_X 5 0 [l0, some (.int x)] st σ = np_X 5 1 [l0, some (.int x)] (.int x :: st) σ := np_op k5 rfl rfl
theorem e5_1 (x : Nat) {l1 : Option Value} {st : List Value} {σ : nv_St} : np_X 5 1 [some (.ref x), l1] st σ = np_X 5 2 [some (.ref x), l1] (.ref x :: st) σ := np_op k5 rfl rfl
theorem e5_1u  {l1 : Option Value} {st : List Value} {σ : nv_St} : np_X 5 1 [some .null, l1] st σ = np_X 5 2 [some .null, l1] (.null :: st) σ := np_op k5 rfl rfl
theorem e5_2 {ls : nv_Ls} {st : List Value} {σ : nv_St} {b : Nat} (h : ¬ b < 1000100) : np_X 5 2 ls (.ref b :: st) σ = np_b (nv_lens[b - 1000100]?) (fun m => np_X 5 3 ls (.int (Int32.ofNat m) :: st) σ) := np_slens k5 rfl h
theorem e5_3 {ls : nv_Ls} {st : List Value} {σ : nv_St}  {x0 : Int32} {x1 : Int32} (h : st.length ≤ 4) : np_X 5 3 ls (.int x1 :: .int x0 :: st) σ = np_aft 5 3 6 ls st (np_X 4 0 [some (.int x0), some (.int x1)] [] σ) := np_call k5 rfl (Nat.le_add_left 2 _) rfl rfl h rfl rfl rfl
theorem e5_6 (x : Nat) {l1 : Option Value} {st : List Value} {σ : nv_St} : np_X 5 6 [some (.ref x), l1] st σ = np_X 5 7 [some (.ref x), l1] (.ref x :: st) σ := np_op k5 rfl rfl
theorem e5_6u  {l1 : Option Value} {st : List Value} {σ : nv_St} : np_X 5 6 [some .null, l1] st σ = np_X 5 7 [some .null, l1] (.null :: st) σ := np_op k5 rfl rfl
theorem e5_7 (x : Int32) {l0 : Option Value} {st : List Value} {σ : nv_St} : np_X 5 7 [l0, some (.int x)] st σ = np_X 5 8 [l0, some (.int x)] (.int x :: st) σ := np_op k5 rfl rfl
theorem e5_8 {ls : nv_Ls} {st : List Value} {σ : nv_St} {x : Int32} {b : Nat} (h : ¬ (b < 1000100 ∨ x < 0)) : np_X 5 8 ls (.int x :: .ref b :: st) σ = np_b (nv_bv[b - 1000100]?) (fun vs => np_b (vs[x.toNatClampNeg]?) (fun v => np_X 5 9 ls (v :: st) σ)) := np_salds k5 rfl h
theorem e5_9 {ls : nv_Ls} {st : List Value} {σ : nv_St} : np_X 5 9 ls st σ = np_X 5 12 ls (.int (255) :: st) σ := np_op k5 rfl rfl
theorem e5_12 {ls : nv_Ls} {st : List Value} {σ : nv_St} {x y : Int32} : np_X 5 12 ls (.int y :: .int x :: st) σ = np_X 5 13 ls (.int (x &&& y) :: st) σ := np_op k5 rfl rfl
theorem e5_13 {ls : nv_Ls} {st : List Value} {σ : nv_St} {x : Int32} : np_X 5 13 ls (.int x :: st) σ = np_X 5 14 ls (.int (x.toUInt32 % 65536).toInt32 :: st) σ := np_op k5 rfl rfl
theorem e5_14 {ls : nv_Ls} {σ : nv_St} {x : Int32} (h : narrow .char (.int x) = .int x) : np_X 5 14 ls [.int x] σ = some (.inl (some (.int x)), σ) := np_reti k5 rfl h
-- 6 jdk/internal/util/Preconditions.checkIndex
theorem k6 : np_P.1 6 = np_c6 := rfl
theorem e6_0 (x : Int32) {l1 l2 : Option Value} {st : List Value} {σ : nv_St} : np_X 6 0 [some (.int x), l1, l2] st σ = np_X 6 1 [some (.int x), l1, l2] (.int x :: st) σ := np_op k6 rfl rfl
theorem e6_1 {ls : nv_Ls} {st : List Value} {σ : nv_St} {x : Int32} : np_X 6 1 ls (.int x :: st) σ = if x < 0 then np_X 6 9 ls st σ else np_X 6 4 ls st σ := np_br inferInstance k6 rfl rfl
theorem e6_4 (x : Int32) {l1 l2 : Option Value} {st : List Value} {σ : nv_St} : np_X 6 4 [some (.int x), l1, l2] st σ = np_X 6 5 [some (.int x), l1, l2] (.int x :: st) σ := np_op k6 rfl rfl
theorem e6_5 (x : Int32) {l0 l2 : Option Value} {st : List Value} {σ : nv_St} : np_X 6 5 [l0, some (.int x), l2] st σ = np_X 6 6 [l0, some (.int x), l2] (.int x :: st) σ := np_op k6 rfl rfl
theorem e6_6 {ls : nv_Ls} {st : List Value} {σ : nv_St} {x y : Int32} : np_X 6 6 ls (.int y :: .int x :: st) σ = if x < y then np_X 6 16 ls st σ else np_X 6 9 ls st σ := np_br inferInstance k6 rfl rfl
theorem e6_16 (x : Int32) {l1 l2 : Option Value} {st : List Value} {σ : nv_St} : np_X 6 16 [some (.int x), l1, l2] st σ = np_X 6 17 [some (.int x), l1, l2] (.int x :: st) σ := np_op k6 rfl rfl
theorem e6_17 {ls : nv_Ls} {σ : nv_St} {x : Int32} : np_X 6 17 ls [.int x] σ = some (.inl (some (.int x)), σ) := np_reti k6 rfl rfl
-- 7 java/lang/Enum.ordinal
theorem k7 : np_P.1 7 = np_c7 := rfl
theorem e7_0 (x : Nat) {st : List Value} {σ : nv_St} : np_X 7 0 [some (.ref x)] st σ = np_X 7 1 [some (.ref x)] (.ref x :: st) σ := np_op k7 rfl rfl
theorem e7_0u  {st : List Value} {σ : nv_St} : np_X 7 0 [some .null] st σ = np_X 7 1 [some .null] (.null :: st) σ := np_op k7 rfl rfl
theorem e7_1 {ls : nv_Ls} {st : List Value} {σ : nv_St} {b : Nat} (h : ¬ b < 1000200) : np_X 7 1 ls (.ref b :: st) σ = np_b (nv_ordv[b - 1000200]?) (fun v => np_X 7 4 ls (v :: st) σ) := np_sget k7 rfl h
theorem e7_4 {ls : nv_Ls} {σ : nv_St} {x : Int32} : np_X 7 4 ls [.int x] σ = some (.inl (some (.int x)), σ) := np_reti k7 rfl rfl
-- 8 SpoonNavy$Account.<init>
theorem k8 : np_P.1 8 = np_c8 := rfl
theorem e8_0 (x : Nat) {st : List Value} {σ : nv_St} : np_X 8 0 [some (.ref x)] st σ = np_X 8 1 [some (.ref x)] (.ref x :: st) σ := np_op k8 rfl rfl
theorem e8_0u  {st : List Value} {σ : nv_St} : np_X 8 0 [some .null] st σ = np_X 8 1 [some .null] (.null :: st) σ := np_op k8 rfl rfl
theorem e8_1 {ls : nv_Ls} {st : List Value} {σ : nv_St} {a : Nat} (h : a < 1000000) (h1 : st.length ≤ 4) : np_X 8 1 ls (.ref a :: st) σ = np_X 8 4 ls st σ := np_oinit k8 rfl h h1
theorem e8_4 (x : Nat) {st : List Value} {σ : nv_St} : np_X 8 4 [some (.ref x)] st σ = np_X 8 5 [some (.ref x)] (.ref x :: st) σ := np_op k8 rfl rfl
theorem e8_4u  {st : List Value} {σ : nv_St} : np_X 8 4 [some .null] st σ = np_X 8 5 [some .null] (.null :: st) σ := np_op k8 rfl rfl
theorem e8_5 {ls : nv_Ls} {st : List Value} {σ : nv_St} : np_X 8 5 ls st σ = np_X 8 6 ls (.int (0) :: st) σ := np_op k8 rfl rfl
theorem e8_6 {ls : nv_Ls} {st : List Value} {σ : nv_St} {a : Nat} {v : Value} : np_X 8 6 ls (v :: .ref a :: st) σ = np_b (nv_sto σ 0 0 .int a v) (fun σ' => np_X 8 9 ls st σ') := np_put k8 rfl
theorem e8_9 (x : Nat) {st : List Value} {σ : nv_St} : np_X 8 9 [some (.ref x)] st σ = np_X 8 10 [some (.ref x)] (.ref x :: st) σ := np_op k8 rfl rfl
theorem e8_9u  {st : List Value} {σ : nv_St} : np_X 8 9 [some .null] st σ = np_X 8 10 [some .null] (.null :: st) σ := np_op k8 rfl rfl
theorem e8_10 {ls : nv_Ls} {st : List Value} {σ : nv_St} : np_X 8 10 ls st σ = np_X 8 11 ls (.int (0) :: st) σ := np_op k8 rfl rfl
theorem e8_11 {ls : nv_Ls} {st : List Value} {σ : nv_St} {a : Nat} {v : Value} : np_X 8 11 ls (v :: .ref a :: st) σ = np_b (nv_sto σ 0 1 .int a v) (fun σ' => np_X 8 14 ls st σ') := np_put k8 rfl
theorem e8_14 (x : Nat) {st : List Value} {σ : nv_St} : np_X 8 14 [some (.ref x)] st σ = np_X 8 15 [some (.ref x)] (.ref x :: st) σ := np_op k8 rfl rfl
theorem e8_14u  {st : List Value} {σ : nv_St} : np_X 8 14 [some .null] st σ = np_X 8 15 [some .null] (.null :: st) σ := np_op k8 rfl rfl
theorem e8_15 {ls : nv_Ls} {st : List Value} {σ : nv_St} : np_X 8 15 ls st σ = np_X 8 17 ls (.int (20) :: st) σ := np_op k8 rfl rfl
theorem e8_17 {ls : nv_Ls} {st : List Value} {σ : nv_St} {a : Nat} {v : Value} : np_X 8 17 ls (v :: .ref a :: st) σ = np_b (nv_sto σ 0 2 .int a v) (fun σ' => np_X 8 20 ls st σ') := np_put k8 rfl
theorem e8_20 (x : Nat) {st : List Value} {σ : nv_St} : np_X 8 20 [some (.ref x)] st σ = np_X 8 21 [some (.ref x)] (.ref x :: st) σ := np_op k8 rfl rfl
theorem e8_20u  {st : List Value} {σ : nv_St} : np_X 8 20 [some .null] st σ = np_X 8 21 [some .null] (.null :: st) σ := np_op k8 rfl rfl
theorem e8_21 {ls : nv_Ls} {st : List Value} {σ : nv_St} : np_X 8 21 ls st σ = np_X 8 22 ls (.int (0) :: st) σ := np_op k8 rfl rfl
theorem e8_22 {ls : nv_Ls} {st : List Value} {σ : nv_St} {a : Nat} {v : Value} : np_X 8 22 ls (v :: .ref a :: st) σ = np_b (nv_sto σ 0 3 .int a v) (fun σ' => np_X 8 25 ls st σ') := np_put k8 rfl
theorem e8_25 (x : Nat) {st : List Value} {σ : nv_St} : np_X 8 25 [some (.ref x)] st σ = np_X 8 26 [some (.ref x)] (.ref x :: st) σ := np_op k8 rfl rfl
theorem e8_25u  {st : List Value} {σ : nv_St} : np_X 8 25 [some .null] st σ = np_X 8 26 [some .null] (.null :: st) σ := np_op k8 rfl rfl
theorem e8_26 {ls : nv_Ls} {st : List Value} {σ : nv_St} : np_X 8 26 ls st σ = np_X 8 27 ls (.int (0) :: st) σ := np_op k8 rfl rfl
theorem e8_27 {ls : nv_Ls} {st : List Value} {σ : nv_St} {a : Nat} {v : Value} : np_X 8 27 ls (v :: .ref a :: st) σ = np_b (nv_sto σ 0 4 .int a v) (fun σ' => np_X 8 30 ls st σ') := np_put k8 rfl
theorem e8_30 (x : Nat) {st : List Value} {σ : nv_St} : np_X 8 30 [some (.ref x)] st σ = np_X 8 31 [some (.ref x)] (.ref x :: st) σ := np_op k8 rfl rfl
theorem e8_30u  {st : List Value} {σ : nv_St} : np_X 8 30 [some .null] st σ = np_X 8 31 [some .null] (.null :: st) σ := np_op k8 rfl rfl
theorem e8_31 {ls : nv_Ls} {st : List Value} {σ : nv_St} : np_X 8 31 ls st σ = np_X 8 32 ls (.int (0) :: st) σ := np_op k8 rfl rfl
theorem e8_32 {ls : nv_Ls} {st : List Value} {σ : nv_St} {a : Nat} {v : Value} : np_X 8 32 ls (v :: .ref a :: st) σ = np_b (nv_sto σ 0 5 .int a v) (fun σ' => np_X 8 35 ls st σ') := np_put k8 rfl
theorem e8_35 (x : Nat) {st : List Value} {σ : nv_St} : np_X 8 35 [some (.ref x)] st σ = np_X 8 36 [some (.ref x)] (.ref x :: st) σ := np_op k8 rfl rfl
theorem e8_35u  {st : List Value} {σ : nv_St} : np_X 8 35 [some .null] st σ = np_X 8 36 [some .null] (.null :: st) σ := np_op k8 rfl rfl
theorem e8_36 {ls : nv_Ls} {st : List Value} {σ : nv_St} : np_X 8 36 ls st σ = np_X 8 37 ls (.int (0) :: st) σ := np_op k8 rfl rfl
theorem e8_37 {ls : nv_Ls} {st : List Value} {σ : nv_St} {a : Nat} {v : Value} : np_X 8 37 ls (v :: .ref a :: st) σ = np_b (nv_sto σ 0 6 .int a v) (fun σ' => np_X 8 40 ls st σ') := np_put k8 rfl
theorem e8_40 (x : Nat) {st : List Value} {σ : nv_St} : np_X 8 40 [some (.ref x)] st σ = np_X 8 41 [some (.ref x)] (.ref x :: st) σ := np_op k8 rfl rfl
theorem e8_40u  {st : List Value} {σ : nv_St} : np_X 8 40 [some .null] st σ = np_X 8 41 [some .null] (.null :: st) σ := np_op k8 rfl rfl
theorem e8_41 {ls : nv_Ls} {st : List Value} {σ : nv_St} : np_X 8 41 ls st σ = np_X 8 42 ls (.int (0) :: st) σ := np_op k8 rfl rfl
theorem e8_42 {ls : nv_Ls} {st : List Value} {σ : nv_St} {a : Nat} {v : Value} : np_X 8 42 ls (v :: .ref a :: st) σ = np_b (nv_sto σ 0 7 .int a v) (fun σ' => np_X 8 45 ls st σ') := np_put k8 rfl
theorem e8_45 {ls : nv_Ls} {σ : nv_St} : np_X 8 45 ls [] σ = some (.inl none, σ) := np_ret k8 rfl rfl
-- 9 SpoonNavy$Account.copyFrom
theorem k9 : np_P.1 9 = np_c9 := rfl
theorem e9_0 (x : Nat) {l1 : Option Value} {st : List Value} {σ : nv_St} : np_X 9 0 [some (.ref x), l1] st σ = np_X 9 1 [some (.ref x), l1] (.ref x :: st) σ := np_op k9 rfl rfl
theorem e9_0u  {l1 : Option Value} {st : List Value} {σ : nv_St} : np_X 9 0 [some .null, l1] st σ = np_X 9 1 [some .null, l1] (.null :: st) σ := np_op k9 rfl rfl
theorem e9_1 (x : Nat) {l0 : Option Value} {st : List Value} {σ : nv_St} : np_X 9 1 [l0, some (.ref x)] st σ = np_X 9 2 [l0, some (.ref x)] (.ref x :: st) σ := np_op k9 rfl rfl
theorem e9_1u  {l0 : Option Value} {st : List Value} {σ : nv_St} : np_X 9 1 [l0, some .null] st σ = np_X 9 2 [l0, some .null] (.null :: st) σ := np_op k9 rfl rfl
theorem e9_2 {ls : nv_Ls} {st : List Value} {σ : nv_St} {a : Nat} : np_X 9 2 ls (.ref a :: st) σ = np_b (nv_fld σ 0 0 a) (fun v => np_X 9 5 ls (v :: st) σ) := np_get k9 rfl
theorem e9_5 {ls : nv_Ls} {st : List Value} {σ : nv_St} {a : Nat} {v : Value} : np_X 9 5 ls (v :: .ref a :: st) σ = np_b (nv_sto σ 0 0 .int a v) (fun σ' => np_X 9 8 ls st σ') := np_put k9 rfl
theorem e9_8 (x : Nat) {l1 : Option Value} {st : List Value} {σ : nv_St} : np_X 9 8 [some (.ref x), l1] st σ = np_X 9 9 [some (.ref x), l1] (.ref x :: st) σ := np_op k9 rfl rfl
theorem e9_8u  {l1 : Option Value} {st : List Value} {σ : nv_St} : np_X 9 8 [some .null, l1] st σ = np_X 9 9 [some .null, l1] (.null :: st) σ := np_op k9 rfl rfl
theorem e9_9 (x : Nat) {l0 : Option Value} {st : List Value} {σ : nv_St} : np_X 9 9 [l0, some (.ref x)] st σ = np_X 9 10 [l0, some (.ref x)] (.ref x :: st) σ := np_op k9 rfl rfl
theorem e9_9u  {l0 : Option Value} {st : List Value} {σ : nv_St} : np_X 9 9 [l0, some .null] st σ = np_X 9 10 [l0, some .null] (.null :: st) σ := np_op k9 rfl rfl
theorem e9_10 {ls : nv_Ls} {st : List Value} {σ : nv_St} {a : Nat} : np_X 9 10 ls (.ref a :: st) σ = np_b (nv_fld σ 0 1 a) (fun v => np_X 9 13 ls (v :: st) σ) := np_get k9 rfl
theorem e9_13 {ls : nv_Ls} {st : List Value} {σ : nv_St} {a : Nat} {v : Value} : np_X 9 13 ls (v :: .ref a :: st) σ = np_b (nv_sto σ 0 1 .int a v) (fun σ' => np_X 9 16 ls st σ') := np_put k9 rfl
theorem e9_16 (x : Nat) {l1 : Option Value} {st : List Value} {σ : nv_St} : np_X 9 16 [some (.ref x), l1] st σ = np_X 9 17 [some (.ref x), l1] (.ref x :: st) σ := np_op k9 rfl rfl
theorem e9_16u  {l1 : Option Value} {st : List Value} {σ : nv_St} : np_X 9 16 [some .null, l1] st σ = np_X 9 17 [some .null, l1] (.null :: st) σ := np_op k9 rfl rfl
theorem e9_17 (x : Nat) {l0 : Option Value} {st : List Value} {σ : nv_St} : np_X 9 17 [l0, some (.ref x)] st σ = np_X 9 18 [l0, some (.ref x)] (.ref x :: st) σ := np_op k9 rfl rfl
theorem e9_17u  {l0 : Option Value} {st : List Value} {σ : nv_St} : np_X 9 17 [l0, some .null] st σ = np_X 9 18 [l0, some .null] (.null :: st) σ := np_op k9 rfl rfl
theorem e9_18 {ls : nv_Ls} {st : List Value} {σ : nv_St} {a : Nat} : np_X 9 18 ls (.ref a :: st) σ = np_b (nv_fld σ 0 2 a) (fun v => np_X 9 21 ls (v :: st) σ) := np_get k9 rfl
theorem e9_21 {ls : nv_Ls} {st : List Value} {σ : nv_St} {a : Nat} {v : Value} : np_X 9 21 ls (v :: .ref a :: st) σ = np_b (nv_sto σ 0 2 .int a v) (fun σ' => np_X 9 24 ls st σ') := np_put k9 rfl
theorem e9_24 (x : Nat) {l1 : Option Value} {st : List Value} {σ : nv_St} : np_X 9 24 [some (.ref x), l1] st σ = np_X 9 25 [some (.ref x), l1] (.ref x :: st) σ := np_op k9 rfl rfl
theorem e9_24u  {l1 : Option Value} {st : List Value} {σ : nv_St} : np_X 9 24 [some .null, l1] st σ = np_X 9 25 [some .null, l1] (.null :: st) σ := np_op k9 rfl rfl
theorem e9_25 (x : Nat) {l0 : Option Value} {st : List Value} {σ : nv_St} : np_X 9 25 [l0, some (.ref x)] st σ = np_X 9 26 [l0, some (.ref x)] (.ref x :: st) σ := np_op k9 rfl rfl
theorem e9_25u  {l0 : Option Value} {st : List Value} {σ : nv_St} : np_X 9 25 [l0, some .null] st σ = np_X 9 26 [l0, some .null] (.null :: st) σ := np_op k9 rfl rfl
theorem e9_26 {ls : nv_Ls} {st : List Value} {σ : nv_St} {a : Nat} : np_X 9 26 ls (.ref a :: st) σ = np_b (nv_fld σ 0 3 a) (fun v => np_X 9 29 ls (v :: st) σ) := np_get k9 rfl
theorem e9_29 {ls : nv_Ls} {st : List Value} {σ : nv_St} {a : Nat} {v : Value} : np_X 9 29 ls (v :: .ref a :: st) σ = np_b (nv_sto σ 0 3 .int a v) (fun σ' => np_X 9 32 ls st σ') := np_put k9 rfl
theorem e9_32 (x : Nat) {l1 : Option Value} {st : List Value} {σ : nv_St} : np_X 9 32 [some (.ref x), l1] st σ = np_X 9 33 [some (.ref x), l1] (.ref x :: st) σ := np_op k9 rfl rfl
theorem e9_32u  {l1 : Option Value} {st : List Value} {σ : nv_St} : np_X 9 32 [some .null, l1] st σ = np_X 9 33 [some .null, l1] (.null :: st) σ := np_op k9 rfl rfl
theorem e9_33 (x : Nat) {l0 : Option Value} {st : List Value} {σ : nv_St} : np_X 9 33 [l0, some (.ref x)] st σ = np_X 9 34 [l0, some (.ref x)] (.ref x :: st) σ := np_op k9 rfl rfl
theorem e9_33u  {l0 : Option Value} {st : List Value} {σ : nv_St} : np_X 9 33 [l0, some .null] st σ = np_X 9 34 [l0, some .null] (.null :: st) σ := np_op k9 rfl rfl
theorem e9_34 {ls : nv_Ls} {st : List Value} {σ : nv_St} {a : Nat} : np_X 9 34 ls (.ref a :: st) σ = np_b (nv_fld σ 0 4 a) (fun v => np_X 9 37 ls (v :: st) σ) := np_get k9 rfl
theorem e9_37 {ls : nv_Ls} {st : List Value} {σ : nv_St} {a : Nat} {v : Value} : np_X 9 37 ls (v :: .ref a :: st) σ = np_b (nv_sto σ 0 4 .int a v) (fun σ' => np_X 9 40 ls st σ') := np_put k9 rfl
theorem e9_40 (x : Nat) {l1 : Option Value} {st : List Value} {σ : nv_St} : np_X 9 40 [some (.ref x), l1] st σ = np_X 9 41 [some (.ref x), l1] (.ref x :: st) σ := np_op k9 rfl rfl
theorem e9_40u  {l1 : Option Value} {st : List Value} {σ : nv_St} : np_X 9 40 [some .null, l1] st σ = np_X 9 41 [some .null, l1] (.null :: st) σ := np_op k9 rfl rfl
theorem e9_41 (x : Nat) {l0 : Option Value} {st : List Value} {σ : nv_St} : np_X 9 41 [l0, some (.ref x)] st σ = np_X 9 42 [l0, some (.ref x)] (.ref x :: st) σ := np_op k9 rfl rfl
theorem e9_41u  {l0 : Option Value} {st : List Value} {σ : nv_St} : np_X 9 41 [l0, some .null] st σ = np_X 9 42 [l0, some .null] (.null :: st) σ := np_op k9 rfl rfl
theorem e9_42 {ls : nv_Ls} {st : List Value} {σ : nv_St} {a : Nat} : np_X 9 42 ls (.ref a :: st) σ = np_b (nv_fld σ 0 5 a) (fun v => np_X 9 45 ls (v :: st) σ) := np_get k9 rfl
theorem e9_45 {ls : nv_Ls} {st : List Value} {σ : nv_St} {a : Nat} {v : Value} : np_X 9 45 ls (v :: .ref a :: st) σ = np_b (nv_sto σ 0 5 .int a v) (fun σ' => np_X 9 48 ls st σ') := np_put k9 rfl
theorem e9_48 (x : Nat) {l1 : Option Value} {st : List Value} {σ : nv_St} : np_X 9 48 [some (.ref x), l1] st σ = np_X 9 49 [some (.ref x), l1] (.ref x :: st) σ := np_op k9 rfl rfl
theorem e9_48u  {l1 : Option Value} {st : List Value} {σ : nv_St} : np_X 9 48 [some .null, l1] st σ = np_X 9 49 [some .null, l1] (.null :: st) σ := np_op k9 rfl rfl
theorem e9_49 (x : Nat) {l0 : Option Value} {st : List Value} {σ : nv_St} : np_X 9 49 [l0, some (.ref x)] st σ = np_X 9 50 [l0, some (.ref x)] (.ref x :: st) σ := np_op k9 rfl rfl
theorem e9_49u  {l0 : Option Value} {st : List Value} {σ : nv_St} : np_X 9 49 [l0, some .null] st σ = np_X 9 50 [l0, some .null] (.null :: st) σ := np_op k9 rfl rfl
theorem e9_50 {ls : nv_Ls} {st : List Value} {σ : nv_St} {a : Nat} : np_X 9 50 ls (.ref a :: st) σ = np_b (nv_fld σ 0 6 a) (fun v => np_X 9 53 ls (v :: st) σ) := np_get k9 rfl
theorem e9_53 {ls : nv_Ls} {st : List Value} {σ : nv_St} {a : Nat} {v : Value} : np_X 9 53 ls (v :: .ref a :: st) σ = np_b (nv_sto σ 0 6 .int a v) (fun σ' => np_X 9 56 ls st σ') := np_put k9 rfl
theorem e9_56 (x : Nat) {l1 : Option Value} {st : List Value} {σ : nv_St} : np_X 9 56 [some (.ref x), l1] st σ = np_X 9 57 [some (.ref x), l1] (.ref x :: st) σ := np_op k9 rfl rfl
theorem e9_56u  {l1 : Option Value} {st : List Value} {σ : nv_St} : np_X 9 56 [some .null, l1] st σ = np_X 9 57 [some .null, l1] (.null :: st) σ := np_op k9 rfl rfl
theorem e9_57 (x : Nat) {l0 : Option Value} {st : List Value} {σ : nv_St} : np_X 9 57 [l0, some (.ref x)] st σ = np_X 9 58 [l0, some (.ref x)] (.ref x :: st) σ := np_op k9 rfl rfl
theorem e9_57u  {l0 : Option Value} {st : List Value} {σ : nv_St} : np_X 9 57 [l0, some .null] st σ = np_X 9 58 [l0, some .null] (.null :: st) σ := np_op k9 rfl rfl
theorem e9_58 {ls : nv_Ls} {st : List Value} {σ : nv_St} {a : Nat} : np_X 9 58 ls (.ref a :: st) σ = np_b (nv_fld σ 0 7 a) (fun v => np_X 9 61 ls (v :: st) σ) := np_get k9 rfl
theorem e9_61 {ls : nv_Ls} {st : List Value} {σ : nv_St} {a : Nat} {v : Value} : np_X 9 61 ls (v :: .ref a :: st) σ = np_b (nv_sto σ 0 7 .int a v) (fun σ' => np_X 9 64 ls st σ') := np_put k9 rfl
theorem e9_64 {ls : nv_Ls} {σ : nv_St} : np_X 9 64 ls [] σ = some (.inl none, σ) := np_ret k9 rfl rfl
-- 10 SpoonNavy$Account.balance
theorem k10 : np_P.1 10 = np_c10 := rfl
theorem e10_0 (x : Nat) {st : List Value} {σ : nv_St} : np_X 10 0 [some (.ref x)] st σ = np_X 10 1 [some (.ref x)] (.ref x :: st) σ := np_op k10 rfl rfl
theorem e10_0u  {st : List Value} {σ : nv_St} : np_X 10 0 [some .null] st σ = np_X 10 1 [some .null] (.null :: st) σ := np_op k10 rfl rfl
theorem e10_1 {ls : nv_Ls} {st : List Value} {σ : nv_St} {a : Nat} : np_X 10 1 ls (.ref a :: st) σ = np_b (nv_fld σ 0 3 a) (fun v => np_X 10 4 ls (v :: st) σ) := np_get k10 rfl
theorem e10_4 (x : Nat) {st : List Value} {σ : nv_St} : np_X 10 4 [some (.ref x)] st σ = np_X 10 5 [some (.ref x)] (.ref x :: st) σ := np_op k10 rfl rfl
theorem e10_4u  {st : List Value} {σ : nv_St} : np_X 10 4 [some .null] st σ = np_X 10 5 [some .null] (.null :: st) σ := np_op k10 rfl rfl
theorem e10_5 {ls : nv_Ls} {st : List Value} {σ : nv_St} {a : Nat} : np_X 10 5 ls (.ref a :: st) σ = np_b (nv_fld σ 0 4 a) (fun v => np_X 10 8 ls (v :: st) σ) := np_get k10 rfl
theorem e10_8 {ls : nv_Ls} {st : List Value} {σ : nv_St} {x y : Int32} : np_X 10 8 ls (.int y :: .int x :: st) σ = np_X 10 9 ls (.int (x + y) :: st) σ := np_op k10 rfl rfl
theorem e10_9 (x : Nat) {st : List Value} {σ : nv_St} : np_X 10 9 [some (.ref x)] st σ = np_X 10 10 [some (.ref x)] (.ref x :: st) σ := np_op k10 rfl rfl
theorem e10_9u  {st : List Value} {σ : nv_St} : np_X 10 9 [some .null] st σ = np_X 10 10 [some .null] (.null :: st) σ := np_op k10 rfl rfl
theorem e10_10 {ls : nv_Ls} {st : List Value} {σ : nv_St} {a : Nat} : np_X 10 10 ls (.ref a :: st) σ = np_b (nv_fld σ 0 5 a) (fun v => np_X 10 13 ls (v :: st) σ) := np_get k10 rfl
theorem e10_13 {ls : nv_Ls} {st : List Value} {σ : nv_St} {x y : Int32} : np_X 10 13 ls (.int y :: .int x :: st) σ = np_X 10 14 ls (.int (x - y) :: st) σ := np_op k10 rfl rfl
theorem e10_14 (x : Nat) {st : List Value} {σ : nv_St} : np_X 10 14 [some (.ref x)] st σ = np_X 10 15 [some (.ref x)] (.ref x :: st) σ := np_op k10 rfl rfl
theorem e10_14u  {st : List Value} {σ : nv_St} : np_X 10 14 [some .null] st σ = np_X 10 15 [some .null] (.null :: st) σ := np_op k10 rfl rfl
theorem e10_15 {ls : nv_Ls} {st : List Value} {σ : nv_St} {a : Nat} : np_X 10 15 ls (.ref a :: st) σ = np_b (nv_fld σ 0 6 a) (fun v => np_X 10 18 ls (v :: st) σ) := np_get k10 rfl
theorem e10_18 {ls : nv_Ls} {st : List Value} {σ : nv_St} {x y : Int32} : np_X 10 18 ls (.int y :: .int x :: st) σ = np_X 10 19 ls (.int (x - y) :: st) σ := np_op k10 rfl rfl
theorem e10_19 (x : Nat) {st : List Value} {σ : nv_St} : np_X 10 19 [some (.ref x)] st σ = np_X 10 20 [some (.ref x)] (.ref x :: st) σ := np_op k10 rfl rfl
theorem e10_19u  {st : List Value} {σ : nv_St} : np_X 10 19 [some .null] st σ = np_X 10 20 [some .null] (.null :: st) σ := np_op k10 rfl rfl
theorem e10_20 {ls : nv_Ls} {st : List Value} {σ : nv_St} {a : Nat} : np_X 10 20 ls (.ref a :: st) σ = np_b (nv_fld σ 0 7 a) (fun v => np_X 10 23 ls (v :: st) σ) := np_get k10 rfl
theorem e10_23 {ls : nv_Ls} {st : List Value} {σ : nv_St} {x y : Int32} : np_X 10 23 ls (.int y :: .int x :: st) σ = np_X 10 24 ls (.int (x - y) :: st) σ := np_op k10 rfl rfl
theorem e10_24 {ls : nv_Ls} {σ : nv_St} {x : Int32} : np_X 10 24 ls [.int x] σ = some (.inl (some (.int x)), σ) := np_reti k10 rfl rfl
-- 11 SpoonNavy$CommandText.<init>
theorem k11 : np_P.1 11 = np_c11 := rfl
theorem e11_0 (x : Nat) {st : List Value} {σ : nv_St} : np_X 11 0 [some (.ref x)] st σ = np_X 11 1 [some (.ref x)] (.ref x :: st) σ := np_op k11 rfl rfl
theorem e11_0u  {st : List Value} {σ : nv_St} : np_X 11 0 [some .null] st σ = np_X 11 1 [some .null] (.null :: st) σ := np_op k11 rfl rfl
theorem e11_1 {ls : nv_Ls} {st : List Value} {σ : nv_St} {a : Nat} (h : a < 1000000) (h1 : st.length ≤ 4) : np_X 11 1 ls (.ref a :: st) σ = np_X 11 4 ls st σ := np_oinit k11 rfl h h1
theorem e11_4 (x : Nat) {st : List Value} {σ : nv_St} : np_X 11 4 [some (.ref x)] st σ = np_X 11 5 [some (.ref x)] (.ref x :: st) σ := np_op k11 rfl rfl
theorem e11_4u  {st : List Value} {σ : nv_St} : np_X 11 4 [some .null] st σ = np_X 11 5 [some .null] (.null :: st) σ := np_op k11 rfl rfl
theorem e11_5 {ls : nv_Ls} {st : List Value} {σ : nv_St} : np_X 11 5 ls st σ = np_X 11 7 ls (.int (60) :: st) σ := np_op k11 rfl rfl
theorem e11_7 {ls : nv_Ls} {st : List Value} {σ : nv_St} {x : Int32} (h : σ.2.2.1 = 0) (h1 : σ.2.1 < 1000000) (h2 : ¬ x < 0) (h3 : x.toNatClampNeg ≤ 1000) : np_X 11 7 ls (.int x :: st) σ = np_X 11 9 ls (.ref σ.2.1 :: st) (nv_mk σ (.inl (0, x.toNatClampNeg, .inl (fun _ => 0))) x.toNatClampNeg) := np_op k11 rfl (by simp only [nv_newi]; rw [if_pos ⟨h, h1, h2, h3⟩])
theorem e11_9 {ls : nv_Ls} {st : List Value} {σ : nv_St} {a : Nat} {v : Value} : np_X 11 9 ls (v :: .ref a :: st) σ = np_b (nv_sto σ 1 0 (.array .char) a v) (fun σ' => np_X 11 12 ls st σ') := np_put k11 rfl
theorem e11_12 (x : Nat) {st : List Value} {σ : nv_St} : np_X 11 12 [some (.ref x)] st σ = np_X 11 13 [some (.ref x)] (.ref x :: st) σ := np_op k11 rfl rfl
theorem e11_12u  {st : List Value} {σ : nv_St} : np_X 11 12 [some .null] st σ = np_X 11 13 [some .null] (.null :: st) σ := np_op k11 rfl rfl
theorem e11_13 {ls : nv_Ls} {st : List Value} {σ : nv_St} : np_X 11 13 ls st σ = np_X 11 14 ls (.int (5) :: st) σ := np_op k11 rfl rfl
theorem e11_14 {ls : nv_Ls} {st : List Value} {σ : nv_St} {x : Int32} (h : σ.2.2.1 = 0) (h1 : σ.2.1 < 1000000) (h2 : ¬ x < 0) (h3 : x.toNatClampNeg ≤ 1000) : np_X 11 14 ls (.int x :: st) σ = np_X 11 16 ls (.ref σ.2.1 :: st) (nv_mk σ (.inl (1, x.toNatClampNeg, .inl (fun _ => 0))) x.toNatClampNeg) := np_op k11 rfl (by simp only [nv_newi]; rw [if_pos ⟨h, h1, h2, h3⟩])
theorem e11_16 {ls : nv_Ls} {st : List Value} {σ : nv_St} {a : Nat} {v : Value} : np_X 11 16 ls (v :: .ref a :: st) σ = np_b (nv_sto σ 1 1 (.array .int) a v) (fun σ' => np_X 11 19 ls st σ') := np_put k11 rfl
theorem e11_19 (x : Nat) {st : List Value} {σ : nv_St} : np_X 11 19 [some (.ref x)] st σ = np_X 11 20 [some (.ref x)] (.ref x :: st) σ := np_op k11 rfl rfl
theorem e11_19u  {st : List Value} {σ : nv_St} : np_X 11 19 [some .null] st σ = np_X 11 20 [some .null] (.null :: st) σ := np_op k11 rfl rfl
theorem e11_20 {ls : nv_Ls} {st : List Value} {σ : nv_St} : np_X 11 20 ls st σ = np_X 11 21 ls (.int (0) :: st) σ := np_op k11 rfl rfl
theorem e11_21 {ls : nv_Ls} {st : List Value} {σ : nv_St} {a : Nat} {v : Value} : np_X 11 21 ls (v :: .ref a :: st) σ = np_b (nv_sto σ 1 2 .int a v) (fun σ' => np_X 11 24 ls st σ') := np_put k11 rfl
theorem e11_24 (x : Nat) {st : List Value} {σ : nv_St} : np_X 11 24 [some (.ref x)] st σ = np_X 11 25 [some (.ref x)] (.ref x :: st) σ := np_op k11 rfl rfl
theorem e11_24u  {st : List Value} {σ : nv_St} : np_X 11 24 [some .null] st σ = np_X 11 25 [some .null] (.null :: st) σ := np_op k11 rfl rfl
theorem e11_25 {ls : nv_Ls} {st : List Value} {σ : nv_St} : np_X 11 25 ls st σ = np_X 11 26 ls (.int (0) :: st) σ := np_op k11 rfl rfl
theorem e11_26 {ls : nv_Ls} {st : List Value} {σ : nv_St} {a : Nat} {v : Value} : np_X 11 26 ls (v :: .ref a :: st) σ = np_b (nv_sto σ 1 3 .int a v) (fun σ' => np_X 11 29 ls st σ') := np_put k11 rfl
theorem e11_29 (x : Nat) {st : List Value} {σ : nv_St} : np_X 11 29 [some (.ref x)] st σ = np_X 11 30 [some (.ref x)] (.ref x :: st) σ := np_op k11 rfl rfl
theorem e11_29u  {st : List Value} {σ : nv_St} : np_X 11 29 [some .null] st σ = np_X 11 30 [some .null] (.null :: st) σ := np_op k11 rfl rfl
theorem e11_30 {ls : nv_Ls} {st : List Value} {σ : nv_St} : np_X 11 30 ls st σ = np_X 11 31 ls (.int (0) :: st) σ := np_op k11 rfl rfl
theorem e11_31 {ls : nv_Ls} {st : List Value} {σ : nv_St} {a : Nat} {v : Value} : np_X 11 31 ls (v :: .ref a :: st) σ = np_b (nv_sto σ 1 4 .int a v) (fun σ' => np_X 11 34 ls st σ') := np_put k11 rfl
theorem e11_34 (x : Nat) {st : List Value} {σ : nv_St} : np_X 11 34 [some (.ref x)] st σ = np_X 11 35 [some (.ref x)] (.ref x :: st) σ := np_op k11 rfl rfl
theorem e11_34u  {st : List Value} {σ : nv_St} : np_X 11 34 [some .null] st σ = np_X 11 35 [some .null] (.null :: st) σ := np_op k11 rfl rfl
theorem e11_35 {ls : nv_Ls} {st : List Value} {σ : nv_St} : np_X 11 35 ls st σ = np_X 11 36 ls (.int (0) :: st) σ := np_op k11 rfl rfl
theorem e11_36 {ls : nv_Ls} {st : List Value} {σ : nv_St} {a : Nat} {v : Value} : np_X 11 36 ls (v :: .ref a :: st) σ = np_b (nv_sto σ 1 5 .int a v) (fun σ' => np_X 11 39 ls st σ') := np_put k11 rfl
theorem e11_39 (x : Nat) {st : List Value} {σ : nv_St} : np_X 11 39 [some (.ref x)] st σ = np_X 11 40 [some (.ref x)] (.ref x :: st) σ := np_op k11 rfl rfl
theorem e11_39u  {st : List Value} {σ : nv_St} : np_X 11 39 [some .null] st σ = np_X 11 40 [some .null] (.null :: st) σ := np_op k11 rfl rfl
theorem e11_40 {ls : nv_Ls} {st : List Value} {σ : nv_St} : np_X 11 40 ls st σ = np_X 11 43 ls (.ref 1000207 :: st) σ := np_op k11 rfl rfl
theorem e11_43 {ls : nv_Ls} {st : List Value} {σ : nv_St} {a : Nat} {v : Value} : np_X 11 43 ls (v :: .ref a :: st) σ = np_b (nv_sto σ 1 6 (.object "SpoonNavy$Form") a v) (fun σ' => np_X 11 46 ls st σ') := np_put k11 rfl
theorem e11_46 {ls : nv_Ls} {σ : nv_St} : np_X 11 46 ls [] σ = some (.inl none, σ) := np_ret k11 rfl rfl
-- 12 SpoonNavy$CommandText.isFull
theorem k12 : np_P.1 12 = np_c12 := rfl
theorem e12_0 (x : Nat) {st : List Value} {σ : nv_St} : np_X 12 0 [some (.ref x)] st σ = np_X 12 1 [some (.ref x)] (.ref x :: st) σ := np_op k12 rfl rfl
theorem e12_0u  {st : List Value} {σ : nv_St} : np_X 12 0 [some .null] st σ = np_X 12 1 [some .null] (.null :: st) σ := np_op k12 rfl rfl
theorem e12_1 {ls : nv_Ls} {st : List Value} {σ : nv_St} {a : Nat} : np_X 12 1 ls (.ref a :: st) σ = np_b (nv_fld σ 1 2 a) (fun v => np_X 12 4 ls (v :: st) σ) := np_get k12 rfl
theorem e12_4 (x : Nat) {st : List Value} {σ : nv_St} : np_X 12 4 [some (.ref x)] st σ = np_X 12 5 [some (.ref x)] (.ref x :: st) σ := np_op k12 rfl rfl
theorem e12_4u  {st : List Value} {σ : nv_St} : np_X 12 4 [some .null] st σ = np_X 12 5 [some .null] (.null :: st) σ := np_op k12 rfl rfl
theorem e12_5 {ls : nv_Ls} {st : List Value} {σ : nv_St} {a : Nat} : np_X 12 5 ls (.ref a :: st) σ = np_b (nv_fld σ 1 0 a) (fun v => np_X 12 8 ls (v :: st) σ) := np_get k12 rfl
theorem e12_8 {ls : nv_Ls} {st : List Value} {σ : nv_St} {a : Nat} : np_X 12 8 ls (.ref a :: st) σ = np_b (nv_len σ 0 a) (fun m => np_X 12 9 ls (.int (Int32.ofNat m) :: st) σ) := np_alen k12 rfl
theorem e12_9 {ls : nv_Ls} {st : List Value} {σ : nv_St} {x y : Int32} : np_X 12 9 ls (.int y :: .int x :: st) σ = if x < y then np_X 12 16 ls st σ else np_X 12 12 ls st σ := np_br inferInstance k12 rfl rfl
theorem e12_12 {ls : nv_Ls} {st : List Value} {σ : nv_St} : np_X 12 12 ls st σ = np_X 12 13 ls (.int (1) :: st) σ := np_op k12 rfl rfl
theorem e12_13 {ls : nv_Ls} {st : List Value} {σ : nv_St} : np_X 12 13 ls st σ = np_X 12 17 ls st σ := np_op k12 rfl rfl
theorem e12_16 {ls : nv_Ls} {st : List Value} {σ : nv_St} : np_X 12 16 ls st σ = np_X 12 17 ls (.int (0) :: st) σ := np_op k12 rfl rfl
theorem e12_17 {ls : nv_Ls} {σ : nv_St} {x : Int32} (h : narrow .boolean (.int x) = .int x) : np_X 12 17 ls [.int x] σ = some (.inl (some (.int x)), σ) := np_reti k12 rfl h
-- 13 SpoonNavy$CommandText.add
theorem k13 : np_P.1 13 = np_c13 := rfl
theorem e13_0 (x : Nat) {l1 : Option Value} {st : List Value} {σ : nv_St} : np_X 13 0 [some (.ref x), l1] st σ = np_X 13 1 [some (.ref x), l1] (.ref x :: st) σ := np_op k13 rfl rfl
theorem e13_0u  {l1 : Option Value} {st : List Value} {σ : nv_St} : np_X 13 0 [some .null, l1] st σ = np_X 13 1 [some .null, l1] (.null :: st) σ := np_op k13 rfl rfl
theorem e13_1 {ls : nv_Ls} {st : List Value} {σ : nv_St} {a : Nat} : np_X 13 1 ls (.ref a :: st) σ = np_b (nv_fld σ 1 2 a) (fun v => np_X 13 4 ls (v :: st) σ) := np_get k13 rfl
theorem e13_4 {ls : nv_Ls} {st : List Value} {σ : nv_St} {x : Int32} : np_X 13 4 ls (.int x :: st) σ = if x < 0 then np_X 13 39 ls st σ else np_X 13 7 ls st σ := np_br inferInstance k13 rfl rfl
theorem e13_7 (x : Nat) {l1 : Option Value} {st : List Value} {σ : nv_St} : np_X 13 7 [some (.ref x), l1] st σ = np_X 13 8 [some (.ref x), l1] (.ref x :: st) σ := np_op k13 rfl rfl
theorem e13_7u  {l1 : Option Value} {st : List Value} {σ : nv_St} : np_X 13 7 [some .null, l1] st σ = np_X 13 8 [some .null, l1] (.null :: st) σ := np_op k13 rfl rfl
theorem e13_8 {ls : nv_Ls} {st : List Value} {σ : nv_St} {a : Nat} : np_X 13 8 ls (.ref a :: st) σ = np_b (nv_fld σ 1 2 a) (fun v => np_X 13 11 ls (v :: st) σ) := np_get k13 rfl
theorem e13_11 (x : Nat) {l1 : Option Value} {st : List Value} {σ : nv_St} : np_X 13 11 [some (.ref x), l1] st σ = np_X 13 12 [some (.ref x), l1] (.ref x :: st) σ := np_op k13 rfl rfl
theorem e13_11u  {l1 : Option Value} {st : List Value} {σ : nv_St} : np_X 13 11 [some .null, l1] st σ = np_X 13 12 [some .null, l1] (.null :: st) σ := np_op k13 rfl rfl
theorem e13_12 {ls : nv_Ls} {st : List Value} {σ : nv_St} {a : Nat} : np_X 13 12 ls (.ref a :: st) σ = np_b (nv_fld σ 1 0 a) (fun v => np_X 13 15 ls (v :: st) σ) := np_get k13 rfl
theorem e13_15 {ls : nv_Ls} {st : List Value} {σ : nv_St} {a : Nat} : np_X 13 15 ls (.ref a :: st) σ = np_b (nv_len σ 0 a) (fun m => np_X 13 16 ls (.int (Int32.ofNat m) :: st) σ) := np_alen k13 rfl
theorem e13_16 {ls : nv_Ls} {st : List Value} {σ : nv_St} {x y : Int32} : np_X 13 16 ls (.int y :: .int x :: st) σ = if x < y then np_X 13 19 ls st σ else np_X 13 39 ls st σ := np_br inferInstance k13 rfl rfl
theorem e13_19 (x : Nat) {l1 : Option Value} {st : List Value} {σ : nv_St} : np_X 13 19 [some (.ref x), l1] st σ = np_X 13 20 [some (.ref x), l1] (.ref x :: st) σ := np_op k13 rfl rfl
theorem e13_19u  {l1 : Option Value} {st : List Value} {σ : nv_St} : np_X 13 19 [some .null, l1] st σ = np_X 13 20 [some .null, l1] (.null :: st) σ := np_op k13 rfl rfl
theorem e13_20 {ls : nv_Ls} {st : List Value} {σ : nv_St} {a : Nat} : np_X 13 20 ls (.ref a :: st) σ = np_b (nv_fld σ 1 0 a) (fun v => np_X 13 23 ls (v :: st) σ) := np_get k13 rfl
theorem e13_23 (x : Nat) {l1 : Option Value} {st : List Value} {σ : nv_St} : np_X 13 23 [some (.ref x), l1] st σ = np_X 13 24 [some (.ref x), l1] (.ref x :: st) σ := np_op k13 rfl rfl
theorem e13_23u  {l1 : Option Value} {st : List Value} {σ : nv_St} : np_X 13 23 [some .null, l1] st σ = np_X 13 24 [some .null, l1] (.null :: st) σ := np_op k13 rfl rfl
theorem e13_24 {ls : nv_Ls} {st : List Value} {σ : nv_St} {a : Nat} : np_X 13 24 ls (.ref a :: st) σ = np_b (nv_fld σ 1 2 a) (fun v => np_X 13 27 ls (v :: st) σ) := np_get k13 rfl
theorem e13_27 (x : Int32) {l0 : Option Value} {st : List Value} {σ : nv_St} : np_X 13 27 [l0, some (.int x)] st σ = np_X 13 28 [l0, some (.int x)] (.int x :: st) σ := np_op k13 rfl rfl
theorem e13_28 {ls : nv_Ls} {st : List Value} {σ : nv_St} {a : Nat} {x v : Int32} : np_X 13 28 ls (.int v :: .int x :: .ref a :: st) σ = np_b (nv_wri σ 0 a x (vp_nar .char v)) (fun σ' => np_X 13 29 ls st σ') := np_cast k13 rfl
theorem e13_29 (x : Nat) {l1 : Option Value} {st : List Value} {σ : nv_St} : np_X 13 29 [some (.ref x), l1] st σ = np_X 13 30 [some (.ref x), l1] (.ref x :: st) σ := np_op k13 rfl rfl
theorem e13_29u  {l1 : Option Value} {st : List Value} {σ : nv_St} : np_X 13 29 [some .null, l1] st σ = np_X 13 30 [some .null, l1] (.null :: st) σ := np_op k13 rfl rfl
theorem e13_30 {ls : nv_Ls} {st : List Value} {σ : nv_St} {x : Nat} : np_X 13 30 ls (.ref x :: st) σ = np_X 13 31 ls (.ref x :: .ref x :: st) σ := np_op k13 rfl rfl
theorem e13_30i {ls : nv_Ls} {st : List Value} {σ : nv_St} {x : Int32} : np_X 13 30 ls (.int x :: st) σ = np_X 13 31 ls (.int x :: .int x :: st) σ := np_op k13 rfl rfl
theorem e13_31 {ls : nv_Ls} {st : List Value} {σ : nv_St} {a : Nat} : np_X 13 31 ls (.ref a :: st) σ = np_b (nv_fld σ 1 2 a) (fun v => np_X 13 34 ls (v :: st) σ) := np_get k13 rfl
theorem e13_34 {ls : nv_Ls} {st : List Value} {σ : nv_St} : np_X 13 34 ls st σ = np_X 13 35 ls (.int (1) :: st) σ := np_op k13 rfl rfl
theorem e13_35 {ls : nv_Ls} {st : List Value} {σ : nv_St} {x y : Int32} : np_X 13 35 ls (.int y :: .int x :: st) σ = np_X 13 36 ls (.int (x + y) :: st) σ := np_op k13 rfl rfl
theorem e13_36 {ls : nv_Ls} {st : List Value} {σ : nv_St} {a : Nat} {v : Value} : np_X 13 36 ls (v :: .ref a :: st) σ = np_b (nv_sto σ 1 2 .int a v) (fun σ' => np_X 13 39 ls st σ') := np_put k13 rfl
theorem e13_39 (x : Nat) {l1 : Option Value} {st : List Value} {σ : nv_St} : np_X 13 39 [some (.ref x), l1] st σ = np_X 13 40 [some (.ref x), l1] (.ref x :: st) σ := np_op k13 rfl rfl
theorem e13_39u  {l1 : Option Value} {st : List Value} {σ : nv_St} : np_X 13 39 [some .null, l1] st σ = np_X 13 40 [some .null, l1] (.null :: st) σ := np_op k13 rfl rfl
theorem e13_40 {ls : nv_Ls} {st : List Value} {σ : nv_St} {a : Nat} : np_X 13 40 ls (.ref a :: st) σ = np_b (nv_fld σ 1 2 a) (fun v => np_X 13 43 ls (v :: st) σ) := np_get k13 rfl
theorem e13_43 {ls : nv_Ls} {σ : nv_St} {x : Int32} : np_X 13 43 ls [.int x] σ = some (.inl (some (.int x)), σ) := np_reti k13 rfl rfl
-- 14 SpoonNavy$CommandText.clear
theorem k14 : np_P.1 14 = np_c14 := rfl
theorem e14_0 (x : Nat) {st : List Value} {σ : nv_St} : np_X 14 0 [some (.ref x)] st σ = np_X 14 1 [some (.ref x)] (.ref x :: st) σ := np_op k14 rfl rfl
theorem e14_0u  {st : List Value} {σ : nv_St} : np_X 14 0 [some .null] st σ = np_X 14 1 [some .null] (.null :: st) σ := np_op k14 rfl rfl
theorem e14_1 {ls : nv_Ls} {st : List Value} {σ : nv_St} : np_X 14 1 ls st σ = np_X 14 2 ls (.int (0) :: st) σ := np_op k14 rfl rfl
theorem e14_2 {ls : nv_Ls} {st : List Value} {σ : nv_St} {a : Nat} {v : Value} : np_X 14 2 ls (v :: .ref a :: st) σ = np_b (nv_sto σ 1 2 .int a v) (fun σ' => np_X 14 5 ls st σ') := np_put k14 rfl
theorem e14_5 {ls : nv_Ls} {σ : nv_St} : np_X 14 5 ls [] σ = some (.inl none, σ) := np_ret k14 rfl rfl
-- 15 SpoonNavy$CommandText.rewind
theorem k15 : np_P.1 15 = np_c15 := rfl
theorem e15_0 (x : Nat) {st : List Value} {σ : nv_St} : np_X 15 0 [some (.ref x)] st σ = np_X 15 1 [some (.ref x)] (.ref x :: st) σ := np_op k15 rfl rfl
theorem e15_0u  {st : List Value} {σ : nv_St} : np_X 15 0 [some .null] st σ = np_X 15 1 [some .null] (.null :: st) σ := np_op k15 rfl rfl
theorem e15_1 {ls : nv_Ls} {st : List Value} {σ : nv_St} : np_X 15 1 ls st σ = np_X 15 2 ls (.int (0) :: st) σ := np_op k15 rfl rfl
theorem e15_2 {ls : nv_Ls} {st : List Value} {σ : nv_St} {a : Nat} {v : Value} : np_X 15 2 ls (v :: .ref a :: st) σ = np_b (nv_sto σ 1 3 .int a v) (fun σ' => np_X 15 5 ls st σ') := np_put k15 rfl
theorem e15_5 {ls : nv_Ls} {σ : nv_St} : np_X 15 5 ls [] σ = some (.inl none, σ) := np_ret k15 rfl rfl
-- 16 SpoonNavy$CommandText.countCommands
theorem k16 : np_P.1 16 = np_c16 := rfl
theorem e16_0 (x : Nat) {l1 : Option Value} {st : List Value} {σ : nv_St} : np_X 16 0 [some (.ref x), l1] st σ = np_X 16 1 [some (.ref x), l1] (.ref x :: st) σ := np_op k16 rfl rfl
theorem e16_0u  {l1 : Option Value} {st : List Value} {σ : nv_St} : np_X 16 0 [some .null, l1] st σ = np_X 16 1 [some .null, l1] (.null :: st) σ := np_op k16 rfl rfl
theorem e16_1 {ls : nv_Ls} {st : List Value} {σ : nv_St} {a : Nat}  (h : st.length ≤ 4) (h0 : nv_isO σ 1 a = true) : np_X 16 1 ls (.ref a :: st) σ = np_aft 16 1 4 ls st (np_X 15 0 [some (.ref a)] [] σ) := np_call k16 rfl (Nat.le_add_left 1 _) rfl rfl h rfl h0 rfl
theorem e16_4 {ls : nv_Ls} {st : List Value} {σ : nv_St} : np_X 16 4 ls st σ = np_X 16 5 ls (.int (1) :: st) σ := np_op k16 rfl rfl
theorem e16_5n (x : Int32) {l1 : Option Value} {st : List Value} {σ : nv_St} : np_X 16 5 [none, l1] (.int x :: st) σ = np_X 16 6 [none, some (.int x)] st σ := np_op k16 rfl rfl
theorem e16_5i (x : Int32) {z : Int32} {l1 : Option Value} {st : List Value} {σ : nv_St} : np_X 16 5 [some (.int z), l1] (.int x :: st) σ = np_X 16 6 [some (.int z), some (.int x)] st σ := np_op k16 rfl rfl
theorem e16_5r (x : Int32) {z : Nat} {l1 : Option Value} {st : List Value} {σ : nv_St} : np_X 16 5 [some (.ref z), l1] (.int x :: st) σ = np_X 16 6 [some (.ref z), some (.int x)] st σ := np_op k16 rfl rfl
theorem e16_5v (x : Int32) {l1 : Option Value} {st : List Value} {σ : nv_St} : np_X 16 5 [some .null, l1] (.int x :: st) σ = np_X 16 6 [some .null, some (.int x)] st σ := np_op k16 rfl rfl
theorem e16_6 (x : Int32) {l0 : Option Value} {st : List Value} {σ : nv_St} : np_X 16 6 [l0, some (.int x)] st σ = np_X 16 7 [l0, some (.int x)] (.int x :: st) σ := np_op k16 rfl rfl
theorem e16_7 {ls : nv_Ls} {st : List Value} {σ : nv_St} : np_X 16 7 ls st σ = np_X 16 9 ls (.int (60) :: st) σ := np_op k16 rfl rfl
theorem e16_9 {ls : nv_Ls} {st : List Value} {σ : nv_St} {x y : Int32} : np_X 16 9 ls (.int y :: .int x :: st) σ = if y < x then np_X 16 49 ls st σ else np_X 16 12 ls st σ := np_br inferInstance k16 rfl rfl
theorem e16_12 (x : Nat) {l1 : Option Value} {st : List Value} {σ : nv_St} : np_X 16 12 [some (.ref x), l1] st σ = np_X 16 13 [some (.ref x), l1] (.ref x :: st) σ := np_op k16 rfl rfl
theorem e16_12u  {l1 : Option Value} {st : List Value} {σ : nv_St} : np_X 16 12 [some .null, l1] st σ = np_X 16 13 [some .null, l1] (.null :: st) σ := np_op k16 rfl rfl
theorem e16_13 {ls : nv_Ls} {st : List Value} {σ : nv_St} {a : Nat}  (h : st.length ≤ 4) (h0 : nv_isO σ 1 a = true) : np_X 16 13 ls (.ref a :: st) σ = np_aft 16 13 16 ls st (np_X 18 0 [some (.ref a), none, none, none, none, none] [] σ) := np_call k16 rfl (Nat.le_add_left 1 _) rfl rfl h rfl h0 rfl
theorem e16_16 {ls : nv_Ls} {st : List Value} {σ : nv_St} {x : Int32} : np_X 16 16 ls (.int x :: st) σ = if x = 0 then np_X 16 19 ls st σ else np_X 16 21 ls st σ := np_br inferInstance k16 rfl rfl
theorem e16_19 {ls : nv_Ls} {st : List Value} {σ : nv_St} : np_X 16 19 ls st σ = np_X 16 20 ls (.int (-1) :: st) σ := np_op k16 rfl rfl
theorem e16_20 {ls : nv_Ls} {σ : nv_St} {x : Int32} : np_X 16 20 ls [.int x] σ = some (.inl (some (.int x)), σ) := np_reti k16 rfl rfl
theorem e16_21 (x : Nat) {l1 : Option Value} {st : List Value} {σ : nv_St} : np_X 16 21 [some (.ref x), l1] st σ = np_X 16 22 [some (.ref x), l1] (.ref x :: st) σ := np_op k16 rfl rfl
theorem e16_21u  {l1 : Option Value} {st : List Value} {σ : nv_St} : np_X 16 21 [some .null, l1] st σ = np_X 16 22 [some .null, l1] (.null :: st) σ := np_op k16 rfl rfl
theorem e16_22 {ls : nv_Ls} {st : List Value} {σ : nv_St} {a : Nat} : np_X 16 22 ls (.ref a :: st) σ = np_b (nv_fld σ 1 3 a) (fun v => np_X 16 25 ls (v :: st) σ) := np_get k16 rfl
theorem e16_25 (x : Nat) {l1 : Option Value} {st : List Value} {σ : nv_St} : np_X 16 25 [some (.ref x), l1] st σ = np_X 16 26 [some (.ref x), l1] (.ref x :: st) σ := np_op k16 rfl rfl
theorem e16_25u  {l1 : Option Value} {st : List Value} {σ : nv_St} : np_X 16 25 [some .null, l1] st σ = np_X 16 26 [some .null, l1] (.null :: st) σ := np_op k16 rfl rfl
theorem e16_26 {ls : nv_Ls} {st : List Value} {σ : nv_St} {a : Nat} : np_X 16 26 ls (.ref a :: st) σ = np_b (nv_fld σ 1 2 a) (fun v => np_X 16 29 ls (v :: st) σ) := np_get k16 rfl
theorem e16_29 {ls : nv_Ls} {st : List Value} {σ : nv_St} {x y : Int32} : np_X 16 29 ls (.int y :: .int x :: st) σ = if x = y then np_X 16 32 ls st σ else np_X 16 34 ls st σ := np_br inferInstance k16 rfl rfl
theorem e16_32 (x : Int32) {l0 : Option Value} {st : List Value} {σ : nv_St} : np_X 16 32 [l0, some (.int x)] st σ = np_X 16 33 [l0, some (.int x)] (.int x :: st) σ := np_op k16 rfl rfl
theorem e16_33 {ls : nv_Ls} {σ : nv_St} {x : Int32} : np_X 16 33 ls [.int x] σ = some (.inl (some (.int x)), σ) := np_reti k16 rfl rfl
theorem e16_34 (x : Nat) {l1 : Option Value} {st : List Value} {σ : nv_St} : np_X 16 34 [some (.ref x), l1] st σ = np_X 16 35 [some (.ref x), l1] (.ref x :: st) σ := np_op k16 rfl rfl
theorem e16_34u  {l1 : Option Value} {st : List Value} {σ : nv_St} : np_X 16 34 [some .null, l1] st σ = np_X 16 35 [some .null, l1] (.null :: st) σ := np_op k16 rfl rfl
theorem e16_35 {ls : nv_Ls} {st : List Value} {σ : nv_St} {a : Nat}  (h : st.length ≤ 4) (h0 : nv_isO σ 1 a = true) : np_X 16 35 ls (.ref a :: st) σ = np_aft 16 35 38 ls st (np_X 17 0 [some (.ref a)] [] σ) := np_call k16 rfl (Nat.le_add_left 1 _) rfl rfl h rfl h0 rfl
theorem e16_38 {ls : nv_Ls} {st : List Value} {σ : nv_St} {x : Int32} : np_X 16 38 ls (.int x :: st) σ = if x = 0 then np_X 16 41 ls st σ else np_X 16 43 ls st σ := np_br inferInstance k16 rfl rfl
theorem e16_41 {ls : nv_Ls} {st : List Value} {σ : nv_St} : np_X 16 41 ls st σ = np_X 16 42 ls (.int (-1) :: st) σ := np_op k16 rfl rfl
theorem e16_42 {ls : nv_Ls} {σ : nv_St} {x : Int32} : np_X 16 42 ls [.int x] σ = some (.inl (some (.int x)), σ) := np_reti k16 rfl rfl
theorem e16_43n (x : Int32) {st : List Value} {σ : nv_St} : np_X 16 43 [none, some (.int x)] st σ = np_X 16 46 [none, some (.int (x + (1)))] st σ := np_op k16 rfl rfl
theorem e16_43i (x : Int32) {z : Int32} {st : List Value} {σ : nv_St} : np_X 16 43 [some (.int z), some (.int x)] st σ = np_X 16 46 [some (.int z), some (.int (x + (1)))] st σ := np_op k16 rfl rfl
theorem e16_43r (x : Int32) {z : Nat} {st : List Value} {σ : nv_St} : np_X 16 43 [some (.ref z), some (.int x)] st σ = np_X 16 46 [some (.ref z), some (.int (x + (1)))] st σ := np_op k16 rfl rfl
theorem e16_43v (x : Int32) {st : List Value} {σ : nv_St} : np_X 16 43 [some .null, some (.int x)] st σ = np_X 16 46 [some .null, some (.int (x + (1)))] st σ := np_op k16 rfl rfl
theorem e16_46 {ls : nv_Ls} {st : List Value} {σ : nv_St} : np_X 16 46 ls st σ = np_X 16 6 ls st σ := np_op k16 rfl rfl
theorem e16_49 {ls : nv_Ls} {st : List Value} {σ : nv_St} : np_X 16 49 ls st σ = np_X 16 50 ls (.int (-1) :: st) σ := np_op k16 rfl rfl
theorem e16_50 {ls : nv_Ls} {σ : nv_St} {x : Int32} : np_X 16 50 ls [.int x] σ = some (.inl (some (.int x)), σ) := np_reti k16 rfl rfl
-- 17 SpoonNavy$CommandText.skipSeparator
theorem k17 : np_P.1 17 = np_c17 := rfl
theorem e17_0 (x : Nat) {st : List Value} {σ : nv_St} : np_X 17 0 [some (.ref x)] st σ = np_X 17 1 [some (.ref x)] (.ref x :: st) σ := np_op k17 rfl rfl
theorem e17_0u  {st : List Value} {σ : nv_St} : np_X 17 0 [some .null] st σ = np_X 17 1 [some .null] (.null :: st) σ := np_op k17 rfl rfl
theorem e17_1 (x : Nat) {st : List Value} {σ : nv_St} : np_X 17 1 [some (.ref x)] st σ = np_X 17 2 [some (.ref x)] (.ref x :: st) σ := np_op k17 rfl rfl
theorem e17_1u  {st : List Value} {σ : nv_St} : np_X 17 1 [some .null] st σ = np_X 17 2 [some .null] (.null :: st) σ := np_op k17 rfl rfl
theorem e17_2 {ls : nv_Ls} {st : List Value} {σ : nv_St} {a : Nat} : np_X 17 2 ls (.ref a :: st) σ = np_b (nv_fld σ 1 3 a) (fun v => np_X 17 5 ls (v :: st) σ) := np_get k17 rfl
theorem e17_5 {ls : nv_Ls} {st : List Value} {σ : nv_St} : np_X 17 5 ls st σ = np_X 17 7 ls (.int (59) :: st) σ := np_op k17 rfl rfl
theorem e17_7 {ls : nv_Ls} {st : List Value} {σ : nv_St} {a : Nat} {x0 : Int32} {x1 : Int32} (h : st.length ≤ 4) (h0 : nv_isO σ 1 a = true) : np_X 17 7 ls (.int x1 :: .int x0 :: .ref a :: st) σ = np_aft 17 7 10 ls st (np_X 23 0 [some (.ref a), some (.int x0), some (.int x1)] [] σ) := np_call k17 rfl (Nat.le_add_left 3 _) rfl rfl h rfl h0 rfl
theorem e17_10 {ls : nv_Ls} {st : List Value} {σ : nv_St} {x : Int32} : np_X 17 10 ls (.int x :: st) σ = if x = 0 then np_X 17 13 ls st σ else np_X 17 15 ls st σ := np_br inferInstance k17 rfl rfl
theorem e17_13 {ls : nv_Ls} {st : List Value} {σ : nv_St} : np_X 17 13 ls st σ = np_X 17 14 ls (.int (0) :: st) σ := np_op k17 rfl rfl
theorem e17_14 {ls : nv_Ls} {σ : nv_St} {x : Int32} (h : narrow .boolean (.int x) = .int x) : np_X 17 14 ls [.int x] σ = some (.inl (some (.int x)), σ) := np_reti k17 rfl h
theorem e17_15 (x : Nat) {st : List Value} {σ : nv_St} : np_X 17 15 [some (.ref x)] st σ = np_X 17 16 [some (.ref x)] (.ref x :: st) σ := np_op k17 rfl rfl
theorem e17_15u  {st : List Value} {σ : nv_St} : np_X 17 15 [some .null] st σ = np_X 17 16 [some .null] (.null :: st) σ := np_op k17 rfl rfl
theorem e17_16 {ls : nv_Ls} {st : List Value} {σ : nv_St} {x : Nat} : np_X 17 16 ls (.ref x :: st) σ = np_X 17 17 ls (.ref x :: .ref x :: st) σ := np_op k17 rfl rfl
theorem e17_16i {ls : nv_Ls} {st : List Value} {σ : nv_St} {x : Int32} : np_X 17 16 ls (.int x :: st) σ = np_X 17 17 ls (.int x :: .int x :: st) σ := np_op k17 rfl rfl
theorem e17_17 {ls : nv_Ls} {st : List Value} {σ : nv_St} {a : Nat} : np_X 17 17 ls (.ref a :: st) σ = np_b (nv_fld σ 1 3 a) (fun v => np_X 17 20 ls (v :: st) σ) := np_get k17 rfl
theorem e17_20 {ls : nv_Ls} {st : List Value} {σ : nv_St} : np_X 17 20 ls st σ = np_X 17 21 ls (.int (1) :: st) σ := np_op k17 rfl rfl
theorem e17_21 {ls : nv_Ls} {st : List Value} {σ : nv_St} {x y : Int32} : np_X 17 21 ls (.int y :: .int x :: st) σ = np_X 17 22 ls (.int (x + y) :: st) σ := np_op k17 rfl rfl
theorem e17_22 {ls : nv_Ls} {st : List Value} {σ : nv_St} {a : Nat} {v : Value} : np_X 17 22 ls (v :: .ref a :: st) σ = np_b (nv_sto σ 1 3 .int a v) (fun σ' => np_X 17 25 ls st σ') := np_put k17 rfl
theorem e17_25 {ls : nv_Ls} {st : List Value} {σ : nv_St} : np_X 17 25 ls st σ = np_X 17 26 ls (.int (1) :: st) σ := np_op k17 rfl rfl
theorem e17_26 {ls : nv_Ls} {σ : nv_St} {x : Int32} (h : narrow .boolean (.int x) = .int x) : np_X 17 26 ls [.int x] σ = some (.inl (some (.int x)), σ) := np_reti k17 rfl h
-- 18 SpoonNavy$CommandText.readCommand
theorem k18 : np_P.1 18 = np_c18 := rfl
theorem e18_0 (x : Nat) {l1 l2 l3 l4 l5 : Option Value} {st : List Value} {σ : nv_St} : np_X 18 0 [some (.ref x), l1, l2, l3, l4, l5] st σ = np_X 18 1 [some (.ref x), l1, l2, l3, l4, l5] (.ref x :: st) σ := np_op k18 rfl rfl
theorem e18_0u  {l1 l2 l3 l4 l5 : Option Value} {st : List Value} {σ : nv_St} : np_X 18 0 [some .null, l1, l2, l3, l4, l5] st σ = np_X 18 1 [some .null, l1, l2, l3, l4, l5] (.null :: st) σ := np_op k18 rfl rfl
theorem e18_1 {ls : nv_Ls} {st : List Value} {σ : nv_St} {a : Nat} : np_X 18 1 ls (.ref a :: st) σ = np_b (nv_fld σ 1 3 a) (fun v => np_X 18 4 ls (v :: st) σ) := np_get k18 rfl
theorem e18_4n (x : Int32) {l1 l2 l3 l4 l5 : Option Value} {st : List Value} {σ : nv_St} : np_X 18 4 [none, l1, l2, l3, l4, l5] (.int x :: st) σ = np_X 18 5 [none, some (.int x), l2, l3, l4, l5] st σ := np_op k18 rfl rfl
theorem e18_4i (x : Int32) {z : Int32} {l1 l2 l3 l4 l5 : Option Value} {st : List Value} {σ : nv_St} : np_X 18 4 [some (.int z), l1, l2, l3, l4, l5] (.int x :: st) σ = np_X 18 5 [some (.int z), some (.int x), l2, l3, l4, l5] st σ := np_op k18 rfl rfl
theorem e18_4r (x : Int32) {z : Nat} {l1 l2 l3 l4 l5 : Option Value} {st : List Value} {σ : nv_St} : np_X 18 4 [some (.ref z), l1, l2, l3, l4, l5] (.int x :: st) σ = np_X 18 5 [some (.ref z), some (.int x), l2, l3, l4, l5] st σ := np_op k18 rfl rfl
theorem e18_4v (x : Int32) {l1 l2 l3 l4 l5 : Option Value} {st : List Value} {σ : nv_St} : np_X 18 4 [some .null, l1, l2, l3, l4, l5] (.int x :: st) σ = np_X 18 5 [some .null, some (.int x), l2, l3, l4, l5] st σ := np_op k18 rfl rfl
theorem e18_5 {ls : nv_Ls} {st : List Value} {σ : nv_St} : np_X 18 5 ls st σ = np_X 18 8 ls (.ref 1000300 :: st) σ := np_op k18 rfl rfl
theorem e18_8n (x : Nat) {l0 l2 l3 l4 l5 : Option Value} {st : List Value} {σ : nv_St} : np_X 18 8 [l0, none, l2, l3, l4, l5] (.ref x :: st) σ = np_X 18 9 [l0, none, some (.ref x), l3, l4, l5] st σ := np_op k18 rfl rfl
theorem e18_8i (x : Nat) {z : Int32} {l0 l2 l3 l4 l5 : Option Value} {st : List Value} {σ : nv_St} : np_X 18 8 [l0, some (.int z), l2, l3, l4, l5] (.ref x :: st) σ = np_X 18 9 [l0, some (.int z), some (.ref x), l3, l4, l5] st σ := np_op k18 rfl rfl
theorem e18_8r (x : Nat) {z : Nat} {l0 l2 l3 l4 l5 : Option Value} {st : List Value} {σ : nv_St} : np_X 18 8 [l0, some (.ref z), l2, l3, l4, l5] (.ref x :: st) σ = np_X 18 9 [l0, some (.ref z), some (.ref x), l3, l4, l5] st σ := np_op k18 rfl rfl
theorem e18_8v (x : Nat) {l0 l2 l3 l4 l5 : Option Value} {st : List Value} {σ : nv_St} : np_X 18 8 [l0, some .null, l2, l3, l4, l5] (.ref x :: st) σ = np_X 18 9 [l0, some .null, some (.ref x), l3, l4, l5] st σ := np_op k18 rfl rfl
theorem e18_8un  {l0 l2 l3 l4 l5 : Option Value} {st : List Value} {σ : nv_St} : np_X 18 8 [l0, none, l2, l3, l4, l5] (.null :: st) σ = np_X 18 9 [l0, none, some .null, l3, l4, l5] st σ := np_op k18 rfl rfl
theorem e18_8ui  {z : Int32} {l0 l2 l3 l4 l5 : Option Value} {st : List Value} {σ : nv_St} : np_X 18 8 [l0, some (.int z), l2, l3, l4, l5] (.null :: st) σ = np_X 18 9 [l0, some (.int z), some .null, l3, l4, l5] st σ := np_op k18 rfl rfl
theorem e18_8ur  {z : Nat} {l0 l2 l3 l4 l5 : Option Value} {st : List Value} {σ : nv_St} : np_X 18 8 [l0, some (.ref z), l2, l3, l4, l5] (.null :: st) σ = np_X 18 9 [l0, some (.ref z), some .null, l3, l4, l5] st σ := np_op k18 rfl rfl
theorem e18_8uv  {l0 l2 l3 l4 l5 : Option Value} {st : List Value} {σ : nv_St} : np_X 18 8 [l0, some .null, l2, l3, l4, l5] (.null :: st) σ = np_X 18 9 [l0, some .null, some .null, l3, l4, l5] st σ := np_op k18 rfl rfl
theorem e18_9 (x : Nat) {l0 l1 l3 l4 l5 : Option Value} {st : List Value} {σ : nv_St} : np_X 18 9 [l0, l1, some (.ref x), l3, l4, l5] st σ = np_X 18 10 [l0, l1, some (.ref x), l3, l4, l5] (.ref x :: st) σ := np_op k18 rfl rfl
theorem e18_9u  {l0 l1 l3 l4 l5 : Option Value} {st : List Value} {σ : nv_St} : np_X 18 9 [l0, l1, some .null, l3, l4, l5] st σ = np_X 18 10 [l0, l1, some .null, l3, l4, l5] (.null :: st) σ := np_op k18 rfl rfl
theorem e18_10 {ls : nv_Ls} {st : List Value} {σ : nv_St} : np_X 18 10 ls (.ref 1000300 :: st) σ = np_X 18 11 ls (.int 8 :: st) σ := np_op k18 rfl rfl
theorem e18_11n (x : Int32) {l0 l1 l3 l4 l5 : Option Value} {st : List Value} {σ : nv_St} : np_X 18 11 [l0, l1, none, l3, l4, l5] (.int x :: st) σ = np_X 18 12 [l0, l1, none, some (.int x), l4, l5] st σ := np_op k18 rfl rfl
theorem e18_11i (x : Int32) {z : Int32} {l0 l1 l3 l4 l5 : Option Value} {st : List Value} {σ : nv_St} : np_X 18 11 [l0, l1, some (.int z), l3, l4, l5] (.int x :: st) σ = np_X 18 12 [l0, l1, some (.int z), some (.int x), l4, l5] st σ := np_op k18 rfl rfl
theorem e18_11r (x : Int32) {z : Nat} {l0 l1 l3 l4 l5 : Option Value} {st : List Value} {σ : nv_St} : np_X 18 11 [l0, l1, some (.ref z), l3, l4, l5] (.int x :: st) σ = np_X 18 12 [l0, l1, some (.ref z), some (.int x), l4, l5] st σ := np_op k18 rfl rfl
theorem e18_11v (x : Int32) {l0 l1 l3 l4 l5 : Option Value} {st : List Value} {σ : nv_St} : np_X 18 11 [l0, l1, some .null, l3, l4, l5] (.int x :: st) σ = np_X 18 12 [l0, l1, some .null, some (.int x), l4, l5] st σ := np_op k18 rfl rfl
theorem e18_12 {ls : nv_Ls} {st : List Value} {σ : nv_St} : np_X 18 12 ls st σ = np_X 18 13 ls (.int (0) :: st) σ := np_op k18 rfl rfl
theorem e18_13n (x : Int32) {l0 l1 l2 l4 l5 : Option Value} {st : List Value} {σ : nv_St} : np_X 18 13 [l0, l1, l2, none, l4, l5] (.int x :: st) σ = np_X 18 15 [l0, l1, l2, none, some (.int x), l5] st σ := np_op k18 rfl rfl
theorem e18_13i (x : Int32) {z : Int32} {l0 l1 l2 l4 l5 : Option Value} {st : List Value} {σ : nv_St} : np_X 18 13 [l0, l1, l2, some (.int z), l4, l5] (.int x :: st) σ = np_X 18 15 [l0, l1, l2, some (.int z), some (.int x), l5] st σ := np_op k18 rfl rfl
theorem e18_13r (x : Int32) {z : Nat} {l0 l1 l2 l4 l5 : Option Value} {st : List Value} {σ : nv_St} : np_X 18 13 [l0, l1, l2, some (.ref z), l4, l5] (.int x :: st) σ = np_X 18 15 [l0, l1, l2, some (.ref z), some (.int x), l5] st σ := np_op k18 rfl rfl
theorem e18_13v (x : Int32) {l0 l1 l2 l4 l5 : Option Value} {st : List Value} {σ : nv_St} : np_X 18 13 [l0, l1, l2, some .null, l4, l5] (.int x :: st) σ = np_X 18 15 [l0, l1, l2, some .null, some (.int x), l5] st σ := np_op k18 rfl rfl
theorem e18_15 (x : Int32) {l0 l1 l2 l3 l5 : Option Value} {st : List Value} {σ : nv_St} : np_X 18 15 [l0, l1, l2, l3, some (.int x), l5] st σ = np_X 18 17 [l0, l1, l2, l3, some (.int x), l5] (.int x :: st) σ := np_op k18 rfl rfl
theorem e18_17 (x : Int32) {l0 l1 l2 l4 l5 : Option Value} {st : List Value} {σ : nv_St} : np_X 18 17 [l0, l1, l2, some (.int x), l4, l5] st σ = np_X 18 18 [l0, l1, l2, some (.int x), l4, l5] (.int x :: st) σ := np_op k18 rfl rfl
theorem e18_18 {ls : nv_Ls} {st : List Value} {σ : nv_St} {x y : Int32} : np_X 18 18 ls (.int y :: .int x :: st) σ = if x < y then np_X 18 21 ls st σ else np_X 18 70 ls st σ := np_br inferInstance k18 rfl rfl
theorem e18_21 (x : Nat) {l0 l1 l3 l4 l5 : Option Value} {st : List Value} {σ : nv_St} : np_X 18 21 [l0, l1, some (.ref x), l3, l4, l5] st σ = np_X 18 22 [l0, l1, some (.ref x), l3, l4, l5] (.ref x :: st) σ := np_op k18 rfl rfl
theorem e18_21u  {l0 l1 l3 l4 l5 : Option Value} {st : List Value} {σ : nv_St} : np_X 18 21 [l0, l1, some .null, l3, l4, l5] st σ = np_X 18 22 [l0, l1, some .null, l3, l4, l5] (.null :: st) σ := np_op k18 rfl rfl
theorem e18_22 (x : Int32) {l0 l1 l2 l3 l5 : Option Value} {st : List Value} {σ : nv_St} : np_X 18 22 [l0, l1, l2, l3, some (.int x), l5] st σ = np_X 18 24 [l0, l1, l2, l3, some (.int x), l5] (.int x :: st) σ := np_op k18 rfl rfl
theorem e18_24 {ls : nv_Ls} {st : List Value} {σ : nv_St} {x : Int32} (h : ¬ x < 0) : np_X 18 24 ls (.int x :: .ref 1000300 :: st) σ = np_b (nv_fv[x.toNatClampNeg]?) (fun v => np_X 18 25 ls (v :: st) σ) := np_sald k18 rfl h
theorem e18_25n (x : Nat) {l0 l1 l2 l3 l5 : Option Value} {st : List Value} {σ : nv_St} : np_X 18 25 [l0, l1, l2, l3, none, l5] (.ref x :: st) σ = np_X 18 27 [l0, l1, l2, l3, none, some (.ref x)] st σ := np_op k18 rfl rfl
theorem e18_25i (x : Nat) {z : Int32} {l0 l1 l2 l3 l5 : Option Value} {st : List Value} {σ : nv_St} : np_X 18 25 [l0, l1, l2, l3, some (.int z), l5] (.ref x :: st) σ = np_X 18 27 [l0, l1, l2, l3, some (.int z), some (.ref x)] st σ := np_op k18 rfl rfl
theorem e18_25r (x : Nat) {z : Nat} {l0 l1 l2 l3 l5 : Option Value} {st : List Value} {σ : nv_St} : np_X 18 25 [l0, l1, l2, l3, some (.ref z), l5] (.ref x :: st) σ = np_X 18 27 [l0, l1, l2, l3, some (.ref z), some (.ref x)] st σ := np_op k18 rfl rfl
theorem e18_25v (x : Nat) {l0 l1 l2 l3 l5 : Option Value} {st : List Value} {σ : nv_St} : np_X 18 25 [l0, l1, l2, l3, some .null, l5] (.ref x :: st) σ = np_X 18 27 [l0, l1, l2, l3, some .null, some (.ref x)] st σ := np_op k18 rfl rfl
theorem e18_25un  {l0 l1 l2 l3 l5 : Option Value} {st : List Value} {σ : nv_St} : np_X 18 25 [l0, l1, l2, l3, none, l5] (.null :: st) σ = np_X 18 27 [l0, l1, l2, l3, none, some .null] st σ := np_op k18 rfl rfl
theorem e18_25ui  {z : Int32} {l0 l1 l2 l3 l5 : Option Value} {st : List Value} {σ : nv_St} : np_X 18 25 [l0, l1, l2, l3, some (.int z), l5] (.null :: st) σ = np_X 18 27 [l0, l1, l2, l3, some (.int z), some .null] st σ := np_op k18 rfl rfl
theorem e18_25ur  {z : Nat} {l0 l1 l2 l3 l5 : Option Value} {st : List Value} {σ : nv_St} : np_X 18 25 [l0, l1, l2, l3, some (.ref z), l5] (.null :: st) σ = np_X 18 27 [l0, l1, l2, l3, some (.ref z), some .null] st σ := np_op k18 rfl rfl
theorem e18_25uv  {l0 l1 l2 l3 l5 : Option Value} {st : List Value} {σ : nv_St} : np_X 18 25 [l0, l1, l2, l3, some .null, l5] (.null :: st) σ = np_X 18 27 [l0, l1, l2, l3, some .null, some .null] st σ := np_op k18 rfl rfl
theorem e18_27 (x : Nat) {l1 l2 l3 l4 l5 : Option Value} {st : List Value} {σ : nv_St} : np_X 18 27 [some (.ref x), l1, l2, l3, l4, l5] st σ = np_X 18 28 [some (.ref x), l1, l2, l3, l4, l5] (.ref x :: st) σ := np_op k18 rfl rfl
theorem e18_27u  {l1 l2 l3 l4 l5 : Option Value} {st : List Value} {σ : nv_St} : np_X 18 27 [some .null, l1, l2, l3, l4, l5] st σ = np_X 18 28 [some .null, l1, l2, l3, l4, l5] (.null :: st) σ := np_op k18 rfl rfl
theorem e18_28 (x : Nat) {l0 l1 l2 l3 l4 : Option Value} {st : List Value} {σ : nv_St} : np_X 18 28 [l0, l1, l2, l3, l4, some (.ref x)] st σ = np_X 18 30 [l0, l1, l2, l3, l4, some (.ref x)] (.ref x :: st) σ := np_op k18 rfl rfl
theorem e18_28u  {l0 l1 l2 l3 l4 : Option Value} {st : List Value} {σ : nv_St} : np_X 18 28 [l0, l1, l2, l3, l4, some .null] st σ = np_X 18 30 [l0, l1, l2, l3, l4, some .null] (.null :: st) σ := np_op k18 rfl rfl
theorem e18_30 {ls : nv_Ls} {st : List Value} {σ : nv_St} {b : Nat} (h : ¬ b < 1000200) : np_X 18 30 ls (.ref b :: st) σ = np_b (nv_patv[b - 1000200]?) (fun v => np_X 18 33 ls (v :: st) σ) := np_sget k18 rfl h
theorem e18_33 {ls : nv_Ls} {st : List Value} {σ : nv_St} {a : Nat} {x0 : Nat} (h : st.length ≤ 4) (h0 : nv_isO σ 1 a = true) : np_X 18 33 ls (.ref x0 :: .ref a :: st) σ = np_aft 18 33 36 ls st (np_X 19 0 [some (.ref a), some (.ref x0), none] [] σ) := np_call k18 rfl (Nat.le_add_left 2 _) rfl rfl h rfl h0 rfl
theorem e18_36 {ls : nv_Ls} {st : List Value} {σ : nv_St} {x : Int32} : np_X 18 36 ls (.int x :: st) σ = if x = 0 then np_X 18 55 ls st σ else np_X 18 39 ls st σ := np_br inferInstance k18 rfl rfl
theorem e18_39 (x : Nat) {l1 l2 l3 l4 l5 : Option Value} {st : List Value} {σ : nv_St} : np_X 18 39 [some (.ref x), l1, l2, l3, l4, l5] st σ = np_X 18 40 [some (.ref x), l1, l2, l3, l4, l5] (.ref x :: st) σ := np_op k18 rfl rfl
theorem e18_39u  {l1 l2 l3 l4 l5 : Option Value} {st : List Value} {σ : nv_St} : np_X 18 39 [some .null, l1, l2, l3, l4, l5] st σ = np_X 18 40 [some .null, l1, l2, l3, l4, l5] (.null :: st) σ := np_op k18 rfl rfl
theorem e18_40 (x : Nat) {l0 l1 l2 l3 l4 : Option Value} {st : List Value} {σ : nv_St} : np_X 18 40 [l0, l1, l2, l3, l4, some (.ref x)] st σ = np_X 18 42 [l0, l1, l2, l3, l4, some (.ref x)] (.ref x :: st) σ := np_op k18 rfl rfl
theorem e18_40u  {l0 l1 l2 l3 l4 : Option Value} {st : List Value} {σ : nv_St} : np_X 18 40 [l0, l1, l2, l3, l4, some .null] st σ = np_X 18 42 [l0, l1, l2, l3, l4, some .null] (.null :: st) σ := np_op k18 rfl rfl
theorem e18_42 {ls : nv_Ls} {st : List Value} {σ : nv_St} {a : Nat} {v : Value} : np_X 18 42 ls (v :: .ref a :: st) σ = np_b (nv_sto σ 1 6 (.object "SpoonNavy$Form") a v) (fun σ' => np_X 18 45 ls st σ') := np_put k18 rfl
theorem e18_45 (x : Nat) {l1 l2 l3 l4 l5 : Option Value} {st : List Value} {σ : nv_St} : np_X 18 45 [some (.ref x), l1, l2, l3, l4, l5] st σ = np_X 18 46 [some (.ref x), l1, l2, l3, l4, l5] (.ref x :: st) σ := np_op k18 rfl rfl
theorem e18_45u  {l1 l2 l3 l4 l5 : Option Value} {st : List Value} {σ : nv_St} : np_X 18 45 [some .null, l1, l2, l3, l4, l5] st σ = np_X 18 46 [some .null, l1, l2, l3, l4, l5] (.null :: st) σ := np_op k18 rfl rfl
theorem e18_46 (x : Nat) {l1 l2 l3 l4 l5 : Option Value} {st : List Value} {σ : nv_St} : np_X 18 46 [some (.ref x), l1, l2, l3, l4, l5] st σ = np_X 18 47 [some (.ref x), l1, l2, l3, l4, l5] (.ref x :: st) σ := np_op k18 rfl rfl
theorem e18_46u  {l1 l2 l3 l4 l5 : Option Value} {st : List Value} {σ : nv_St} : np_X 18 46 [some .null, l1, l2, l3, l4, l5] st σ = np_X 18 47 [some .null, l1, l2, l3, l4, l5] (.null :: st) σ := np_op k18 rfl rfl
theorem e18_47 {ls : nv_Ls} {st : List Value} {σ : nv_St} {a : Nat} : np_X 18 47 ls (.ref a :: st) σ = np_b (nv_fld σ 1 4 a) (fun v => np_X 18 50 ls (v :: st) σ) := np_get k18 rfl
theorem e18_50 {ls : nv_Ls} {st : List Value} {σ : nv_St} {a : Nat} {v : Value} : np_X 18 50 ls (v :: .ref a :: st) σ = np_b (nv_sto σ 1 3 .int a v) (fun σ' => np_X 18 53 ls st σ') := np_put k18 rfl
theorem e18_53 {ls : nv_Ls} {st : List Value} {σ : nv_St} : np_X 18 53 ls st σ = np_X 18 54 ls (.int (1) :: st) σ := np_op k18 rfl rfl
theorem e18_54 {ls : nv_Ls} {σ : nv_St} {x : Int32} (h : narrow .boolean (.int x) = .int x) : np_X 18 54 ls [.int x] σ = some (.inl (some (.int x)), σ) := np_reti k18 rfl h
theorem e18_55 (x : Int32) {l0 l2 l3 l4 l5 : Option Value} {st : List Value} {σ : nv_St} : np_X 18 55 [l0, some (.int x), l2, l3, l4, l5] st σ = np_X 18 56 [l0, some (.int x), l2, l3, l4, l5] (.int x :: st) σ := np_op k18 rfl rfl
theorem e18_56 (x : Nat) {l1 l2 l3 l4 l5 : Option Value} {st : List Value} {σ : nv_St} : np_X 18 56 [some (.ref x), l1, l2, l3, l4, l5] st σ = np_X 18 57 [some (.ref x), l1, l2, l3, l4, l5] (.ref x :: st) σ := np_op k18 rfl rfl
theorem e18_56u  {l1 l2 l3 l4 l5 : Option Value} {st : List Value} {σ : nv_St} : np_X 18 56 [some .null, l1, l2, l3, l4, l5] st σ = np_X 18 57 [some .null, l1, l2, l3, l4, l5] (.null :: st) σ := np_op k18 rfl rfl
theorem e18_57 {ls : nv_Ls} {st : List Value} {σ : nv_St} {a : Nat} : np_X 18 57 ls (.ref a :: st) σ = np_b (nv_fld σ 1 4 a) (fun v => np_X 18 60 ls (v :: st) σ) := np_get k18 rfl
theorem e18_60 {ls : nv_Ls} {st : List Value} {σ : nv_St} {x y : Int32} (h : st.length ≤ 4) : np_X 18 60 ls (.int y :: .int x :: st) σ = np_X 18 63 ls (.int (if x < y then y else x) :: st) σ := np_max k18 rfl h
theorem e18_63n (x : Int32) {l1 l2 l3 l4 l5 : Option Value} {st : List Value} {σ : nv_St} : np_X 18 63 [none, l1, l2, l3, l4, l5] (.int x :: st) σ = np_X 18 64 [none, some (.int x), l2, l3, l4, l5] st σ := np_op k18 rfl rfl
theorem e18_63i (x : Int32) {z : Int32} {l1 l2 l3 l4 l5 : Option Value} {st : List Value} {σ : nv_St} : np_X 18 63 [some (.int z), l1, l2, l3, l4, l5] (.int x :: st) σ = np_X 18 64 [some (.int z), some (.int x), l2, l3, l4, l5] st σ := np_op k18 rfl rfl
theorem e18_63r (x : Int32) {z : Nat} {l1 l2 l3 l4 l5 : Option Value} {st : List Value} {σ : nv_St} : np_X 18 63 [some (.ref z), l1, l2, l3, l4, l5] (.int x :: st) σ = np_X 18 64 [some (.ref z), some (.int x), l2, l3, l4, l5] st σ := np_op k18 rfl rfl
theorem e18_63v (x : Int32) {l1 l2 l3 l4 l5 : Option Value} {st : List Value} {σ : nv_St} : np_X 18 63 [some .null, l1, l2, l3, l4, l5] (.int x :: st) σ = np_X 18 64 [some .null, some (.int x), l2, l3, l4, l5] st σ := np_op k18 rfl rfl
theorem e18_64n (x : Int32) {l0 l1 l2 l5 : Option Value} {st : List Value} {σ : nv_St} : np_X 18 64 [l0, l1, l2, none, some (.int x), l5] st σ = np_X 18 67 [l0, l1, l2, none, some (.int (x + (1))), l5] st σ := np_op k18 rfl rfl
theorem e18_64i (x : Int32) {z : Int32} {l0 l1 l2 l5 : Option Value} {st : List Value} {σ : nv_St} : np_X 18 64 [l0, l1, l2, some (.int z), some (.int x), l5] st σ = np_X 18 67 [l0, l1, l2, some (.int z), some (.int (x + (1))), l5] st σ := np_op k18 rfl rfl
theorem e18_64r (x : Int32) {z : Nat} {l0 l1 l2 l5 : Option Value} {st : List Value} {σ : nv_St} : np_X 18 64 [l0, l1, l2, some (.ref z), some (.int x), l5] st σ = np_X 18 67 [l0, l1, l2, some (.ref z), some (.int (x + (1))), l5] st σ := np_op k18 rfl rfl
theorem e18_64v (x : Int32) {l0 l1 l2 l5 : Option Value} {st : List Value} {σ : nv_St} : np_X 18 64 [l0, l1, l2, some .null, some (.int x), l5] st σ = np_X 18 67 [l0, l1, l2, some .null, some (.int (x + (1))), l5] st σ := np_op k18 rfl rfl
theorem e18_67 {ls : nv_Ls} {st : List Value} {σ : nv_St} : np_X 18 67 ls st σ = np_X 18 15 ls st σ := np_op k18 rfl rfl
theorem e18_70 (x : Nat) {l1 l2 l3 l4 l5 : Option Value} {st : List Value} {σ : nv_St} : np_X 18 70 [some (.ref x), l1, l2, l3, l4, l5] st σ = np_X 18 71 [some (.ref x), l1, l2, l3, l4, l5] (.ref x :: st) σ := np_op k18 rfl rfl
theorem e18_70u  {l1 l2 l3 l4 l5 : Option Value} {st : List Value} {σ : nv_St} : np_X 18 70 [some .null, l1, l2, l3, l4, l5] st σ = np_X 18 71 [some .null, l1, l2, l3, l4, l5] (.null :: st) σ := np_op k18 rfl rfl
theorem e18_71 (x : Int32) {l0 l2 l3 l4 l5 : Option Value} {st : List Value} {σ : nv_St} : np_X 18 71 [l0, some (.int x), l2, l3, l4, l5] st σ = np_X 18 72 [l0, some (.int x), l2, l3, l4, l5] (.int x :: st) σ := np_op k18 rfl rfl
theorem e18_72 {ls : nv_Ls} {st : List Value} {σ : nv_St} {a : Nat} {v : Value} : np_X 18 72 ls (v :: .ref a :: st) σ = np_b (nv_sto σ 1 3 .int a v) (fun σ' => np_X 18 75 ls st σ') := np_put k18 rfl
theorem e18_75 {ls : nv_Ls} {st : List Value} {σ : nv_St} : np_X 18 75 ls st σ = np_X 18 76 ls (.int (0) :: st) σ := np_op k18 rfl rfl
theorem e18_76 {ls : nv_Ls} {σ : nv_St} {x : Int32} (h : narrow .boolean (.int x) = .int x) : np_X 18 76 ls [.int x] σ = some (.inl (some (.int x)), σ) := np_reti k18 rfl h
-- 19 SpoonNavy$CommandText.matches
theorem k19 : np_P.1 19 = np_c19 := rfl
theorem e19_0 (x : Nat) {l1 l2 : Option Value} {st : List Value} {σ : nv_St} : np_X 19 0 [some (.ref x), l1, l2] st σ = np_X 19 1 [some (.ref x), l1, l2] (.ref x :: st) σ := np_op k19 rfl rfl
theorem e19_0u  {l1 l2 : Option Value} {st : List Value} {σ : nv_St} : np_X 19 0 [some .null, l1, l2] st σ = np_X 19 1 [some .null, l1, l2] (.null :: st) σ := np_op k19 rfl rfl
theorem e19_1 (x : Nat) {l1 l2 : Option Value} {st : List Value} {σ : nv_St} : np_X 19 1 [some (.ref x), l1, l2] st σ = np_X 19 2 [some (.ref x), l1, l2] (.ref x :: st) σ := np_op k19 rfl rfl
theorem e19_1u  {l1 l2 : Option Value} {st : List Value} {σ : nv_St} : np_X 19 1 [some .null, l1, l2] st σ = np_X 19 2 [some .null, l1, l2] (.null :: st) σ := np_op k19 rfl rfl
theorem e19_2 {ls : nv_Ls} {st : List Value} {σ : nv_St} {a : Nat} : np_X 19 2 ls (.ref a :: st) σ = np_b (nv_fld σ 1 3 a) (fun v => np_X 19 5 ls (v :: st) σ) := np_get k19 rfl
theorem e19_5 {ls : nv_Ls} {st : List Value} {σ : nv_St} {a : Nat} {v : Value} : np_X 19 5 ls (v :: .ref a :: st) σ = np_b (nv_sto σ 1 4 .int a v) (fun σ' => np_X 19 8 ls st σ') := np_put k19 rfl
theorem e19_8 (x : Nat) {l1 l2 : Option Value} {st : List Value} {σ : nv_St} : np_X 19 8 [some (.ref x), l1, l2] st σ = np_X 19 9 [some (.ref x), l1, l2] (.ref x :: st) σ := np_op k19 rfl rfl
theorem e19_8u  {l1 l2 : Option Value} {st : List Value} {σ : nv_St} : np_X 19 8 [some .null, l1, l2] st σ = np_X 19 9 [some .null, l1, l2] (.null :: st) σ := np_op k19 rfl rfl
theorem e19_9 {ls : nv_Ls} {st : List Value} {σ : nv_St} : np_X 19 9 ls st σ = np_X 19 10 ls (.int (0) :: st) σ := np_op k19 rfl rfl
theorem e19_10 {ls : nv_Ls} {st : List Value} {σ : nv_St} {a : Nat} {v : Value} : np_X 19 10 ls (v :: .ref a :: st) σ = np_b (nv_sto σ 1 5 .int a v) (fun σ' => np_X 19 13 ls st σ') := np_put k19 rfl
theorem e19_13 {ls : nv_Ls} {st : List Value} {σ : nv_St} : np_X 19 13 ls st σ = np_X 19 14 ls (.int (0) :: st) σ := np_op k19 rfl rfl
theorem e19_14n (x : Int32) {l0 l2 : Option Value} {st : List Value} {σ : nv_St} : np_X 19 14 [l0, none, l2] (.int x :: st) σ = np_X 19 15 [l0, none, some (.int x)] st σ := np_op k19 rfl rfl
theorem e19_14i (x : Int32) {z : Int32} {l0 l2 : Option Value} {st : List Value} {σ : nv_St} : np_X 19 14 [l0, some (.int z), l2] (.int x :: st) σ = np_X 19 15 [l0, some (.int z), some (.int x)] st σ := np_op k19 rfl rfl
theorem e19_14r (x : Int32) {z : Nat} {l0 l2 : Option Value} {st : List Value} {σ : nv_St} : np_X 19 14 [l0, some (.ref z), l2] (.int x :: st) σ = np_X 19 15 [l0, some (.ref z), some (.int x)] st σ := np_op k19 rfl rfl
theorem e19_14v (x : Int32) {l0 l2 : Option Value} {st : List Value} {σ : nv_St} : np_X 19 14 [l0, some .null, l2] (.int x :: st) σ = np_X 19 15 [l0, some .null, some (.int x)] st σ := np_op k19 rfl rfl
theorem e19_15 (x : Int32) {l0 l1 : Option Value} {st : List Value} {σ : nv_St} : np_X 19 15 [l0, l1, some (.int x)] st σ = np_X 19 16 [l0, l1, some (.int x)] (.int x :: st) σ := np_op k19 rfl rfl
theorem e19_16 (x : Nat) {l0 l2 : Option Value} {st : List Value} {σ : nv_St} : np_X 19 16 [l0, some (.ref x), l2] st σ = np_X 19 17 [l0, some (.ref x), l2] (.ref x :: st) σ := np_op k19 rfl rfl
theorem e19_16u  {l0 l2 : Option Value} {st : List Value} {σ : nv_St} : np_X 19 16 [l0, some .null, l2] st σ = np_X 19 17 [l0, some .null, l2] (.null :: st) σ := np_op k19 rfl rfl
theorem e19_17 {ls : nv_Ls} {st : List Value} {σ : nv_St} {a : Nat}  (h : st.length ≤ 4) (h0 : 1000000 ≤ a) (h1 : a < 1000032) : np_X 19 17 ls (.ref a :: st) σ = np_aft 19 17 20 ls st (np_X 0 0 [some (.ref a)] [] σ) := np_call k19 rfl (Nat.le_add_left 1 _) rfl rfl h rfl (decide_eq_true ⟨h0, h1⟩) rfl
theorem e19_20 {ls : nv_Ls} {st : List Value} {σ : nv_St} {x y : Int32} : np_X 19 20 ls (.int y :: .int x :: st) σ = if x < y then np_X 19 23 ls st σ else np_X 19 43 ls st σ := np_br inferInstance k19 rfl rfl
theorem e19_23 (x : Nat) {l1 l2 : Option Value} {st : List Value} {σ : nv_St} : np_X 19 23 [some (.ref x), l1, l2] st σ = np_X 19 24 [some (.ref x), l1, l2] (.ref x :: st) σ := np_op k19 rfl rfl
theorem e19_23u  {l1 l2 : Option Value} {st : List Value} {σ : nv_St} : np_X 19 23 [some .null, l1, l2] st σ = np_X 19 24 [some .null, l1, l2] (.null :: st) σ := np_op k19 rfl rfl
theorem e19_24 (x : Nat) {l0 l2 : Option Value} {st : List Value} {σ : nv_St} : np_X 19 24 [l0, some (.ref x), l2] st σ = np_X 19 25 [l0, some (.ref x), l2] (.ref x :: st) σ := np_op k19 rfl rfl
theorem e19_24u  {l0 l2 : Option Value} {st : List Value} {σ : nv_St} : np_X 19 24 [l0, some .null, l2] st σ = np_X 19 25 [l0, some .null, l2] (.null :: st) σ := np_op k19 rfl rfl
theorem e19_25 (x : Int32) {l0 l1 : Option Value} {st : List Value} {σ : nv_St} : np_X 19 25 [l0, l1, some (.int x)] st σ = np_X 19 26 [l0, l1, some (.int x)] (.int x :: st) σ := np_op k19 rfl rfl
theorem e19_26 {ls : nv_Ls} {st : List Value} {σ : nv_St} {a : Nat} {x0 : Int32} (h : st.length ≤ 4) (h0 : 1000000 ≤ a) (h1 : a < 1000032) : np_X 19 26 ls (.int x0 :: .ref a :: st) σ = np_aft 19 26 29 ls st (np_X 1 0 [some (.ref a), some (.int x0)] [] σ) := np_call k19 rfl (Nat.le_add_left 2 _) rfl rfl h rfl (decide_eq_true ⟨h0, h1⟩) rfl
theorem e19_29 {ls : nv_Ls} {st : List Value} {σ : nv_St} {a : Nat} {x0 : Int32} (h : st.length ≤ 4) (h0 : nv_isO σ 1 a = true) : np_X 19 29 ls (.int x0 :: .ref a :: st) σ = np_aft 19 29 32 ls st (np_X 20 0 [some (.ref a), some (.int x0)] [] σ) := np_call k19 rfl (Nat.le_add_left 2 _) rfl rfl h rfl h0 rfl
theorem e19_32 {ls : nv_Ls} {st : List Value} {σ : nv_St} {x : Int32} : np_X 19 32 ls (.int x :: st) σ = if x = 0 then np_X 19 35 ls st σ else np_X 19 37 ls st σ := np_br inferInstance k19 rfl rfl
theorem e19_35 {ls : nv_Ls} {st : List Value} {σ : nv_St} : np_X 19 35 ls st σ = np_X 19 36 ls (.int (0) :: st) σ := np_op k19 rfl rfl
theorem e19_36 {ls : nv_Ls} {σ : nv_St} {x : Int32} (h : narrow .boolean (.int x) = .int x) : np_X 19 36 ls [.int x] σ = some (.inl (some (.int x)), σ) := np_reti k19 rfl h
theorem e19_37n (x : Int32) {l0 : Option Value} {st : List Value} {σ : nv_St} : np_X 19 37 [l0, none, some (.int x)] st σ = np_X 19 40 [l0, none, some (.int (x + (1)))] st σ := np_op k19 rfl rfl
theorem e19_37i (x : Int32) {z : Int32} {l0 : Option Value} {st : List Value} {σ : nv_St} : np_X 19 37 [l0, some (.int z), some (.int x)] st σ = np_X 19 40 [l0, some (.int z), some (.int (x + (1)))] st σ := np_op k19 rfl rfl
theorem e19_37r (x : Int32) {z : Nat} {l0 : Option Value} {st : List Value} {σ : nv_St} : np_X 19 37 [l0, some (.ref z), some (.int x)] st σ = np_X 19 40 [l0, some (.ref z), some (.int (x + (1)))] st σ := np_op k19 rfl rfl
theorem e19_37v (x : Int32) {l0 : Option Value} {st : List Value} {σ : nv_St} : np_X 19 37 [l0, some .null, some (.int x)] st σ = np_X 19 40 [l0, some .null, some (.int (x + (1)))] st σ := np_op k19 rfl rfl
theorem e19_40 {ls : nv_Ls} {st : List Value} {σ : nv_St} : np_X 19 40 ls st σ = np_X 19 15 ls st σ := np_op k19 rfl rfl
theorem e19_43 {ls : nv_Ls} {st : List Value} {σ : nv_St} : np_X 19 43 ls st σ = np_X 19 44 ls (.int (1) :: st) σ := np_op k19 rfl rfl
theorem e19_44 {ls : nv_Ls} {σ : nv_St} {x : Int32} (h : narrow .boolean (.int x) = .int x) : np_X 19 44 ls [.int x] σ = some (.inl (some (.int x)), σ) := np_reti k19 rfl h
-- 20 SpoonNavy$CommandText.matchesSign
theorem k20 : np_P.1 20 = np_c20 := rfl
theorem e20_0 (x : Int32) {l0 : Option Value} {st : List Value} {σ : nv_St} : np_X 20 0 [l0, some (.int x)] st σ = np_X 20 1 [l0, some (.int x)] (.int x :: st) σ := np_op k20 rfl rfl
theorem e20_1 {ls : nv_Ls} {st : List Value} {σ : nv_St} : np_X 20 1 ls st σ = np_X 20 3 ls (.int (35) :: st) σ := np_op k20 rfl rfl
theorem e20_3 {ls : nv_Ls} {st : List Value} {σ : nv_St} {x y : Int32} : np_X 20 3 ls (.int y :: .int x :: st) σ = if x = y then np_X 20 12 ls st σ else np_X 20 6 ls st σ := np_br inferInstance k20 rfl rfl
theorem e20_6 (x : Int32) {l0 : Option Value} {st : List Value} {σ : nv_St} : np_X 20 6 [l0, some (.int x)] st σ = np_X 20 7 [l0, some (.int x)] (.int x :: st) σ := np_op k20 rfl rfl
theorem e20_7 {ls : nv_Ls} {st : List Value} {σ : nv_St} : np_X 20 7 ls st σ = np_X 20 9 ls (.int (37) :: st) σ := np_op k20 rfl rfl
theorem e20_9 {ls : nv_Ls} {st : List Value} {σ : nv_St} {x y : Int32} : np_X 20 9 ls (.int y :: .int x :: st) σ = if x = y then np_X 20 12 ls st σ else np_X 20 28 ls st σ := np_br inferInstance k20 rfl rfl
theorem e20_12 (x : Nat) {l1 : Option Value} {st : List Value} {σ : nv_St} : np_X 20 12 [some (.ref x), l1] st σ = np_X 20 13 [some (.ref x), l1] (.ref x :: st) σ := np_op k20 rfl rfl
theorem e20_12u  {l1 : Option Value} {st : List Value} {σ : nv_St} : np_X 20 12 [some .null, l1] st σ = np_X 20 13 [some .null, l1] (.null :: st) σ := np_op k20 rfl rfl
theorem e20_13 (x : Int32) {l0 : Option Value} {st : List Value} {σ : nv_St} : np_X 20 13 [l0, some (.int x)] st σ = np_X 20 14 [l0, some (.int x)] (.int x :: st) σ := np_op k20 rfl rfl
theorem e20_14 {ls : nv_Ls} {st : List Value} {σ : nv_St} : np_X 20 14 ls st σ = np_X 20 16 ls (.int (37) :: st) σ := np_op k20 rfl rfl
theorem e20_16 {ls : nv_Ls} {st : List Value} {σ : nv_St} {x y : Int32} : np_X 20 16 ls (.int y :: .int x :: st) σ = if x = y then np_X 20 19 ls st σ else np_X 20 23 ls st σ := np_br inferInstance k20 rfl rfl
theorem e20_19 {ls : nv_Ls} {st : List Value} {σ : nv_St} : np_X 20 19 ls st σ = np_X 20 20 ls (.int (2) :: st) σ := np_op k20 rfl rfl
theorem e20_20 {ls : nv_Ls} {st : List Value} {σ : nv_St} : np_X 20 20 ls st σ = np_X 20 24 ls st σ := np_op k20 rfl rfl
theorem e20_23 {ls : nv_Ls} {st : List Value} {σ : nv_St} : np_X 20 23 ls st σ = np_X 20 24 ls (.int (1) :: st) σ := np_op k20 rfl rfl
theorem e20_24 {ls : nv_Ls} {st : List Value} {σ : nv_St} {a : Nat} {x0 : Int32} (h : st.length ≤ 4) (h0 : nv_isO σ 1 a = true) : np_X 20 24 ls (.int x0 :: .ref a :: st) σ = np_aft 20 24 27 ls st (np_X 21 0 [some (.ref a), some (.int x0), none, none] [] σ) := np_call k20 rfl (Nat.le_add_left 2 _) rfl rfl h rfl h0 rfl
theorem e20_27 {ls : nv_Ls} {σ : nv_St} {x : Int32} (h : narrow .boolean (.int x) = .int x) : np_X 20 27 ls [.int x] σ = some (.inl (some (.int x)), σ) := np_reti k20 rfl h
theorem e20_28 (x : Nat) {l1 : Option Value} {st : List Value} {σ : nv_St} : np_X 20 28 [some (.ref x), l1] st σ = np_X 20 29 [some (.ref x), l1] (.ref x :: st) σ := np_op k20 rfl rfl
theorem e20_28u  {l1 : Option Value} {st : List Value} {σ : nv_St} : np_X 20 28 [some .null, l1] st σ = np_X 20 29 [some .null, l1] (.null :: st) σ := np_op k20 rfl rfl
theorem e20_29 (x : Nat) {l1 : Option Value} {st : List Value} {σ : nv_St} : np_X 20 29 [some (.ref x), l1] st σ = np_X 20 30 [some (.ref x), l1] (.ref x :: st) σ := np_op k20 rfl rfl
theorem e20_29u  {l1 : Option Value} {st : List Value} {σ : nv_St} : np_X 20 29 [some .null, l1] st σ = np_X 20 30 [some .null, l1] (.null :: st) σ := np_op k20 rfl rfl
theorem e20_30 {ls : nv_Ls} {st : List Value} {σ : nv_St} {a : Nat} : np_X 20 30 ls (.ref a :: st) σ = np_b (nv_fld σ 1 4 a) (fun v => np_X 20 33 ls (v :: st) σ) := np_get k20 rfl
theorem e20_33 (x : Int32) {l0 : Option Value} {st : List Value} {σ : nv_St} : np_X 20 33 [l0, some (.int x)] st σ = np_X 20 34 [l0, some (.int x)] (.int x :: st) σ := np_op k20 rfl rfl
theorem e20_34 {ls : nv_Ls} {st : List Value} {σ : nv_St} {a : Nat} {x0 : Int32} {x1 : Int32} (h : st.length ≤ 4) (h0 : nv_isO σ 1 a = true) : np_X 20 34 ls (.int x1 :: .int x0 :: .ref a :: st) σ = np_aft 20 34 37 ls st (np_X 23 0 [some (.ref a), some (.int x0), some (.int x1)] [] σ) := np_call k20 rfl (Nat.le_add_left 3 _) rfl rfl h rfl h0 rfl
theorem e20_37 {ls : nv_Ls} {st : List Value} {σ : nv_St} {x : Int32} : np_X 20 37 ls (.int x :: st) σ = if x = 0 then np_X 20 40 ls st σ else np_X 20 42 ls st σ := np_br inferInstance k20 rfl rfl
theorem e20_40 {ls : nv_Ls} {st : List Value} {σ : nv_St} : np_X 20 40 ls st σ = np_X 20 41 ls (.int (0) :: st) σ := np_op k20 rfl rfl
theorem e20_41 {ls : nv_Ls} {σ : nv_St} {x : Int32} (h : narrow .boolean (.int x) = .int x) : np_X 20 41 ls [.int x] σ = some (.inl (some (.int x)), σ) := np_reti k20 rfl h
theorem e20_42 (x : Nat) {l1 : Option Value} {st : List Value} {σ : nv_St} : np_X 20 42 [some (.ref x), l1] st σ = np_X 20 43 [some (.ref x), l1] (.ref x :: st) σ := np_op k20 rfl rfl
theorem e20_42u  {l1 : Option Value} {st : List Value} {σ : nv_St} : np_X 20 42 [some .null, l1] st σ = np_X 20 43 [some .null, l1] (.null :: st) σ := np_op k20 rfl rfl
theorem e20_43 {ls : nv_Ls} {st : List Value} {σ : nv_St} {x : Nat} : np_X 20 43 ls (.ref x :: st) σ = np_X 20 44 ls (.ref x :: .ref x :: st) σ := np_op k20 rfl rfl
theorem e20_43i {ls : nv_Ls} {st : List Value} {σ : nv_St} {x : Int32} : np_X 20 43 ls (.int x :: st) σ = np_X 20 44 ls (.int x :: .int x :: st) σ := np_op k20 rfl rfl
theorem e20_44 {ls : nv_Ls} {st : List Value} {σ : nv_St} {a : Nat} : np_X 20 44 ls (.ref a :: st) σ = np_b (nv_fld σ 1 4 a) (fun v => np_X 20 47 ls (v :: st) σ) := np_get k20 rfl
theorem e20_47 {ls : nv_Ls} {st : List Value} {σ : nv_St} : np_X 20 47 ls st σ = np_X 20 48 ls (.int (1) :: st) σ := np_op k20 rfl rfl
theorem e20_48 {ls : nv_Ls} {st : List Value} {σ : nv_St} {x y : Int32} : np_X 20 48 ls (.int y :: .int x :: st) σ = np_X 20 49 ls (.int (x + y) :: st) σ := np_op k20 rfl rfl
theorem e20_49 {ls : nv_Ls} {st : List Value} {σ : nv_St} {a : Nat} {v : Value} : np_X 20 49 ls (v :: .ref a :: st) σ = np_b (nv_sto σ 1 4 .int a v) (fun σ' => np_X 20 52 ls st σ') := np_put k20 rfl
theorem e20_52 {ls : nv_Ls} {st : List Value} {σ : nv_St} : np_X 20 52 ls st σ = np_X 20 53 ls (.int (1) :: st) σ := np_op k20 rfl rfl
theorem e20_53 {ls : nv_Ls} {σ : nv_St} {x : Int32} (h : narrow .boolean (.int x) = .int x) : np_X 20 53 ls [.int x] σ = some (.inl (some (.int x)), σ) := np_reti k20 rfl h
-- 21 SpoonNavy$CommandText.matchesNumber
theorem k21 : np_P.1 21 = np_c21 := rfl
theorem e21_0 {ls : nv_Ls} {st : List Value} {σ : nv_St} : np_X 21 0 ls st σ = np_X 21 1 ls (.int (0) :: st) σ := np_op k21 rfl rfl
theorem e21_1n (x : Int32) {l0 l2 l3 : Option Value} {st : List Value} {σ : nv_St} : np_X 21 1 [l0, none, l2, l3] (.int x :: st) σ = np_X 21 2 [l0, none, some (.int x), l3] st σ := np_op k21 rfl rfl
theorem e21_1i (x : Int32) {z : Int32} {l0 l2 l3 : Option Value} {st : List Value} {σ : nv_St} : np_X 21 1 [l0, some (.int z), l2, l3] (.int x :: st) σ = np_X 21 2 [l0, some (.int z), some (.int x), l3] st σ := np_op k21 rfl rfl
theorem e21_1r (x : Int32) {z : Nat} {l0 l2 l3 : Option Value} {st : List Value} {σ : nv_St} : np_X 21 1 [l0, some (.ref z), l2, l3] (.int x :: st) σ = np_X 21 2 [l0, some (.ref z), some (.int x), l3] st σ := np_op k21 rfl rfl
theorem e21_1v (x : Int32) {l0 l2 l3 : Option Value} {st : List Value} {σ : nv_St} : np_X 21 1 [l0, some .null, l2, l3] (.int x :: st) σ = np_X 21 2 [l0, some .null, some (.int x), l3] st σ := np_op k21 rfl rfl
theorem e21_2 {ls : nv_Ls} {st : List Value} {σ : nv_St} : np_X 21 2 ls st σ = np_X 21 3 ls (.int (0) :: st) σ := np_op k21 rfl rfl
theorem e21_3n (x : Int32) {l0 l1 l3 : Option Value} {st : List Value} {σ : nv_St} : np_X 21 3 [l0, l1, none, l3] (.int x :: st) σ = np_X 21 4 [l0, l1, none, some (.int x)] st σ := np_op k21 rfl rfl
theorem e21_3i (x : Int32) {z : Int32} {l0 l1 l3 : Option Value} {st : List Value} {σ : nv_St} : np_X 21 3 [l0, l1, some (.int z), l3] (.int x :: st) σ = np_X 21 4 [l0, l1, some (.int z), some (.int x)] st σ := np_op k21 rfl rfl
theorem e21_3r (x : Int32) {z : Nat} {l0 l1 l3 : Option Value} {st : List Value} {σ : nv_St} : np_X 21 3 [l0, l1, some (.ref z), l3] (.int x :: st) σ = np_X 21 4 [l0, l1, some (.ref z), some (.int x)] st σ := np_op k21 rfl rfl
theorem e21_3v (x : Int32) {l0 l1 l3 : Option Value} {st : List Value} {σ : nv_St} : np_X 21 3 [l0, l1, some .null, l3] (.int x :: st) σ = np_X 21 4 [l0, l1, some .null, some (.int x)] st σ := np_op k21 rfl rfl
theorem e21_4 (x : Int32) {l0 l1 l2 : Option Value} {st : List Value} {σ : nv_St} : np_X 21 4 [l0, l1, l2, some (.int x)] st σ = np_X 21 5 [l0, l1, l2, some (.int x)] (.int x :: st) σ := np_op k21 rfl rfl
theorem e21_5 (x : Int32) {l0 l2 l3 : Option Value} {st : List Value} {σ : nv_St} : np_X 21 5 [l0, some (.int x), l2, l3] st σ = np_X 21 6 [l0, some (.int x), l2, l3] (.int x :: st) σ := np_op k21 rfl rfl
theorem e21_6 {ls : nv_Ls} {st : List Value} {σ : nv_St} {x y : Int32} : np_X 21 6 ls (.int y :: .int x :: st) σ = if x < y then np_X 21 9 ls st σ else np_X 21 50 ls st σ := np_br inferInstance k21 rfl rfl
theorem e21_9 (x : Nat) {l1 l2 l3 : Option Value} {st : List Value} {σ : nv_St} : np_X 21 9 [some (.ref x), l1, l2, l3] st σ = np_X 21 10 [some (.ref x), l1, l2, l3] (.ref x :: st) σ := np_op k21 rfl rfl
theorem e21_9u  {l1 l2 l3 : Option Value} {st : List Value} {σ : nv_St} : np_X 21 9 [some .null, l1, l2, l3] st σ = np_X 21 10 [some .null, l1, l2, l3] (.null :: st) σ := np_op k21 rfl rfl
theorem e21_10 (x : Nat) {l1 l2 l3 : Option Value} {st : List Value} {σ : nv_St} : np_X 21 10 [some (.ref x), l1, l2, l3] st σ = np_X 21 11 [some (.ref x), l1, l2, l3] (.ref x :: st) σ := np_op k21 rfl rfl
theorem e21_10u  {l1 l2 l3 : Option Value} {st : List Value} {σ : nv_St} : np_X 21 10 [some .null, l1, l2, l3] st σ = np_X 21 11 [some .null, l1, l2, l3] (.null :: st) σ := np_op k21 rfl rfl
theorem e21_11 {ls : nv_Ls} {st : List Value} {σ : nv_St} {a : Nat} : np_X 21 11 ls (.ref a :: st) σ = np_b (nv_fld σ 1 4 a) (fun v => np_X 21 14 ls (v :: st) σ) := np_get k21 rfl
theorem e21_14 {ls : nv_Ls} {st : List Value} {σ : nv_St} {a : Nat} {x0 : Int32} (h : st.length ≤ 4) (h0 : nv_isO σ 1 a = true) : np_X 21 14 ls (.int x0 :: .ref a :: st) σ = np_aft 21 14 17 ls st (np_X 24 0 [some (.ref a), some (.int x0)] [] σ) := np_call k21 rfl (Nat.le_add_left 2 _) rfl rfl h rfl h0 rfl
theorem e21_17 {ls : nv_Ls} {st : List Value} {σ : nv_St} {x : Int32} : np_X 21 17 ls (.int x :: st) σ = if x = 0 then np_X 21 50 ls st σ else np_X 21 20 ls st σ := np_br inferInstance k21 rfl rfl
theorem e21_20 {ls : nv_Ls} {st : List Value} {σ : nv_St} : np_X 21 20 ls st σ = np_X 21 22 ls (.int (10) :: st) σ := np_op k21 rfl rfl
theorem e21_22 (x : Int32) {l0 l1 l3 : Option Value} {st : List Value} {σ : nv_St} : np_X 21 22 [l0, l1, some (.int x), l3] st σ = np_X 21 23 [l0, l1, some (.int x), l3] (.int x :: st) σ := np_op k21 rfl rfl
theorem e21_23 {ls : nv_Ls} {st : List Value} {σ : nv_St} {x y : Int32} : np_X 21 23 ls (.int y :: .int x :: st) σ = np_X 21 24 ls (.int (x * y) :: st) σ := np_op k21 rfl rfl
theorem e21_24 (x : Nat) {l1 l2 l3 : Option Value} {st : List Value} {σ : nv_St} : np_X 21 24 [some (.ref x), l1, l2, l3] st σ = np_X 21 25 [some (.ref x), l1, l2, l3] (.ref x :: st) σ := np_op k21 rfl rfl
theorem e21_24u  {l1 l2 l3 : Option Value} {st : List Value} {σ : nv_St} : np_X 21 24 [some .null, l1, l2, l3] st σ = np_X 21 25 [some .null, l1, l2, l3] (.null :: st) σ := np_op k21 rfl rfl
theorem e21_25 (x : Nat) {l1 l2 l3 : Option Value} {st : List Value} {σ : nv_St} : np_X 21 25 [some (.ref x), l1, l2, l3] st σ = np_X 21 26 [some (.ref x), l1, l2, l3] (.ref x :: st) σ := np_op k21 rfl rfl
theorem e21_25u  {l1 l2 l3 : Option Value} {st : List Value} {σ : nv_St} : np_X 21 25 [some .null, l1, l2, l3] st σ = np_X 21 26 [some .null, l1, l2, l3] (.null :: st) σ := np_op k21 rfl rfl
theorem e21_26 {ls : nv_Ls} {st : List Value} {σ : nv_St} {a : Nat} : np_X 21 26 ls (.ref a :: st) σ = np_b (nv_fld σ 1 4 a) (fun v => np_X 21 29 ls (v :: st) σ) := np_get k21 rfl
theorem e21_29 {ls : nv_Ls} {st : List Value} {σ : nv_St} {a : Nat} {x0 : Int32} (h : st.length ≤ 4) (h0 : nv_isO σ 1 a = true) : np_X 21 29 ls (.int x0 :: .ref a :: st) σ = np_aft 21 29 32 ls st (np_X 25 0 [some (.ref a), some (.int x0)] [] σ) := np_call k21 rfl (Nat.le_add_left 2 _) rfl rfl h rfl h0 rfl
theorem e21_32 {ls : nv_Ls} {st : List Value} {σ : nv_St} {x y : Int32} : np_X 21 32 ls (.int y :: .int x :: st) σ = np_X 21 33 ls (.int (x + y) :: st) σ := np_op k21 rfl rfl
theorem e21_33n (x : Int32) {l0 l2 l3 : Option Value} {st : List Value} {σ : nv_St} : np_X 21 33 [l0, none, l2, l3] (.int x :: st) σ = np_X 21 34 [l0, none, some (.int x), l3] st σ := np_op k21 rfl rfl
theorem e21_33i (x : Int32) {z : Int32} {l0 l2 l3 : Option Value} {st : List Value} {σ : nv_St} : np_X 21 33 [l0, some (.int z), l2, l3] (.int x :: st) σ = np_X 21 34 [l0, some (.int z), some (.int x), l3] st σ := np_op k21 rfl rfl
theorem e21_33r (x : Int32) {z : Nat} {l0 l2 l3 : Option Value} {st : List Value} {σ : nv_St} : np_X 21 33 [l0, some (.ref z), l2, l3] (.int x :: st) σ = np_X 21 34 [l0, some (.ref z), some (.int x), l3] st σ := np_op k21 rfl rfl
theorem e21_33v (x : Int32) {l0 l2 l3 : Option Value} {st : List Value} {σ : nv_St} : np_X 21 33 [l0, some .null, l2, l3] (.int x :: st) σ = np_X 21 34 [l0, some .null, some (.int x), l3] st σ := np_op k21 rfl rfl
theorem e21_34n (x : Int32) {l0 l1 : Option Value} {st : List Value} {σ : nv_St} : np_X 21 34 [l0, l1, none, some (.int x)] st σ = np_X 21 37 [l0, l1, none, some (.int (x + (1)))] st σ := np_op k21 rfl rfl
theorem e21_34i (x : Int32) {z : Int32} {l0 l1 : Option Value} {st : List Value} {σ : nv_St} : np_X 21 34 [l0, l1, some (.int z), some (.int x)] st σ = np_X 21 37 [l0, l1, some (.int z), some (.int (x + (1)))] st σ := np_op k21 rfl rfl
theorem e21_34r (x : Int32) {z : Nat} {l0 l1 : Option Value} {st : List Value} {σ : nv_St} : np_X 21 34 [l0, l1, some (.ref z), some (.int x)] st σ = np_X 21 37 [l0, l1, some (.ref z), some (.int (x + (1)))] st σ := np_op k21 rfl rfl
theorem e21_34v (x : Int32) {l0 l1 : Option Value} {st : List Value} {σ : nv_St} : np_X 21 34 [l0, l1, some .null, some (.int x)] st σ = np_X 21 37 [l0, l1, some .null, some (.int (x + (1)))] st σ := np_op k21 rfl rfl
theorem e21_37 (x : Nat) {l1 l2 l3 : Option Value} {st : List Value} {σ : nv_St} : np_X 21 37 [some (.ref x), l1, l2, l3] st σ = np_X 21 38 [some (.ref x), l1, l2, l3] (.ref x :: st) σ := np_op k21 rfl rfl
theorem e21_37u  {l1 l2 l3 : Option Value} {st : List Value} {σ : nv_St} : np_X 21 37 [some .null, l1, l2, l3] st σ = np_X 21 38 [some .null, l1, l2, l3] (.null :: st) σ := np_op k21 rfl rfl
theorem e21_38 {ls : nv_Ls} {st : List Value} {σ : nv_St} {x : Nat} : np_X 21 38 ls (.ref x :: st) σ = np_X 21 39 ls (.ref x :: .ref x :: st) σ := np_op k21 rfl rfl
theorem e21_38i {ls : nv_Ls} {st : List Value} {σ : nv_St} {x : Int32} : np_X 21 38 ls (.int x :: st) σ = np_X 21 39 ls (.int x :: .int x :: st) σ := np_op k21 rfl rfl
theorem e21_39 {ls : nv_Ls} {st : List Value} {σ : nv_St} {a : Nat} : np_X 21 39 ls (.ref a :: st) σ = np_b (nv_fld σ 1 4 a) (fun v => np_X 21 42 ls (v :: st) σ) := np_get k21 rfl
theorem e21_42 {ls : nv_Ls} {st : List Value} {σ : nv_St} : np_X 21 42 ls st σ = np_X 21 43 ls (.int (1) :: st) σ := np_op k21 rfl rfl
theorem e21_43 {ls : nv_Ls} {st : List Value} {σ : nv_St} {x y : Int32} : np_X 21 43 ls (.int y :: .int x :: st) σ = np_X 21 44 ls (.int (x + y) :: st) σ := np_op k21 rfl rfl
theorem e21_44 {ls : nv_Ls} {st : List Value} {σ : nv_St} {a : Nat} {v : Value} : np_X 21 44 ls (v :: .ref a :: st) σ = np_b (nv_sto σ 1 4 .int a v) (fun σ' => np_X 21 47 ls st σ') := np_put k21 rfl
theorem e21_47 {ls : nv_Ls} {st : List Value} {σ : nv_St} : np_X 21 47 ls st σ = np_X 21 4 ls st σ := np_op k21 rfl rfl
theorem e21_50 (x : Int32) {l0 l1 l2 : Option Value} {st : List Value} {σ : nv_St} : np_X 21 50 [l0, l1, l2, some (.int x)] st σ = np_X 21 51 [l0, l1, l2, some (.int x)] (.int x :: st) σ := np_op k21 rfl rfl
theorem e21_51 {ls : nv_Ls} {st : List Value} {σ : nv_St} {x : Int32} : np_X 21 51 ls (.int x :: st) σ = if x = 0 then np_X 21 73 ls st σ else np_X 21 54 ls st σ := np_br inferInstance k21 rfl rfl
theorem e21_54 (x : Nat) {l1 l2 l3 : Option Value} {st : List Value} {σ : nv_St} : np_X 21 54 [some (.ref x), l1, l2, l3] st σ = np_X 21 55 [some (.ref x), l1, l2, l3] (.ref x :: st) σ := np_op k21 rfl rfl
theorem e21_54u  {l1 l2 l3 : Option Value} {st : List Value} {σ : nv_St} : np_X 21 54 [some .null, l1, l2, l3] st σ = np_X 21 55 [some .null, l1, l2, l3] (.null :: st) σ := np_op k21 rfl rfl
theorem e21_55 {ls : nv_Ls} {st : List Value} {σ : nv_St} {a : Nat} : np_X 21 55 ls (.ref a :: st) σ = np_b (nv_fld σ 1 5 a) (fun v => np_X 21 58 ls (v :: st) σ) := np_get k21 rfl
theorem e21_58 {ls : nv_Ls} {st : List Value} {σ : nv_St} {x : Int32} : np_X 21 58 ls (.int x :: st) σ = if x < 0 then np_X 21 73 ls st σ else np_X 21 61 ls st σ := np_br inferInstance k21 rfl rfl
theorem e21_61 (x : Nat) {l1 l2 l3 : Option Value} {st : List Value} {σ : nv_St} : np_X 21 61 [some (.ref x), l1, l2, l3] st σ = np_X 21 62 [some (.ref x), l1, l2, l3] (.ref x :: st) σ := np_op k21 rfl rfl
theorem e21_61u  {l1 l2 l3 : Option Value} {st : List Value} {σ : nv_St} : np_X 21 61 [some .null, l1, l2, l3] st σ = np_X 21 62 [some .null, l1, l2, l3] (.null :: st) σ := np_op k21 rfl rfl
theorem e21_62 {ls : nv_Ls} {st : List Value} {σ : nv_St} {a : Nat} : np_X 21 62 ls (.ref a :: st) σ = np_b (nv_fld σ 1 5 a) (fun v => np_X 21 65 ls (v :: st) σ) := np_get k21 rfl
theorem e21_65 (x : Nat) {l1 l2 l3 : Option Value} {st : List Value} {σ : nv_St} : np_X 21 65 [some (.ref x), l1, l2, l3] st σ = np_X 21 66 [some (.ref x), l1, l2, l3] (.ref x :: st) σ := np_op k21 rfl rfl
theorem e21_65u  {l1 l2 l3 : Option Value} {st : List Value} {σ : nv_St} : np_X 21 65 [some .null, l1, l2, l3] st σ = np_X 21 66 [some .null, l1, l2, l3] (.null :: st) σ := np_op k21 rfl rfl
theorem e21_66 {ls : nv_Ls} {st : List Value} {σ : nv_St} {a : Nat} : np_X 21 66 ls (.ref a :: st) σ = np_b (nv_fld σ 1 1 a) (fun v => np_X 21 69 ls (v :: st) σ) := np_get k21 rfl
theorem e21_69 {ls : nv_Ls} {st : List Value} {σ : nv_St} {a : Nat} : np_X 21 69 ls (.ref a :: st) σ = np_b (nv_len σ 1 a) (fun m => np_X 21 70 ls (.int (Int32.ofNat m) :: st) σ) := np_alen k21 rfl
theorem e21_70 {ls : nv_Ls} {st : List Value} {σ : nv_St} {x y : Int32} : np_X 21 70 ls (.int y :: .int x :: st) σ = if x < y then np_X 21 75 ls st σ else np_X 21 73 ls st σ := np_br inferInstance k21 rfl rfl
theorem e21_73 {ls : nv_Ls} {st : List Value} {σ : nv_St} : np_X 21 73 ls st σ = np_X 21 74 ls (.int (0) :: st) σ := np_op k21 rfl rfl
theorem e21_74 {ls : nv_Ls} {σ : nv_St} {x : Int32} (h : narrow .boolean (.int x) = .int x) : np_X 21 74 ls [.int x] σ = some (.inl (some (.int x)), σ) := np_reti k21 rfl h
theorem e21_75 (x : Nat) {l1 l2 l3 : Option Value} {st : List Value} {σ : nv_St} : np_X 21 75 [some (.ref x), l1, l2, l3] st σ = np_X 21 76 [some (.ref x), l1, l2, l3] (.ref x :: st) σ := np_op k21 rfl rfl
theorem e21_75u  {l1 l2 l3 : Option Value} {st : List Value} {σ : nv_St} : np_X 21 75 [some .null, l1, l2, l3] st σ = np_X 21 76 [some .null, l1, l2, l3] (.null :: st) σ := np_op k21 rfl rfl
theorem e21_76 {ls : nv_Ls} {st : List Value} {σ : nv_St} {a : Nat} : np_X 21 76 ls (.ref a :: st) σ = np_b (nv_fld σ 1 1 a) (fun v => np_X 21 79 ls (v :: st) σ) := np_get k21 rfl
theorem e21_79 (x : Nat) {l1 l2 l3 : Option Value} {st : List Value} {σ : nv_St} : np_X 21 79 [some (.ref x), l1, l2, l3] st σ = np_X 21 80 [some (.ref x), l1, l2, l3] (.ref x :: st) σ := np_op k21 rfl rfl
theorem e21_79u  {l1 l2 l3 : Option Value} {st : List Value} {σ : nv_St} : np_X 21 79 [some .null, l1, l2, l3] st σ = np_X 21 80 [some .null, l1, l2, l3] (.null :: st) σ := np_op k21 rfl rfl
theorem e21_80 {ls : nv_Ls} {st : List Value} {σ : nv_St} {a : Nat} : np_X 21 80 ls (.ref a :: st) σ = np_b (nv_fld σ 1 5 a) (fun v => np_X 21 83 ls (v :: st) σ) := np_get k21 rfl
theorem e21_83 (x : Int32) {l0 l1 l3 : Option Value} {st : List Value} {σ : nv_St} : np_X 21 83 [l0, l1, some (.int x), l3] st σ = np_X 21 84 [l0, l1, some (.int x), l3] (.int x :: st) σ := np_op k21 rfl rfl
theorem e21_84 {ls : nv_Ls} {st : List Value} {σ : nv_St} {a : Nat} {x v : Int32} : np_X 21 84 ls (.int v :: .int x :: .ref a :: st) σ = np_b (nv_wri σ 1 a x v) (fun σ' => np_X 21 85 ls st σ') := np_iast k21 rfl
theorem e21_85 (x : Nat) {l1 l2 l3 : Option Value} {st : List Value} {σ : nv_St} : np_X 21 85 [some (.ref x), l1, l2, l3] st σ = np_X 21 86 [some (.ref x), l1, l2, l3] (.ref x :: st) σ := np_op k21 rfl rfl
theorem e21_85u  {l1 l2 l3 : Option Value} {st : List Value} {σ : nv_St} : np_X 21 85 [some .null, l1, l2, l3] st σ = np_X 21 86 [some .null, l1, l2, l3] (.null :: st) σ := np_op k21 rfl rfl
theorem e21_86 {ls : nv_Ls} {st : List Value} {σ : nv_St} {x : Nat} : np_X 21 86 ls (.ref x :: st) σ = np_X 21 87 ls (.ref x :: .ref x :: st) σ := np_op k21 rfl rfl
theorem e21_86i {ls : nv_Ls} {st : List Value} {σ : nv_St} {x : Int32} : np_X 21 86 ls (.int x :: st) σ = np_X 21 87 ls (.int x :: .int x :: st) σ := np_op k21 rfl rfl
theorem e21_87 {ls : nv_Ls} {st : List Value} {σ : nv_St} {a : Nat} : np_X 21 87 ls (.ref a :: st) σ = np_b (nv_fld σ 1 5 a) (fun v => np_X 21 90 ls (v :: st) σ) := np_get k21 rfl
theorem e21_90 {ls : nv_Ls} {st : List Value} {σ : nv_St} : np_X 21 90 ls st σ = np_X 21 91 ls (.int (1) :: st) σ := np_op k21 rfl rfl
theorem e21_91 {ls : nv_Ls} {st : List Value} {σ : nv_St} {x y : Int32} : np_X 21 91 ls (.int y :: .int x :: st) σ = np_X 21 92 ls (.int (x + y) :: st) σ := np_op k21 rfl rfl
theorem e21_92 {ls : nv_Ls} {st : List Value} {σ : nv_St} {a : Nat} {v : Value} : np_X 21 92 ls (v :: .ref a :: st) σ = np_b (nv_sto σ 1 5 .int a v) (fun σ' => np_X 21 95 ls st σ') := np_put k21 rfl
theorem e21_95 {ls : nv_Ls} {st : List Value} {σ : nv_St} : np_X 21 95 ls st σ = np_X 21 96 ls (.int (1) :: st) σ := np_op k21 rfl rfl
theorem e21_96 {ls : nv_Ls} {σ : nv_St} {x : Int32} (h : narrow .boolean (.int x) = .int x) : np_X 21 96 ls [.int x] σ = some (.inl (some (.int x)), σ) := np_reti k21 rfl h
-- 22 SpoonNavy$CommandText.number
theorem k22 : np_P.1 22 = np_c22 := rfl
theorem e22_0 (x : Int32) {l0 : Option Value} {st : List Value} {σ : nv_St} : np_X 22 0 [l0, some (.int x)] st σ = np_X 22 1 [l0, some (.int x)] (.int x :: st) σ := np_op k22 rfl rfl
theorem e22_1 {ls : nv_Ls} {st : List Value} {σ : nv_St} {x : Int32} : np_X 22 1 ls (.int x :: st) σ = if x < 0 then np_X 22 30 ls st σ else np_X 22 4 ls st σ := np_br inferInstance k22 rfl rfl
theorem e22_4 (x : Int32) {l0 : Option Value} {st : List Value} {σ : nv_St} : np_X 22 4 [l0, some (.int x)] st σ = np_X 22 5 [l0, some (.int x)] (.int x :: st) σ := np_op k22 rfl rfl
theorem e22_5 (x : Nat) {l1 : Option Value} {st : List Value} {σ : nv_St} : np_X 22 5 [some (.ref x), l1] st σ = np_X 22 6 [some (.ref x), l1] (.ref x :: st) σ := np_op k22 rfl rfl
theorem e22_5u  {l1 : Option Value} {st : List Value} {σ : nv_St} : np_X 22 5 [some .null, l1] st σ = np_X 22 6 [some .null, l1] (.null :: st) σ := np_op k22 rfl rfl
theorem e22_6 {ls : nv_Ls} {st : List Value} {σ : nv_St} {a : Nat} : np_X 22 6 ls (.ref a :: st) σ = np_b (nv_fld σ 1 5 a) (fun v => np_X 22 9 ls (v :: st) σ) := np_get k22 rfl
theorem e22_9 {ls : nv_Ls} {st : List Value} {σ : nv_St} {x y : Int32} : np_X 22 9 ls (.int y :: .int x :: st) σ = if x < y then np_X 22 12 ls st σ else np_X 22 30 ls st σ := np_br inferInstance k22 rfl rfl
theorem e22_12 (x : Int32) {l0 : Option Value} {st : List Value} {σ : nv_St} : np_X 22 12 [l0, some (.int x)] st σ = np_X 22 13 [l0, some (.int x)] (.int x :: st) σ := np_op k22 rfl rfl
theorem e22_13 (x : Nat) {l1 : Option Value} {st : List Value} {σ : nv_St} : np_X 22 13 [some (.ref x), l1] st σ = np_X 22 14 [some (.ref x), l1] (.ref x :: st) σ := np_op k22 rfl rfl
theorem e22_13u  {l1 : Option Value} {st : List Value} {σ : nv_St} : np_X 22 13 [some .null, l1] st σ = np_X 22 14 [some .null, l1] (.null :: st) σ := np_op k22 rfl rfl
theorem e22_14 {ls : nv_Ls} {st : List Value} {σ : nv_St} {a : Nat} : np_X 22 14 ls (.ref a :: st) σ = np_b (nv_fld σ 1 1 a) (fun v => np_X 22 17 ls (v :: st) σ) := np_get k22 rfl
theorem e22_17 {ls : nv_Ls} {st : List Value} {σ : nv_St} {a : Nat} : np_X 22 17 ls (.ref a :: st) σ = np_b (nv_len σ 1 a) (fun m => np_X 22 18 ls (.int (Int32.ofNat m) :: st) σ) := np_alen k22 rfl
theorem e22_18 {ls : nv_Ls} {st : List Value} {σ : nv_St} {x y : Int32} : np_X 22 18 ls (.int y :: .int x :: st) σ = if x < y then np_X 22 21 ls st σ else np_X 22 30 ls st σ := np_br inferInstance k22 rfl rfl
theorem e22_21 (x : Nat) {l1 : Option Value} {st : List Value} {σ : nv_St} : np_X 22 21 [some (.ref x), l1] st σ = np_X 22 22 [some (.ref x), l1] (.ref x :: st) σ := np_op k22 rfl rfl
theorem e22_21u  {l1 : Option Value} {st : List Value} {σ : nv_St} : np_X 22 21 [some .null, l1] st σ = np_X 22 22 [some .null, l1] (.null :: st) σ := np_op k22 rfl rfl
theorem e22_22 {ls : nv_Ls} {st : List Value} {σ : nv_St} {a : Nat} : np_X 22 22 ls (.ref a :: st) σ = np_b (nv_fld σ 1 1 a) (fun v => np_X 22 25 ls (v :: st) σ) := np_get k22 rfl
theorem e22_25 (x : Int32) {l0 : Option Value} {st : List Value} {σ : nv_St} : np_X 22 25 [l0, some (.int x)] st σ = np_X 22 26 [l0, some (.int x)] (.int x :: st) σ := np_op k22 rfl rfl
theorem e22_26 {ls : nv_Ls} {st : List Value} {σ : nv_St} {a : Nat} {x : Int32} : np_X 22 26 ls (.int x :: .ref a :: st) σ = np_b (nv_rdi σ 1 a x) (fun v => np_X 22 27 ls (.int v :: st) σ) := np_aldi k22 rfl
theorem e22_27 {ls : nv_Ls} {st : List Value} {σ : nv_St} : np_X 22 27 ls st σ = np_X 22 31 ls st σ := np_op k22 rfl rfl
theorem e22_30 {ls : nv_Ls} {st : List Value} {σ : nv_St} : np_X 22 30 ls st σ = np_X 22 31 ls (.int (0) :: st) σ := np_op k22 rfl rfl
theorem e22_31 {ls : nv_Ls} {σ : nv_St} {x : Int32} : np_X 22 31 ls [.int x] σ = some (.inl (some (.int x)), σ) := np_reti k22 rfl rfl
-- 23 SpoonNavy$CommandText.isAt
theorem k23 : np_P.1 23 = np_c23 := rfl
theorem e23_0 (x : Int32) {l0 l2 : Option Value} {st : List Value} {σ : nv_St} : np_X 23 0 [l0, some (.int x), l2] st σ = np_X 23 1 [l0, some (.int x), l2] (.int x :: st) σ := np_op k23 rfl rfl
theorem e23_1 {ls : nv_Ls} {st : List Value} {σ : nv_St} {x : Int32} : np_X 23 1 ls (.int x :: st) σ = if x < 0 then np_X 23 35 ls st σ else np_X 23 4 ls st σ := np_br inferInstance k23 rfl rfl
theorem e23_4 (x : Int32) {l0 l2 : Option Value} {st : List Value} {σ : nv_St} : np_X 23 4 [l0, some (.int x), l2] st σ = np_X 23 5 [l0, some (.int x), l2] (.int x :: st) σ := np_op k23 rfl rfl
theorem e23_5 (x : Nat) {l1 l2 : Option Value} {st : List Value} {σ : nv_St} : np_X 23 5 [some (.ref x), l1, l2] st σ = np_X 23 6 [some (.ref x), l1, l2] (.ref x :: st) σ := np_op k23 rfl rfl
theorem e23_5u  {l1 l2 : Option Value} {st : List Value} {σ : nv_St} : np_X 23 5 [some .null, l1, l2] st σ = np_X 23 6 [some .null, l1, l2] (.null :: st) σ := np_op k23 rfl rfl
theorem e23_6 {ls : nv_Ls} {st : List Value} {σ : nv_St} {a : Nat} : np_X 23 6 ls (.ref a :: st) σ = np_b (nv_fld σ 1 2 a) (fun v => np_X 23 9 ls (v :: st) σ) := np_get k23 rfl
theorem e23_9 {ls : nv_Ls} {st : List Value} {σ : nv_St} {x y : Int32} : np_X 23 9 ls (.int y :: .int x :: st) σ = if x < y then np_X 23 12 ls st σ else np_X 23 35 ls st σ := np_br inferInstance k23 rfl rfl
theorem e23_12 (x : Int32) {l0 l2 : Option Value} {st : List Value} {σ : nv_St} : np_X 23 12 [l0, some (.int x), l2] st σ = np_X 23 13 [l0, some (.int x), l2] (.int x :: st) σ := np_op k23 rfl rfl
theorem e23_13 (x : Nat) {l1 l2 : Option Value} {st : List Value} {σ : nv_St} : np_X 23 13 [some (.ref x), l1, l2] st σ = np_X 23 14 [some (.ref x), l1, l2] (.ref x :: st) σ := np_op k23 rfl rfl
theorem e23_13u  {l1 l2 : Option Value} {st : List Value} {σ : nv_St} : np_X 23 13 [some .null, l1, l2] st σ = np_X 23 14 [some .null, l1, l2] (.null :: st) σ := np_op k23 rfl rfl
theorem e23_14 {ls : nv_Ls} {st : List Value} {σ : nv_St} {a : Nat} : np_X 23 14 ls (.ref a :: st) σ = np_b (nv_fld σ 1 0 a) (fun v => np_X 23 17 ls (v :: st) σ) := np_get k23 rfl
theorem e23_17 {ls : nv_Ls} {st : List Value} {σ : nv_St} {a : Nat} : np_X 23 17 ls (.ref a :: st) σ = np_b (nv_len σ 0 a) (fun m => np_X 23 18 ls (.int (Int32.ofNat m) :: st) σ) := np_alen k23 rfl
theorem e23_18 {ls : nv_Ls} {st : List Value} {σ : nv_St} {x y : Int32} : np_X 23 18 ls (.int y :: .int x :: st) σ = if x < y then np_X 23 21 ls st σ else np_X 23 35 ls st σ := np_br inferInstance k23 rfl rfl
theorem e23_21 (x : Nat) {l1 l2 : Option Value} {st : List Value} {σ : nv_St} : np_X 23 21 [some (.ref x), l1, l2] st σ = np_X 23 22 [some (.ref x), l1, l2] (.ref x :: st) σ := np_op k23 rfl rfl
theorem e23_21u  {l1 l2 : Option Value} {st : List Value} {σ : nv_St} : np_X 23 21 [some .null, l1, l2] st σ = np_X 23 22 [some .null, l1, l2] (.null :: st) σ := np_op k23 rfl rfl
theorem e23_22 {ls : nv_Ls} {st : List Value} {σ : nv_St} {a : Nat} : np_X 23 22 ls (.ref a :: st) σ = np_b (nv_fld σ 1 0 a) (fun v => np_X 23 25 ls (v :: st) σ) := np_get k23 rfl
theorem e23_25 (x : Int32) {l0 l2 : Option Value} {st : List Value} {σ : nv_St} : np_X 23 25 [l0, some (.int x), l2] st σ = np_X 23 26 [l0, some (.int x), l2] (.int x :: st) σ := np_op k23 rfl rfl
theorem e23_26 {ls : nv_Ls} {st : List Value} {σ : nv_St} {a : Nat} {x : Int32} : np_X 23 26 ls (.int x :: .ref a :: st) σ = np_b (nv_rdi σ 0 a x) (fun v => np_X 23 27 ls (.int v :: st) σ) := np_aldi k23 rfl
theorem e23_27 (x : Int32) {l0 l1 : Option Value} {st : List Value} {σ : nv_St} : np_X 23 27 [l0, l1, some (.int x)] st σ = np_X 23 28 [l0, l1, some (.int x)] (.int x :: st) σ := np_op k23 rfl rfl
theorem e23_28 {ls : nv_Ls} {st : List Value} {σ : nv_St} {x y : Int32} : np_X 23 28 ls (.int y :: .int x :: st) σ = if x = y then np_X 23 31 ls st σ else np_X 23 35 ls st σ := np_br inferInstance k23 rfl rfl
theorem e23_31 {ls : nv_Ls} {st : List Value} {σ : nv_St} : np_X 23 31 ls st σ = np_X 23 32 ls (.int (1) :: st) σ := np_op k23 rfl rfl
theorem e23_32 {ls : nv_Ls} {st : List Value} {σ : nv_St} : np_X 23 32 ls st σ = np_X 23 36 ls st σ := np_op k23 rfl rfl
theorem e23_35 {ls : nv_Ls} {st : List Value} {σ : nv_St} : np_X 23 35 ls st σ = np_X 23 36 ls (.int (0) :: st) σ := np_op k23 rfl rfl
theorem e23_36 {ls : nv_Ls} {σ : nv_St} {x : Int32} (h : narrow .boolean (.int x) = .int x) : np_X 23 36 ls [.int x] σ = some (.inl (some (.int x)), σ) := np_reti k23 rfl h
-- 24 SpoonNavy$CommandText.isDigitAt
theorem k24 : np_P.1 24 = np_c24 := rfl
theorem e24_0 (x : Int32) {l0 : Option Value} {st : List Value} {σ : nv_St} : np_X 24 0 [l0, some (.int x)] st σ = np_X 24 1 [l0, some (.int x)] (.int x :: st) σ := np_op k24 rfl rfl
theorem e24_1 {ls : nv_Ls} {st : List Value} {σ : nv_St} {x : Int32} : np_X 24 1 ls (.int x :: st) σ = if x < 0 then np_X 24 47 ls st σ else np_X 24 4 ls st σ := np_br inferInstance k24 rfl rfl
theorem e24_4 (x : Int32) {l0 : Option Value} {st : List Value} {σ : nv_St} : np_X 24 4 [l0, some (.int x)] st σ = np_X 24 5 [l0, some (.int x)] (.int x :: st) σ := np_op k24 rfl rfl
theorem e24_5 (x : Nat) {l1 : Option Value} {st : List Value} {σ : nv_St} : np_X 24 5 [some (.ref x), l1] st σ = np_X 24 6 [some (.ref x), l1] (.ref x :: st) σ := np_op k24 rfl rfl
theorem e24_5u  {l1 : Option Value} {st : List Value} {σ : nv_St} : np_X 24 5 [some .null, l1] st σ = np_X 24 6 [some .null, l1] (.null :: st) σ := np_op k24 rfl rfl
theorem e24_6 {ls : nv_Ls} {st : List Value} {σ : nv_St} {a : Nat} : np_X 24 6 ls (.ref a :: st) σ = np_b (nv_fld σ 1 2 a) (fun v => np_X 24 9 ls (v :: st) σ) := np_get k24 rfl
theorem e24_9 {ls : nv_Ls} {st : List Value} {σ : nv_St} {x y : Int32} : np_X 24 9 ls (.int y :: .int x :: st) σ = if x < y then np_X 24 12 ls st σ else np_X 24 47 ls st σ := np_br inferInstance k24 rfl rfl
theorem e24_12 (x : Int32) {l0 : Option Value} {st : List Value} {σ : nv_St} : np_X 24 12 [l0, some (.int x)] st σ = np_X 24 13 [l0, some (.int x)] (.int x :: st) σ := np_op k24 rfl rfl
theorem e24_13 (x : Nat) {l1 : Option Value} {st : List Value} {σ : nv_St} : np_X 24 13 [some (.ref x), l1] st σ = np_X 24 14 [some (.ref x), l1] (.ref x :: st) σ := np_op k24 rfl rfl
theorem e24_13u  {l1 : Option Value} {st : List Value} {σ : nv_St} : np_X 24 13 [some .null, l1] st σ = np_X 24 14 [some .null, l1] (.null :: st) σ := np_op k24 rfl rfl
theorem e24_14 {ls : nv_Ls} {st : List Value} {σ : nv_St} {a : Nat} : np_X 24 14 ls (.ref a :: st) σ = np_b (nv_fld σ 1 0 a) (fun v => np_X 24 17 ls (v :: st) σ) := np_get k24 rfl
theorem e24_17 {ls : nv_Ls} {st : List Value} {σ : nv_St} {a : Nat} : np_X 24 17 ls (.ref a :: st) σ = np_b (nv_len σ 0 a) (fun m => np_X 24 18 ls (.int (Int32.ofNat m) :: st) σ) := np_alen k24 rfl
theorem e24_18 {ls : nv_Ls} {st : List Value} {σ : nv_St} {x y : Int32} : np_X 24 18 ls (.int y :: .int x :: st) σ = if x < y then np_X 24 21 ls st σ else np_X 24 47 ls st σ := np_br inferInstance k24 rfl rfl
theorem e24_21 (x : Nat) {l1 : Option Value} {st : List Value} {σ : nv_St} : np_X 24 21 [some (.ref x), l1] st σ = np_X 24 22 [some (.ref x), l1] (.ref x :: st) σ := np_op k24 rfl rfl
theorem e24_21u  {l1 : Option Value} {st : List Value} {σ : nv_St} : np_X 24 21 [some .null, l1] st σ = np_X 24 22 [some .null, l1] (.null :: st) σ := np_op k24 rfl rfl
theorem e24_22 {ls : nv_Ls} {st : List Value} {σ : nv_St} {a : Nat} : np_X 24 22 ls (.ref a :: st) σ = np_b (nv_fld σ 1 0 a) (fun v => np_X 24 25 ls (v :: st) σ) := np_get k24 rfl
theorem e24_25 (x : Int32) {l0 : Option Value} {st : List Value} {σ : nv_St} : np_X 24 25 [l0, some (.int x)] st σ = np_X 24 26 [l0, some (.int x)] (.int x :: st) σ := np_op k24 rfl rfl
theorem e24_26 {ls : nv_Ls} {st : List Value} {σ : nv_St} {a : Nat} {x : Int32} : np_X 24 26 ls (.int x :: .ref a :: st) σ = np_b (nv_rdi σ 0 a x) (fun v => np_X 24 27 ls (.int v :: st) σ) := np_aldi k24 rfl
theorem e24_27 {ls : nv_Ls} {st : List Value} {σ : nv_St} : np_X 24 27 ls st σ = np_X 24 29 ls (.int (48) :: st) σ := np_op k24 rfl rfl
theorem e24_29 {ls : nv_Ls} {st : List Value} {σ : nv_St} {x y : Int32} : np_X 24 29 ls (.int y :: .int x :: st) σ = if x < y then np_X 24 47 ls st σ else np_X 24 32 ls st σ := np_br inferInstance k24 rfl rfl
theorem e24_32 (x : Nat) {l1 : Option Value} {st : List Value} {σ : nv_St} : np_X 24 32 [some (.ref x), l1] st σ = np_X 24 33 [some (.ref x), l1] (.ref x :: st) σ := np_op k24 rfl rfl
theorem e24_32u  {l1 : Option Value} {st : List Value} {σ : nv_St} : np_X 24 32 [some .null, l1] st σ = np_X 24 33 [some .null, l1] (.null :: st) σ := np_op k24 rfl rfl
theorem e24_33 {ls : nv_Ls} {st : List Value} {σ : nv_St} {a : Nat} : np_X 24 33 ls (.ref a :: st) σ = np_b (nv_fld σ 1 0 a) (fun v => np_X 24 36 ls (v :: st) σ) := np_get k24 rfl
theorem e24_36 (x : Int32) {l0 : Option Value} {st : List Value} {σ : nv_St} : np_X 24 36 [l0, some (.int x)] st σ = np_X 24 37 [l0, some (.int x)] (.int x :: st) σ := np_op k24 rfl rfl
theorem e24_37 {ls : nv_Ls} {st : List Value} {σ : nv_St} {a : Nat} {x : Int32} : np_X 24 37 ls (.int x :: .ref a :: st) σ = np_b (nv_rdi σ 0 a x) (fun v => np_X 24 38 ls (.int v :: st) σ) := np_aldi k24 rfl
theorem e24_38 {ls : nv_Ls} {st : List Value} {σ : nv_St} : np_X 24 38 ls st σ = np_X 24 40 ls (.int (57) :: st) σ := np_op k24 rfl rfl
theorem e24_40 {ls : nv_Ls} {st : List Value} {σ : nv_St} {x y : Int32} : np_X 24 40 ls (.int y :: .int x :: st) σ = if y < x then np_X 24 47 ls st σ else np_X 24 43 ls st σ := np_br inferInstance k24 rfl rfl
theorem e24_43 {ls : nv_Ls} {st : List Value} {σ : nv_St} : np_X 24 43 ls st σ = np_X 24 44 ls (.int (1) :: st) σ := np_op k24 rfl rfl
theorem e24_44 {ls : nv_Ls} {st : List Value} {σ : nv_St} : np_X 24 44 ls st σ = np_X 24 48 ls st σ := np_op k24 rfl rfl
theorem e24_47 {ls : nv_Ls} {st : List Value} {σ : nv_St} : np_X 24 47 ls st σ = np_X 24 48 ls (.int (0) :: st) σ := np_op k24 rfl rfl
theorem e24_48 {ls : nv_Ls} {σ : nv_St} {x : Int32} (h : narrow .boolean (.int x) = .int x) : np_X 24 48 ls [.int x] σ = some (.inl (some (.int x)), σ) := np_reti k24 rfl h
-- 25 SpoonNavy$CommandText.digitAt
theorem k25 : np_P.1 25 = np_c25 := rfl
theorem e25_0 (x : Nat) {l1 : Option Value} {st : List Value} {σ : nv_St} : np_X 25 0 [some (.ref x), l1] st σ = np_X 25 1 [some (.ref x), l1] (.ref x :: st) σ := np_op k25 rfl rfl
theorem e25_0u  {l1 : Option Value} {st : List Value} {σ : nv_St} : np_X 25 0 [some .null, l1] st σ = np_X 25 1 [some .null, l1] (.null :: st) σ := np_op k25 rfl rfl
theorem e25_1 (x : Int32) {l0 : Option Value} {st : List Value} {σ : nv_St} : np_X 25 1 [l0, some (.int x)] st σ = np_X 25 2 [l0, some (.int x)] (.int x :: st) σ := np_op k25 rfl rfl
theorem e25_2 {ls : nv_Ls} {st : List Value} {σ : nv_St} {a : Nat} {x0 : Int32} (h : st.length ≤ 4) (h0 : nv_isO σ 1 a = true) : np_X 25 2 ls (.int x0 :: .ref a :: st) σ = np_aft 25 2 5 ls st (np_X 24 0 [some (.ref a), some (.int x0)] [] σ) := np_call k25 rfl (Nat.le_add_left 2 _) rfl rfl h rfl h0 rfl
theorem e25_5 {ls : nv_Ls} {st : List Value} {σ : nv_St} {x : Int32} : np_X 25 5 ls (.int x :: st) σ = if x = 0 then np_X 25 20 ls st σ else np_X 25 8 ls st σ := np_br inferInstance k25 rfl rfl
theorem e25_8 (x : Nat) {l1 : Option Value} {st : List Value} {σ : nv_St} : np_X 25 8 [some (.ref x), l1] st σ = np_X 25 9 [some (.ref x), l1] (.ref x :: st) σ := np_op k25 rfl rfl
theorem e25_8u  {l1 : Option Value} {st : List Value} {σ : nv_St} : np_X 25 8 [some .null, l1] st σ = np_X 25 9 [some .null, l1] (.null :: st) σ := np_op k25 rfl rfl
theorem e25_9 {ls : nv_Ls} {st : List Value} {σ : nv_St} {a : Nat} : np_X 25 9 ls (.ref a :: st) σ = np_b (nv_fld σ 1 0 a) (fun v => np_X 25 12 ls (v :: st) σ) := np_get k25 rfl
theorem e25_12 (x : Int32) {l0 : Option Value} {st : List Value} {σ : nv_St} : np_X 25 12 [l0, some (.int x)] st σ = np_X 25 13 [l0, some (.int x)] (.int x :: st) σ := np_op k25 rfl rfl
theorem e25_13 {ls : nv_Ls} {st : List Value} {σ : nv_St} {a : Nat} {x : Int32} : np_X 25 13 ls (.int x :: .ref a :: st) σ = np_b (nv_rdi σ 0 a x) (fun v => np_X 25 14 ls (.int v :: st) σ) := np_aldi k25 rfl
theorem e25_14 {ls : nv_Ls} {st : List Value} {σ : nv_St} : np_X 25 14 ls st σ = np_X 25 16 ls (.int (48) :: st) σ := np_op k25 rfl rfl
theorem e25_16 {ls : nv_Ls} {st : List Value} {σ : nv_St} {x y : Int32} : np_X 25 16 ls (.int y :: .int x :: st) σ = np_X 25 17 ls (.int (x - y) :: st) σ := np_op k25 rfl rfl
theorem e25_17 {ls : nv_Ls} {st : List Value} {σ : nv_St} : np_X 25 17 ls st σ = np_X 25 21 ls st σ := np_op k25 rfl rfl
theorem e25_20 {ls : nv_Ls} {st : List Value} {σ : nv_St} : np_X 25 20 ls st σ = np_X 25 21 ls (.int (0) :: st) σ := np_op k25 rfl rfl
theorem e25_21 {ls : nv_Ls} {σ : nv_St} {x : Int32} : np_X 25 21 ls [.int x] σ = some (.inl (some (.int x)), σ) := np_reti k25 rfl rfl
-- 26 SpoonNavy$Game.<init>
theorem k26 : np_P.1 26 = np_c26 := rfl
theorem e26_0 (x : Nat) {l1 : Option Value} {st : List Value} {σ : nv_St} : np_X 26 0 [some (.ref x), l1] st σ = np_X 26 1 [some (.ref x), l1] (.ref x :: st) σ := np_op k26 rfl rfl
theorem e26_0u  {l1 : Option Value} {st : List Value} {σ : nv_St} : np_X 26 0 [some .null, l1] st σ = np_X 26 1 [some .null, l1] (.null :: st) σ := np_op k26 rfl rfl
theorem e26_1 {ls : nv_Ls} {st : List Value} {σ : nv_St} {a : Nat} (h : a < 1000000) (h1 : st.length ≤ 4) : np_X 26 1 ls (.ref a :: st) σ = np_X 26 4 ls st σ := np_oinit k26 rfl h h1
theorem e26_4 (x : Nat) {l1 : Option Value} {st : List Value} {σ : nv_St} : np_X 26 4 [some (.ref x), l1] st σ = np_X 26 5 [some (.ref x), l1] (.ref x :: st) σ := np_op k26 rfl rfl
theorem e26_4u  {l1 : Option Value} {st : List Value} {σ : nv_St} : np_X 26 4 [some .null, l1] st σ = np_X 26 5 [some .null, l1] (.null :: st) σ := np_op k26 rfl rfl
theorem e26_5 {ls : nv_Ls} {st : List Value} {σ : nv_St} : np_X 26 5 ls st σ = np_X 26 7 ls (.int (12) :: st) σ := np_op k26 rfl rfl
theorem e26_7 {ls : nv_Ls} {st : List Value} {σ : nv_St} {x : Int32} (h : σ.2.2.1 = 0) (h1 : σ.2.1 < 1000000) (h2 : ¬ x < 0) (h3 : x.toNatClampNeg ≤ 1000) : np_X 26 7 ls (.int x :: st) σ = np_X 26 10 ls (.ref σ.2.1 :: st) (nv_mk σ (.inl (2, x.toNatClampNeg, .inr (fun _ => none))) x.toNatClampNeg) := np_op k26 rfl (by simp only [nv_newq]; rw [if_pos ⟨h, h1, h2, h3⟩])
theorem e26_10 {ls : nv_Ls} {st : List Value} {σ : nv_St} {a : Nat} {v : Value} : np_X 26 10 ls (v :: .ref a :: st) σ = np_b (nv_sto σ 2 0 (.array (.object "SpoonNavy$Spoon")) a v) (fun σ' => np_X 26 13 ls st σ') := np_put k26 rfl
theorem e26_13 (x : Nat) {l1 : Option Value} {st : List Value} {σ : nv_St} : np_X 26 13 [some (.ref x), l1] st σ = np_X 26 14 [some (.ref x), l1] (.ref x :: st) σ := np_op k26 rfl rfl
theorem e26_13u  {l1 : Option Value} {st : List Value} {σ : nv_St} : np_X 26 13 [some .null, l1] st σ = np_X 26 14 [some .null, l1] (.null :: st) σ := np_op k26 rfl rfl
theorem e26_14 {ls : nv_Ls} {st : List Value} {σ : nv_St} (h : σ.2.2.1 = 0) (h1 : σ.2.1 < 1000000) : np_X 26 14 ls st σ = np_X 26 17 ls (.ref σ.2.1 :: st) (nv_mk σ (.inr (0, [.int 0, .int 0, .int 0, .int 0, .int 0, .int 0, .int 0, .int 0])) 8) := np_op k26 rfl (by simp only [nv_new]; rw [if_pos ⟨h, h1⟩]; rfl)
theorem e26_17 {ls : nv_Ls} {st : List Value} {σ : nv_St} {x : Nat} : np_X 26 17 ls (.ref x :: st) σ = np_X 26 18 ls (.ref x :: .ref x :: st) σ := np_op k26 rfl rfl
theorem e26_17i {ls : nv_Ls} {st : List Value} {σ : nv_St} {x : Int32} : np_X 26 17 ls (.int x :: st) σ = np_X 26 18 ls (.int x :: .int x :: st) σ := np_op k26 rfl rfl
theorem e26_18 {ls : nv_Ls} {st : List Value} {σ : nv_St} {a : Nat}  (h : st.length ≤ 4) (h0 : nv_isO σ 0 a = true) : np_X 26 18 ls (.ref a :: st) σ = np_aft 26 18 21 ls st (np_X 8 0 [some (.ref a)] [] σ) := np_call k26 rfl (Nat.le_add_left 1 _) rfl rfl h rfl h0 rfl
theorem e26_21 {ls : nv_Ls} {st : List Value} {σ : nv_St} {a : Nat} {v : Value} : np_X 26 21 ls (v :: .ref a :: st) σ = np_b (nv_sto σ 2 1 (.object "SpoonNavy$Account") a v) (fun σ' => np_X 26 24 ls st σ') := np_put k26 rfl
theorem e26_24 (x : Nat) {l1 : Option Value} {st : List Value} {σ : nv_St} : np_X 26 24 [some (.ref x), l1] st σ = np_X 26 25 [some (.ref x), l1] (.ref x :: st) σ := np_op k26 rfl rfl
theorem e26_24u  {l1 : Option Value} {st : List Value} {σ : nv_St} : np_X 26 24 [some .null, l1] st σ = np_X 26 25 [some .null, l1] (.null :: st) σ := np_op k26 rfl rfl
theorem e26_25 {ls : nv_Ls} {st : List Value} {σ : nv_St} (h : σ.2.2.1 = 0) (h1 : σ.2.1 < 1000000) : np_X 26 25 ls st σ = np_X 26 28 ls (.ref σ.2.1 :: st) (nv_mk σ (.inr (0, [.int 0, .int 0, .int 0, .int 0, .int 0, .int 0, .int 0, .int 0])) 8) := np_op k26 rfl (by simp only [nv_new]; rw [if_pos ⟨h, h1⟩]; rfl)
theorem e26_28 {ls : nv_Ls} {st : List Value} {σ : nv_St} {x : Nat} : np_X 26 28 ls (.ref x :: st) σ = np_X 26 29 ls (.ref x :: .ref x :: st) σ := np_op k26 rfl rfl
theorem e26_28i {ls : nv_Ls} {st : List Value} {σ : nv_St} {x : Int32} : np_X 26 28 ls (.int x :: st) σ = np_X 26 29 ls (.int x :: .int x :: st) σ := np_op k26 rfl rfl
theorem e26_29 {ls : nv_Ls} {st : List Value} {σ : nv_St} {a : Nat}  (h : st.length ≤ 4) (h0 : nv_isO σ 0 a = true) : np_X 26 29 ls (.ref a :: st) σ = np_aft 26 29 32 ls st (np_X 8 0 [some (.ref a)] [] σ) := np_call k26 rfl (Nat.le_add_left 1 _) rfl rfl h rfl h0 rfl
theorem e26_32 {ls : nv_Ls} {st : List Value} {σ : nv_St} {a : Nat} {v : Value} : np_X 26 32 ls (v :: .ref a :: st) σ = np_b (nv_sto σ 2 2 (.object "SpoonNavy$Account") a v) (fun σ' => np_X 26 35 ls st σ') := np_put k26 rfl
theorem e26_35 (x : Nat) {l1 : Option Value} {st : List Value} {σ : nv_St} : np_X 26 35 [some (.ref x), l1] st σ = np_X 26 36 [some (.ref x), l1] (.ref x :: st) σ := np_op k26 rfl rfl
theorem e26_35u  {l1 : Option Value} {st : List Value} {σ : nv_St} : np_X 26 35 [some .null, l1] st σ = np_X 26 36 [some .null, l1] (.null :: st) σ := np_op k26 rfl rfl
theorem e26_36 {ls : nv_Ls} {st : List Value} {σ : nv_St} : np_X 26 36 ls st σ = np_X 26 37 ls (.int (0) :: st) σ := np_op k26 rfl rfl
theorem e26_37 {ls : nv_Ls} {st : List Value} {σ : nv_St} {a : Nat} {v : Value} : np_X 26 37 ls (v :: .ref a :: st) σ = np_b (nv_sto σ 2 3 .int a v) (fun σ' => np_X 26 40 ls st σ') := np_put k26 rfl
theorem e26_40 (x : Nat) {l1 : Option Value} {st : List Value} {σ : nv_St} : np_X 26 40 [some (.ref x), l1] st σ = np_X 26 41 [some (.ref x), l1] (.ref x :: st) σ := np_op k26 rfl rfl
theorem e26_40u  {l1 : Option Value} {st : List Value} {σ : nv_St} : np_X 26 40 [some .null, l1] st σ = np_X 26 41 [some .null, l1] (.null :: st) σ := np_op k26 rfl rfl
theorem e26_41 {ls : nv_Ls} {st : List Value} {σ : nv_St} : np_X 26 41 ls st σ = np_X 26 42 ls (.int (0) :: st) σ := np_op k26 rfl rfl
theorem e26_42 {ls : nv_Ls} {st : List Value} {σ : nv_St} {a : Nat} {v : Value} : np_X 26 42 ls (v :: .ref a :: st) σ = np_b (nv_sto σ 2 4 .boolean a v) (fun σ' => np_X 26 45 ls st σ') := np_put k26 rfl
theorem e26_45 (x : Nat) {l1 : Option Value} {st : List Value} {σ : nv_St} : np_X 26 45 [some (.ref x), l1] st σ = np_X 26 46 [some (.ref x), l1] (.ref x :: st) σ := np_op k26 rfl rfl
theorem e26_45u  {l1 : Option Value} {st : List Value} {σ : nv_St} : np_X 26 45 [some .null, l1] st σ = np_X 26 46 [some .null, l1] (.null :: st) σ := np_op k26 rfl rfl
theorem e26_46 {ls : nv_Ls} {st : List Value} {σ : nv_St} : np_X 26 46 ls st σ = np_X 26 47 ls (.int (0) :: st) σ := np_op k26 rfl rfl
theorem e26_47 {ls : nv_Ls} {st : List Value} {σ : nv_St} {a : Nat} {v : Value} : np_X 26 47 ls (v :: .ref a :: st) σ = np_b (nv_sto σ 2 5 .int a v) (fun σ' => np_X 26 50 ls st σ') := np_put k26 rfl
theorem e26_50 (x : Nat) {l1 : Option Value} {st : List Value} {σ : nv_St} : np_X 26 50 [some (.ref x), l1] st σ = np_X 26 51 [some (.ref x), l1] (.ref x :: st) σ := np_op k26 rfl rfl
theorem e26_50u  {l1 : Option Value} {st : List Value} {σ : nv_St} : np_X 26 50 [some .null, l1] st σ = np_X 26 51 [some .null, l1] (.null :: st) σ := np_op k26 rfl rfl
theorem e26_51 {ls : nv_Ls} {st : List Value} {σ : nv_St} : np_X 26 51 ls st σ = np_X 26 52 ls (.int (0) :: st) σ := np_op k26 rfl rfl
theorem e26_52 {ls : nv_Ls} {st : List Value} {σ : nv_St} {a : Nat} {v : Value} : np_X 26 52 ls (v :: .ref a :: st) σ = np_b (nv_sto σ 2 6 .int a v) (fun σ' => np_X 26 55 ls st σ') := np_put k26 rfl
theorem e26_55 (x : Nat) {l1 : Option Value} {st : List Value} {σ : nv_St} : np_X 26 55 [some (.ref x), l1] st σ = np_X 26 56 [some (.ref x), l1] (.ref x :: st) σ := np_op k26 rfl rfl
theorem e26_55u  {l1 : Option Value} {st : List Value} {σ : nv_St} : np_X 26 55 [some .null, l1] st σ = np_X 26 56 [some .null, l1] (.null :: st) σ := np_op k26 rfl rfl
theorem e26_56 {ls : nv_Ls} {st : List Value} {σ : nv_St} : np_X 26 56 ls st σ = np_X 26 57 ls (.int (0) :: st) σ := np_op k26 rfl rfl
theorem e26_57 {ls : nv_Ls} {st : List Value} {σ : nv_St} {a : Nat} {v : Value} : np_X 26 57 ls (v :: .ref a :: st) σ = np_b (nv_sto σ 2 7 .int a v) (fun σ' => np_X 26 60 ls st σ') := np_put k26 rfl
theorem e26_60 (x : Nat) {l1 : Option Value} {st : List Value} {σ : nv_St} : np_X 26 60 [some (.ref x), l1] st σ = np_X 26 61 [some (.ref x), l1] (.ref x :: st) σ := np_op k26 rfl rfl
theorem e26_60u  {l1 : Option Value} {st : List Value} {σ : nv_St} : np_X 26 60 [some .null, l1] st σ = np_X 26 61 [some .null, l1] (.null :: st) σ := np_op k26 rfl rfl
theorem e26_61 {ls : nv_Ls} {st : List Value} {σ : nv_St} : np_X 26 61 ls st σ = np_X 26 62 ls (.int (0) :: st) σ := np_op k26 rfl rfl
theorem e26_62 {ls : nv_Ls} {st : List Value} {σ : nv_St} {a : Nat} {v : Value} : np_X 26 62 ls (v :: .ref a :: st) σ = np_b (nv_sto σ 2 8 .int a v) (fun σ' => np_X 26 65 ls st σ') := np_put k26 rfl
theorem e26_65 (x : Nat) {l1 : Option Value} {st : List Value} {σ : nv_St} : np_X 26 65 [some (.ref x), l1] st σ = np_X 26 66 [some (.ref x), l1] (.ref x :: st) σ := np_op k26 rfl rfl
theorem e26_65u  {l1 : Option Value} {st : List Value} {σ : nv_St} : np_X 26 65 [some .null, l1] st σ = np_X 26 66 [some .null, l1] (.null :: st) σ := np_op k26 rfl rfl
theorem e26_66 {ls : nv_Ls} {st : List Value} {σ : nv_St} : np_X 26 66 ls st σ = np_X 26 67 ls (.int (0) :: st) σ := np_op k26 rfl rfl
theorem e26_67 {ls : nv_Ls} {st : List Value} {σ : nv_St} {a : Nat} {v : Value} : np_X 26 67 ls (v :: .ref a :: st) σ = np_b (nv_sto σ 2 9 .int a v) (fun σ' => np_X 26 70 ls st σ') := np_put k26 rfl
theorem e26_70 (x : Nat) {l1 : Option Value} {st : List Value} {σ : nv_St} : np_X 26 70 [some (.ref x), l1] st σ = np_X 26 71 [some (.ref x), l1] (.ref x :: st) σ := np_op k26 rfl rfl
theorem e26_70u  {l1 : Option Value} {st : List Value} {σ : nv_St} : np_X 26 70 [some .null, l1] st σ = np_X 26 71 [some .null, l1] (.null :: st) σ := np_op k26 rfl rfl
theorem e26_71 {ls : nv_Ls} {st : List Value} {σ : nv_St} : np_X 26 71 ls st σ = np_X 26 72 ls (.long (0) :: st) σ := np_op k26 rfl rfl
theorem e26_72 {ls : nv_Ls} {st : List Value} {σ : nv_St} {a : Nat} {v : Value} : np_X 26 72 ls (v :: .ref a :: st) σ = np_b (nv_sto σ 2 10 .long a v) (fun σ' => np_X 26 75 ls st σ') := np_put k26 rfl
theorem e26_75 (x : Nat) {l1 : Option Value} {st : List Value} {σ : nv_St} : np_X 26 75 [some (.ref x), l1] st σ = np_X 26 76 [some (.ref x), l1] (.ref x :: st) σ := np_op k26 rfl rfl
theorem e26_75u  {l1 : Option Value} {st : List Value} {σ : nv_St} : np_X 26 75 [some .null, l1] st σ = np_X 26 76 [some .null, l1] (.null :: st) σ := np_op k26 rfl rfl
theorem e26_76 {ls : nv_Ls} {st : List Value} {σ : nv_St} : np_X 26 76 ls st σ = np_X 26 77 ls (.int (0) :: st) σ := np_op k26 rfl rfl
theorem e26_77 {ls : nv_Ls} {st : List Value} {σ : nv_St} {a : Nat} {v : Value} : np_X 26 77 ls (v :: .ref a :: st) σ = np_b (nv_sto σ 2 11 .int a v) (fun σ' => np_X 26 80 ls st σ') := np_put k26 rfl
theorem e26_80 {ls : nv_Ls} {st : List Value} {σ : nv_St} : np_X 26 80 ls st σ = np_X 26 81 ls (.int (0) :: st) σ := np_op k26 rfl rfl
theorem e26_81n (x : Int32) {l1 : Option Value} {st : List Value} {σ : nv_St} : np_X 26 81 [none, l1] (.int x :: st) σ = np_X 26 82 [none, some (.int x)] st σ := np_op k26 rfl rfl
theorem e26_81i (x : Int32) {z : Int32} {l1 : Option Value} {st : List Value} {σ : nv_St} : np_X 26 81 [some (.int z), l1] (.int x :: st) σ = np_X 26 82 [some (.int z), some (.int x)] st σ := np_op k26 rfl rfl
theorem e26_81r (x : Int32) {z : Nat} {l1 : Option Value} {st : List Value} {σ : nv_St} : np_X 26 81 [some (.ref z), l1] (.int x :: st) σ = np_X 26 82 [some (.ref z), some (.int x)] st σ := np_op k26 rfl rfl
theorem e26_81v (x : Int32) {l1 : Option Value} {st : List Value} {σ : nv_St} : np_X 26 81 [some .null, l1] (.int x :: st) σ = np_X 26 82 [some .null, some (.int x)] st σ := np_op k26 rfl rfl
theorem e26_82 (x : Int32) {l0 : Option Value} {st : List Value} {σ : nv_St} : np_X 26 82 [l0, some (.int x)] st σ = np_X 26 83 [l0, some (.int x)] (.int x :: st) σ := np_op k26 rfl rfl
theorem e26_83 (x : Nat) {l1 : Option Value} {st : List Value} {σ : nv_St} : np_X 26 83 [some (.ref x), l1] st σ = np_X 26 84 [some (.ref x), l1] (.ref x :: st) σ := np_op k26 rfl rfl
theorem e26_83u  {l1 : Option Value} {st : List Value} {σ : nv_St} : np_X 26 83 [some .null, l1] st σ = np_X 26 84 [some .null, l1] (.null :: st) σ := np_op k26 rfl rfl
theorem e26_84 {ls : nv_Ls} {st : List Value} {σ : nv_St} {a : Nat} : np_X 26 84 ls (.ref a :: st) σ = np_b (nv_fld σ 2 0 a) (fun v => np_X 26 87 ls (v :: st) σ) := np_get k26 rfl
theorem e26_87 {ls : nv_Ls} {st : List Value} {σ : nv_St} {a : Nat} : np_X 26 87 ls (.ref a :: st) σ = np_b (nv_len σ 2 a) (fun m => np_X 26 88 ls (.int (Int32.ofNat m) :: st) σ) := np_alen k26 rfl
theorem e26_88 {ls : nv_Ls} {st : List Value} {σ : nv_St} {x y : Int32} : np_X 26 88 ls (.int y :: .int x :: st) σ = if x < y then np_X 26 91 ls st σ else np_X 26 111 ls st σ := np_br inferInstance k26 rfl rfl
theorem e26_91 (x : Nat) {l1 : Option Value} {st : List Value} {σ : nv_St} : np_X 26 91 [some (.ref x), l1] st σ = np_X 26 92 [some (.ref x), l1] (.ref x :: st) σ := np_op k26 rfl rfl
theorem e26_91u  {l1 : Option Value} {st : List Value} {σ : nv_St} : np_X 26 91 [some .null, l1] st σ = np_X 26 92 [some .null, l1] (.null :: st) σ := np_op k26 rfl rfl
theorem e26_92 {ls : nv_Ls} {st : List Value} {σ : nv_St} {a : Nat} : np_X 26 92 ls (.ref a :: st) σ = np_b (nv_fld σ 2 0 a) (fun v => np_X 26 95 ls (v :: st) σ) := np_get k26 rfl
theorem e26_95 (x : Int32) {l0 : Option Value} {st : List Value} {σ : nv_St} : np_X 26 95 [l0, some (.int x)] st σ = np_X 26 96 [l0, some (.int x)] (.int x :: st) σ := np_op k26 rfl rfl
theorem e26_96 {ls : nv_Ls} {st : List Value} {σ : nv_St} (h : σ.2.2.1 = 0) (h1 : σ.2.1 < 1000000) : np_X 26 96 ls st σ = np_X 26 99 ls (.ref σ.2.1 :: st) (nv_mk σ (.inr (4, [.int 0, .int 0, .int 0, .int 0, .int 0, .int 0, .int 0, .int 0, .int 0])) 9) := np_op k26 rfl (by simp only [nv_new]; rw [if_pos ⟨h, h1⟩]; rfl)
theorem e26_99 {ls : nv_Ls} {st : List Value} {σ : nv_St} {x : Nat} : np_X 26 99 ls (.ref x :: st) σ = np_X 26 100 ls (.ref x :: .ref x :: st) σ := np_op k26 rfl rfl
theorem e26_99i {ls : nv_Ls} {st : List Value} {σ : nv_St} {x : Int32} : np_X 26 99 ls (.int x :: st) σ = np_X 26 100 ls (.int x :: .int x :: st) σ := np_op k26 rfl rfl
theorem e26_100 (x : Int32) {l0 : Option Value} {st : List Value} {σ : nv_St} : np_X 26 100 [l0, some (.int x)] st σ = np_X 26 101 [l0, some (.int x)] (.int x :: st) σ := np_op k26 rfl rfl
theorem e26_101 {ls : nv_Ls} {st : List Value} {σ : nv_St} {a : Nat} {x0 : Int32} (h : st.length ≤ 4) (h0 : nv_isO σ 4 a = true) : np_X 26 101 ls (.int x0 :: .ref a :: st) σ = np_aft 26 101 104 ls st (np_X 60 0 [some (.ref a), some (.int x0)] [] σ) := np_call k26 rfl (Nat.le_add_left 2 _) rfl rfl h rfl h0 rfl
theorem e26_104 {ls : nv_Ls} {st : List Value} {σ : nv_St} {a v : Nat} {x : Int32} (h : nv_isO σ 4 v = true) : np_X 26 104 ls (.ref v :: .int x :: .ref a :: st) σ = np_b (nv_wrq σ 2 a x v) (fun σ' => np_X 26 105 ls st σ') := np_astq k26 rfl h
theorem e26_105n (x : Int32) {st : List Value} {σ : nv_St} : np_X 26 105 [none, some (.int x)] st σ = np_X 26 108 [none, some (.int (x + (1)))] st σ := np_op k26 rfl rfl
theorem e26_105i (x : Int32) {z : Int32} {st : List Value} {σ : nv_St} : np_X 26 105 [some (.int z), some (.int x)] st σ = np_X 26 108 [some (.int z), some (.int (x + (1)))] st σ := np_op k26 rfl rfl
theorem e26_105r (x : Int32) {z : Nat} {st : List Value} {σ : nv_St} : np_X 26 105 [some (.ref z), some (.int x)] st σ = np_X 26 108 [some (.ref z), some (.int (x + (1)))] st σ := np_op k26 rfl rfl
theorem e26_105v (x : Int32) {st : List Value} {σ : nv_St} : np_X 26 105 [some .null, some (.int x)] st σ = np_X 26 108 [some .null, some (.int (x + (1)))] st σ := np_op k26 rfl rfl
theorem e26_108 {ls : nv_Ls} {st : List Value} {σ : nv_St} : np_X 26 108 ls st σ = np_X 26 82 ls st σ := np_op k26 rfl rfl
theorem e26_111 {ls : nv_Ls} {σ : nv_St} : np_X 26 111 ls [] σ = some (.inl none, σ) := np_ret k26 rfl rfl
-- 27 SpoonNavy$Game.copyFrom
theorem k27 : np_P.1 27 = np_c27 := rfl
theorem e27_0 {ls : nv_Ls} {st : List Value} {σ : nv_St} : np_X 27 0 ls st σ = np_X 27 1 ls (.int (0) :: st) σ := np_op k27 rfl rfl
theorem e27_1n (x : Int32) {l0 l2 : Option Value} {st : List Value} {σ : nv_St} : np_X 27 1 [l0, none, l2] (.int x :: st) σ = np_X 27 2 [l0, none, some (.int x)] st σ := np_op k27 rfl rfl
theorem e27_1i (x : Int32) {z : Int32} {l0 l2 : Option Value} {st : List Value} {σ : nv_St} : np_X 27 1 [l0, some (.int z), l2] (.int x :: st) σ = np_X 27 2 [l0, some (.int z), some (.int x)] st σ := np_op k27 rfl rfl
theorem e27_1r (x : Int32) {z : Nat} {l0 l2 : Option Value} {st : List Value} {σ : nv_St} : np_X 27 1 [l0, some (.ref z), l2] (.int x :: st) σ = np_X 27 2 [l0, some (.ref z), some (.int x)] st σ := np_op k27 rfl rfl
theorem e27_1v (x : Int32) {l0 l2 : Option Value} {st : List Value} {σ : nv_St} : np_X 27 1 [l0, some .null, l2] (.int x :: st) σ = np_X 27 2 [l0, some .null, some (.int x)] st σ := np_op k27 rfl rfl
theorem e27_2 (x : Int32) {l0 l1 : Option Value} {st : List Value} {σ : nv_St} : np_X 27 2 [l0, l1, some (.int x)] st σ = np_X 27 3 [l0, l1, some (.int x)] (.int x :: st) σ := np_op k27 rfl rfl
theorem e27_3 (x : Nat) {l1 l2 : Option Value} {st : List Value} {σ : nv_St} : np_X 27 3 [some (.ref x), l1, l2] st σ = np_X 27 4 [some (.ref x), l1, l2] (.ref x :: st) σ := np_op k27 rfl rfl
theorem e27_3u  {l1 l2 : Option Value} {st : List Value} {σ : nv_St} : np_X 27 3 [some .null, l1, l2] st σ = np_X 27 4 [some .null, l1, l2] (.null :: st) σ := np_op k27 rfl rfl
theorem e27_4 {ls : nv_Ls} {st : List Value} {σ : nv_St} {a : Nat} : np_X 27 4 ls (.ref a :: st) σ = np_b (nv_fld σ 2 0 a) (fun v => np_X 27 7 ls (v :: st) σ) := np_get k27 rfl
theorem e27_7 {ls : nv_Ls} {st : List Value} {σ : nv_St} {a : Nat} : np_X 27 7 ls (.ref a :: st) σ = np_b (nv_len σ 2 a) (fun m => np_X 27 8 ls (.int (Int32.ofNat m) :: st) σ) := np_alen k27 rfl
theorem e27_8 {ls : nv_Ls} {st : List Value} {σ : nv_St} {x y : Int32} : np_X 27 8 ls (.int y :: .int x :: st) σ = if x < y then np_X 27 11 ls st σ else np_X 27 41 ls st σ := np_br inferInstance k27 rfl rfl
theorem e27_11 (x : Int32) {l0 l1 : Option Value} {st : List Value} {σ : nv_St} : np_X 27 11 [l0, l1, some (.int x)] st σ = np_X 27 12 [l0, l1, some (.int x)] (.int x :: st) σ := np_op k27 rfl rfl
theorem e27_12 (x : Nat) {l0 l2 : Option Value} {st : List Value} {σ : nv_St} : np_X 27 12 [l0, some (.ref x), l2] st σ = np_X 27 13 [l0, some (.ref x), l2] (.ref x :: st) σ := np_op k27 rfl rfl
theorem e27_12u  {l0 l2 : Option Value} {st : List Value} {σ : nv_St} : np_X 27 12 [l0, some .null, l2] st σ = np_X 27 13 [l0, some .null, l2] (.null :: st) σ := np_op k27 rfl rfl
theorem e27_13 {ls : nv_Ls} {st : List Value} {σ : nv_St} {a : Nat} : np_X 27 13 ls (.ref a :: st) σ = np_b (nv_fld σ 2 0 a) (fun v => np_X 27 16 ls (v :: st) σ) := np_get k27 rfl
theorem e27_16 {ls : nv_Ls} {st : List Value} {σ : nv_St} {a : Nat} : np_X 27 16 ls (.ref a :: st) σ = np_b (nv_len σ 2 a) (fun m => np_X 27 17 ls (.int (Int32.ofNat m) :: st) σ) := np_alen k27 rfl
theorem e27_17 {ls : nv_Ls} {st : List Value} {σ : nv_St} {x y : Int32} : np_X 27 17 ls (.int y :: .int x :: st) σ = if x < y then np_X 27 20 ls st σ else np_X 27 41 ls st σ := np_br inferInstance k27 rfl rfl
theorem e27_20 (x : Nat) {l1 l2 : Option Value} {st : List Value} {σ : nv_St} : np_X 27 20 [some (.ref x), l1, l2] st σ = np_X 27 21 [some (.ref x), l1, l2] (.ref x :: st) σ := np_op k27 rfl rfl
theorem e27_20u  {l1 l2 : Option Value} {st : List Value} {σ : nv_St} : np_X 27 20 [some .null, l1, l2] st σ = np_X 27 21 [some .null, l1, l2] (.null :: st) σ := np_op k27 rfl rfl
theorem e27_21 {ls : nv_Ls} {st : List Value} {σ : nv_St} {a : Nat} : np_X 27 21 ls (.ref a :: st) σ = np_b (nv_fld σ 2 0 a) (fun v => np_X 27 24 ls (v :: st) σ) := np_get k27 rfl
theorem e27_24 (x : Int32) {l0 l1 : Option Value} {st : List Value} {σ : nv_St} : np_X 27 24 [l0, l1, some (.int x)] st σ = np_X 27 25 [l0, l1, some (.int x)] (.int x :: st) σ := np_op k27 rfl rfl
theorem e27_25 {ls : nv_Ls} {st : List Value} {σ : nv_St} {a : Nat} {x : Int32} : np_X 27 25 ls (.int x :: .ref a :: st) σ = np_b (nv_rdq σ 2 a x) (fun v => np_X 27 26 ls (v :: st) σ) := np_aldq k27 rfl
theorem e27_26 (x : Nat) {l0 l2 : Option Value} {st : List Value} {σ : nv_St} : np_X 27 26 [l0, some (.ref x), l2] st σ = np_X 27 27 [l0, some (.ref x), l2] (.ref x :: st) σ := np_op k27 rfl rfl
theorem e27_26u  {l0 l2 : Option Value} {st : List Value} {σ : nv_St} : np_X 27 26 [l0, some .null, l2] st σ = np_X 27 27 [l0, some .null, l2] (.null :: st) σ := np_op k27 rfl rfl
theorem e27_27 {ls : nv_Ls} {st : List Value} {σ : nv_St} {a : Nat} : np_X 27 27 ls (.ref a :: st) σ = np_b (nv_fld σ 2 0 a) (fun v => np_X 27 30 ls (v :: st) σ) := np_get k27 rfl
theorem e27_30 (x : Int32) {l0 l1 : Option Value} {st : List Value} {σ : nv_St} : np_X 27 30 [l0, l1, some (.int x)] st σ = np_X 27 31 [l0, l1, some (.int x)] (.int x :: st) σ := np_op k27 rfl rfl
theorem e27_31 {ls : nv_Ls} {st : List Value} {σ : nv_St} {a : Nat} {x : Int32} : np_X 27 31 ls (.int x :: .ref a :: st) σ = np_b (nv_rdq σ 2 a x) (fun v => np_X 27 32 ls (v :: st) σ) := np_aldq k27 rfl
theorem e27_32 {ls : nv_Ls} {st : List Value} {σ : nv_St} {a : Nat} {x0 : Nat} (h : st.length ≤ 4) (h0 : nv_isO σ 4 a = true) : np_X 27 32 ls (.ref x0 :: .ref a :: st) σ = np_aft 27 32 35 ls st (np_X 61 0 [some (.ref a), some (.ref x0)] [] σ) := np_call k27 rfl (Nat.le_add_left 2 _) rfl rfl h rfl h0 rfl
theorem e27_35n (x : Int32) {l0 : Option Value} {st : List Value} {σ : nv_St} : np_X 27 35 [l0, none, some (.int x)] st σ = np_X 27 38 [l0, none, some (.int (x + (1)))] st σ := np_op k27 rfl rfl
theorem e27_35i (x : Int32) {z : Int32} {l0 : Option Value} {st : List Value} {σ : nv_St} : np_X 27 35 [l0, some (.int z), some (.int x)] st σ = np_X 27 38 [l0, some (.int z), some (.int (x + (1)))] st σ := np_op k27 rfl rfl
theorem e27_35r (x : Int32) {z : Nat} {l0 : Option Value} {st : List Value} {σ : nv_St} : np_X 27 35 [l0, some (.ref z), some (.int x)] st σ = np_X 27 38 [l0, some (.ref z), some (.int (x + (1)))] st σ := np_op k27 rfl rfl
theorem e27_35v (x : Int32) {l0 : Option Value} {st : List Value} {σ : nv_St} : np_X 27 35 [l0, some .null, some (.int x)] st σ = np_X 27 38 [l0, some .null, some (.int (x + (1)))] st σ := np_op k27 rfl rfl
theorem e27_38 {ls : nv_Ls} {st : List Value} {σ : nv_St} : np_X 27 38 ls st σ = np_X 27 2 ls st σ := np_op k27 rfl rfl
theorem e27_41 (x : Nat) {l1 l2 : Option Value} {st : List Value} {σ : nv_St} : np_X 27 41 [some (.ref x), l1, l2] st σ = np_X 27 42 [some (.ref x), l1, l2] (.ref x :: st) σ := np_op k27 rfl rfl
theorem e27_41u  {l1 l2 : Option Value} {st : List Value} {σ : nv_St} : np_X 27 41 [some .null, l1, l2] st σ = np_X 27 42 [some .null, l1, l2] (.null :: st) σ := np_op k27 rfl rfl
theorem e27_42 {ls : nv_Ls} {st : List Value} {σ : nv_St} {a : Nat} : np_X 27 42 ls (.ref a :: st) σ = np_b (nv_fld σ 2 1 a) (fun v => np_X 27 45 ls (v :: st) σ) := np_get k27 rfl
theorem e27_45 (x : Nat) {l0 l2 : Option Value} {st : List Value} {σ : nv_St} : np_X 27 45 [l0, some (.ref x), l2] st σ = np_X 27 46 [l0, some (.ref x), l2] (.ref x :: st) σ := np_op k27 rfl rfl
theorem e27_45u  {l0 l2 : Option Value} {st : List Value} {σ : nv_St} : np_X 27 45 [l0, some .null, l2] st σ = np_X 27 46 [l0, some .null, l2] (.null :: st) σ := np_op k27 rfl rfl
theorem e27_46 {ls : nv_Ls} {st : List Value} {σ : nv_St} {a : Nat} : np_X 27 46 ls (.ref a :: st) σ = np_b (nv_fld σ 2 1 a) (fun v => np_X 27 49 ls (v :: st) σ) := np_get k27 rfl
theorem e27_49 {ls : nv_Ls} {st : List Value} {σ : nv_St} {a : Nat} {x0 : Nat} (h : st.length ≤ 4) (h0 : nv_isO σ 0 a = true) : np_X 27 49 ls (.ref x0 :: .ref a :: st) σ = np_aft 27 49 52 ls st (np_X 9 0 [some (.ref a), some (.ref x0)] [] σ) := np_call k27 rfl (Nat.le_add_left 2 _) rfl rfl h rfl h0 rfl
theorem e27_52 (x : Nat) {l1 l2 : Option Value} {st : List Value} {σ : nv_St} : np_X 27 52 [some (.ref x), l1, l2] st σ = np_X 27 53 [some (.ref x), l1, l2] (.ref x :: st) σ := np_op k27 rfl rfl
theorem e27_52u  {l1 l2 : Option Value} {st : List Value} {σ : nv_St} : np_X 27 52 [some .null, l1, l2] st σ = np_X 27 53 [some .null, l1, l2] (.null :: st) σ := np_op k27 rfl rfl
theorem e27_53 {ls : nv_Ls} {st : List Value} {σ : nv_St} {a : Nat} : np_X 27 53 ls (.ref a :: st) σ = np_b (nv_fld σ 2 2 a) (fun v => np_X 27 56 ls (v :: st) σ) := np_get k27 rfl
theorem e27_56 (x : Nat) {l0 l2 : Option Value} {st : List Value} {σ : nv_St} : np_X 27 56 [l0, some (.ref x), l2] st σ = np_X 27 57 [l0, some (.ref x), l2] (.ref x :: st) σ := np_op k27 rfl rfl
theorem e27_56u  {l0 l2 : Option Value} {st : List Value} {σ : nv_St} : np_X 27 56 [l0, some .null, l2] st σ = np_X 27 57 [l0, some .null, l2] (.null :: st) σ := np_op k27 rfl rfl
theorem e27_57 {ls : nv_Ls} {st : List Value} {σ : nv_St} {a : Nat} : np_X 27 57 ls (.ref a :: st) σ = np_b (nv_fld σ 2 2 a) (fun v => np_X 27 60 ls (v :: st) σ) := np_get k27 rfl
theorem e27_60 {ls : nv_Ls} {st : List Value} {σ : nv_St} {a : Nat} {x0 : Nat} (h : st.length ≤ 4) (h0 : nv_isO σ 0 a = true) : np_X 27 60 ls (.ref x0 :: .ref a :: st) σ = np_aft 27 60 63 ls st (np_X 9 0 [some (.ref a), some (.ref x0)] [] σ) := np_call k27 rfl (Nat.le_add_left 2 _) rfl rfl h rfl h0 rfl
theorem e27_63 (x : Nat) {l1 l2 : Option Value} {st : List Value} {σ : nv_St} : np_X 27 63 [some (.ref x), l1, l2] st σ = np_X 27 64 [some (.ref x), l1, l2] (.ref x :: st) σ := np_op k27 rfl rfl
theorem e27_63u  {l1 l2 : Option Value} {st : List Value} {σ : nv_St} : np_X 27 63 [some .null, l1, l2] st σ = np_X 27 64 [some .null, l1, l2] (.null :: st) σ := np_op k27 rfl rfl
theorem e27_64 (x : Nat) {l0 l2 : Option Value} {st : List Value} {σ : nv_St} : np_X 27 64 [l0, some (.ref x), l2] st σ = np_X 27 65 [l0, some (.ref x), l2] (.ref x :: st) σ := np_op k27 rfl rfl
theorem e27_64u  {l0 l2 : Option Value} {st : List Value} {σ : nv_St} : np_X 27 64 [l0, some .null, l2] st σ = np_X 27 65 [l0, some .null, l2] (.null :: st) σ := np_op k27 rfl rfl
theorem e27_65 {ls : nv_Ls} {st : List Value} {σ : nv_St} {a : Nat} : np_X 27 65 ls (.ref a :: st) σ = np_b (nv_fld σ 2 3 a) (fun v => np_X 27 68 ls (v :: st) σ) := np_get k27 rfl
theorem e27_68 {ls : nv_Ls} {st : List Value} {σ : nv_St} {a : Nat} {v : Value} : np_X 27 68 ls (v :: .ref a :: st) σ = np_b (nv_sto σ 2 3 .int a v) (fun σ' => np_X 27 71 ls st σ') := np_put k27 rfl
theorem e27_71 (x : Nat) {l1 l2 : Option Value} {st : List Value} {σ : nv_St} : np_X 27 71 [some (.ref x), l1, l2] st σ = np_X 27 72 [some (.ref x), l1, l2] (.ref x :: st) σ := np_op k27 rfl rfl
theorem e27_71u  {l1 l2 : Option Value} {st : List Value} {σ : nv_St} : np_X 27 71 [some .null, l1, l2] st σ = np_X 27 72 [some .null, l1, l2] (.null :: st) σ := np_op k27 rfl rfl
theorem e27_72 (x : Nat) {l0 l2 : Option Value} {st : List Value} {σ : nv_St} : np_X 27 72 [l0, some (.ref x), l2] st σ = np_X 27 73 [l0, some (.ref x), l2] (.ref x :: st) σ := np_op k27 rfl rfl
theorem e27_72u  {l0 l2 : Option Value} {st : List Value} {σ : nv_St} : np_X 27 72 [l0, some .null, l2] st σ = np_X 27 73 [l0, some .null, l2] (.null :: st) σ := np_op k27 rfl rfl
theorem e27_73 {ls : nv_Ls} {st : List Value} {σ : nv_St} {a : Nat} : np_X 27 73 ls (.ref a :: st) σ = np_b (nv_fld σ 2 4 a) (fun v => np_X 27 76 ls (v :: st) σ) := np_get k27 rfl
theorem e27_76 {ls : nv_Ls} {st : List Value} {σ : nv_St} {a : Nat} {v : Value} : np_X 27 76 ls (v :: .ref a :: st) σ = np_b (nv_sto σ 2 4 .boolean a v) (fun σ' => np_X 27 79 ls st σ') := np_put k27 rfl
theorem e27_79 (x : Nat) {l1 l2 : Option Value} {st : List Value} {σ : nv_St} : np_X 27 79 [some (.ref x), l1, l2] st σ = np_X 27 80 [some (.ref x), l1, l2] (.ref x :: st) σ := np_op k27 rfl rfl
theorem e27_79u  {l1 l2 : Option Value} {st : List Value} {σ : nv_St} : np_X 27 79 [some .null, l1, l2] st σ = np_X 27 80 [some .null, l1, l2] (.null :: st) σ := np_op k27 rfl rfl
theorem e27_80 (x : Nat) {l0 l2 : Option Value} {st : List Value} {σ : nv_St} : np_X 27 80 [l0, some (.ref x), l2] st σ = np_X 27 81 [l0, some (.ref x), l2] (.ref x :: st) σ := np_op k27 rfl rfl
theorem e27_80u  {l0 l2 : Option Value} {st : List Value} {σ : nv_St} : np_X 27 80 [l0, some .null, l2] st σ = np_X 27 81 [l0, some .null, l2] (.null :: st) σ := np_op k27 rfl rfl
theorem e27_81 {ls : nv_Ls} {st : List Value} {σ : nv_St} {a : Nat} : np_X 27 81 ls (.ref a :: st) σ = np_b (nv_fld σ 2 5 a) (fun v => np_X 27 84 ls (v :: st) σ) := np_get k27 rfl
theorem e27_84 {ls : nv_Ls} {st : List Value} {σ : nv_St} {a : Nat} {v : Value} : np_X 27 84 ls (v :: .ref a :: st) σ = np_b (nv_sto σ 2 5 .int a v) (fun σ' => np_X 27 87 ls st σ') := np_put k27 rfl
theorem e27_87 (x : Nat) {l1 l2 : Option Value} {st : List Value} {σ : nv_St} : np_X 27 87 [some (.ref x), l1, l2] st σ = np_X 27 88 [some (.ref x), l1, l2] (.ref x :: st) σ := np_op k27 rfl rfl
theorem e27_87u  {l1 l2 : Option Value} {st : List Value} {σ : nv_St} : np_X 27 87 [some .null, l1, l2] st σ = np_X 27 88 [some .null, l1, l2] (.null :: st) σ := np_op k27 rfl rfl
theorem e27_88 (x : Nat) {l0 l2 : Option Value} {st : List Value} {σ : nv_St} : np_X 27 88 [l0, some (.ref x), l2] st σ = np_X 27 89 [l0, some (.ref x), l2] (.ref x :: st) σ := np_op k27 rfl rfl
theorem e27_88u  {l0 l2 : Option Value} {st : List Value} {σ : nv_St} : np_X 27 88 [l0, some .null, l2] st σ = np_X 27 89 [l0, some .null, l2] (.null :: st) σ := np_op k27 rfl rfl
theorem e27_89 {ls : nv_Ls} {st : List Value} {σ : nv_St} {a : Nat} : np_X 27 89 ls (.ref a :: st) σ = np_b (nv_fld σ 2 6 a) (fun v => np_X 27 92 ls (v :: st) σ) := np_get k27 rfl
theorem e27_92 {ls : nv_Ls} {st : List Value} {σ : nv_St} {a : Nat} {v : Value} : np_X 27 92 ls (v :: .ref a :: st) σ = np_b (nv_sto σ 2 6 .int a v) (fun σ' => np_X 27 95 ls st σ') := np_put k27 rfl
theorem e27_95 (x : Nat) {l1 l2 : Option Value} {st : List Value} {σ : nv_St} : np_X 27 95 [some (.ref x), l1, l2] st σ = np_X 27 96 [some (.ref x), l1, l2] (.ref x :: st) σ := np_op k27 rfl rfl
theorem e27_95u  {l1 l2 : Option Value} {st : List Value} {σ : nv_St} : np_X 27 95 [some .null, l1, l2] st σ = np_X 27 96 [some .null, l1, l2] (.null :: st) σ := np_op k27 rfl rfl
theorem e27_96 (x : Nat) {l0 l2 : Option Value} {st : List Value} {σ : nv_St} : np_X 27 96 [l0, some (.ref x), l2] st σ = np_X 27 97 [l0, some (.ref x), l2] (.ref x :: st) σ := np_op k27 rfl rfl
theorem e27_96u  {l0 l2 : Option Value} {st : List Value} {σ : nv_St} : np_X 27 96 [l0, some .null, l2] st σ = np_X 27 97 [l0, some .null, l2] (.null :: st) σ := np_op k27 rfl rfl
theorem e27_97 {ls : nv_Ls} {st : List Value} {σ : nv_St} {a : Nat} : np_X 27 97 ls (.ref a :: st) σ = np_b (nv_fld σ 2 7 a) (fun v => np_X 27 100 ls (v :: st) σ) := np_get k27 rfl
theorem e27_100 {ls : nv_Ls} {st : List Value} {σ : nv_St} {a : Nat} {v : Value} : np_X 27 100 ls (v :: .ref a :: st) σ = np_b (nv_sto σ 2 7 .int a v) (fun σ' => np_X 27 103 ls st σ') := np_put k27 rfl
theorem e27_103 (x : Nat) {l1 l2 : Option Value} {st : List Value} {σ : nv_St} : np_X 27 103 [some (.ref x), l1, l2] st σ = np_X 27 104 [some (.ref x), l1, l2] (.ref x :: st) σ := np_op k27 rfl rfl
theorem e27_103u  {l1 l2 : Option Value} {st : List Value} {σ : nv_St} : np_X 27 103 [some .null, l1, l2] st σ = np_X 27 104 [some .null, l1, l2] (.null :: st) σ := np_op k27 rfl rfl
theorem e27_104 (x : Nat) {l0 l2 : Option Value} {st : List Value} {σ : nv_St} : np_X 27 104 [l0, some (.ref x), l2] st σ = np_X 27 105 [l0, some (.ref x), l2] (.ref x :: st) σ := np_op k27 rfl rfl
theorem e27_104u  {l0 l2 : Option Value} {st : List Value} {σ : nv_St} : np_X 27 104 [l0, some .null, l2] st σ = np_X 27 105 [l0, some .null, l2] (.null :: st) σ := np_op k27 rfl rfl
theorem e27_105 {ls : nv_Ls} {st : List Value} {σ : nv_St} {a : Nat} : np_X 27 105 ls (.ref a :: st) σ = np_b (nv_fld σ 2 8 a) (fun v => np_X 27 108 ls (v :: st) σ) := np_get k27 rfl
theorem e27_108 {ls : nv_Ls} {st : List Value} {σ : nv_St} {a : Nat} {v : Value} : np_X 27 108 ls (v :: .ref a :: st) σ = np_b (nv_sto σ 2 8 .int a v) (fun σ' => np_X 27 111 ls st σ') := np_put k27 rfl
theorem e27_111 (x : Nat) {l1 l2 : Option Value} {st : List Value} {σ : nv_St} : np_X 27 111 [some (.ref x), l1, l2] st σ = np_X 27 112 [some (.ref x), l1, l2] (.ref x :: st) σ := np_op k27 rfl rfl
theorem e27_111u  {l1 l2 : Option Value} {st : List Value} {σ : nv_St} : np_X 27 111 [some .null, l1, l2] st σ = np_X 27 112 [some .null, l1, l2] (.null :: st) σ := np_op k27 rfl rfl
theorem e27_112 (x : Nat) {l0 l2 : Option Value} {st : List Value} {σ : nv_St} : np_X 27 112 [l0, some (.ref x), l2] st σ = np_X 27 113 [l0, some (.ref x), l2] (.ref x :: st) σ := np_op k27 rfl rfl
theorem e27_112u  {l0 l2 : Option Value} {st : List Value} {σ : nv_St} : np_X 27 112 [l0, some .null, l2] st σ = np_X 27 113 [l0, some .null, l2] (.null :: st) σ := np_op k27 rfl rfl
theorem e27_113 {ls : nv_Ls} {st : List Value} {σ : nv_St} {a : Nat} : np_X 27 113 ls (.ref a :: st) σ = np_b (nv_fld σ 2 9 a) (fun v => np_X 27 116 ls (v :: st) σ) := np_get k27 rfl
theorem e27_116 {ls : nv_Ls} {st : List Value} {σ : nv_St} {a : Nat} {v : Value} : np_X 27 116 ls (v :: .ref a :: st) σ = np_b (nv_sto σ 2 9 .int a v) (fun σ' => np_X 27 119 ls st σ') := np_put k27 rfl
theorem e27_119 (x : Nat) {l1 l2 : Option Value} {st : List Value} {σ : nv_St} : np_X 27 119 [some (.ref x), l1, l2] st σ = np_X 27 120 [some (.ref x), l1, l2] (.ref x :: st) σ := np_op k27 rfl rfl
theorem e27_119u  {l1 l2 : Option Value} {st : List Value} {σ : nv_St} : np_X 27 119 [some .null, l1, l2] st σ = np_X 27 120 [some .null, l1, l2] (.null :: st) σ := np_op k27 rfl rfl
theorem e27_120 (x : Nat) {l0 l2 : Option Value} {st : List Value} {σ : nv_St} : np_X 27 120 [l0, some (.ref x), l2] st σ = np_X 27 121 [l0, some (.ref x), l2] (.ref x :: st) σ := np_op k27 rfl rfl
theorem e27_120u  {l0 l2 : Option Value} {st : List Value} {σ : nv_St} : np_X 27 120 [l0, some .null, l2] st σ = np_X 27 121 [l0, some .null, l2] (.null :: st) σ := np_op k27 rfl rfl
theorem e27_121 {ls : nv_Ls} {st : List Value} {σ : nv_St} {a : Nat} : np_X 27 121 ls (.ref a :: st) σ = np_b (nv_fld σ 2 10 a) (fun v => np_X 27 124 ls (v :: st) σ) := np_get k27 rfl
theorem e27_124 {ls : nv_Ls} {st : List Value} {σ : nv_St} {a : Nat} {v : Value} : np_X 27 124 ls (v :: .ref a :: st) σ = np_b (nv_sto σ 2 10 .long a v) (fun σ' => np_X 27 127 ls st σ') := np_put k27 rfl
theorem e27_127 (x : Nat) {l1 l2 : Option Value} {st : List Value} {σ : nv_St} : np_X 27 127 [some (.ref x), l1, l2] st σ = np_X 27 128 [some (.ref x), l1, l2] (.ref x :: st) σ := np_op k27 rfl rfl
theorem e27_127u  {l1 l2 : Option Value} {st : List Value} {σ : nv_St} : np_X 27 127 [some .null, l1, l2] st σ = np_X 27 128 [some .null, l1, l2] (.null :: st) σ := np_op k27 rfl rfl
theorem e27_128 (x : Nat) {l0 l2 : Option Value} {st : List Value} {σ : nv_St} : np_X 27 128 [l0, some (.ref x), l2] st σ = np_X 27 129 [l0, some (.ref x), l2] (.ref x :: st) σ := np_op k27 rfl rfl
theorem e27_128u  {l0 l2 : Option Value} {st : List Value} {σ : nv_St} : np_X 27 128 [l0, some .null, l2] st σ = np_X 27 129 [l0, some .null, l2] (.null :: st) σ := np_op k27 rfl rfl
theorem e27_129 {ls : nv_Ls} {st : List Value} {σ : nv_St} {a : Nat} : np_X 27 129 ls (.ref a :: st) σ = np_b (nv_fld σ 2 11 a) (fun v => np_X 27 132 ls (v :: st) σ) := np_get k27 rfl
theorem e27_132 {ls : nv_Ls} {st : List Value} {σ : nv_St} {a : Nat} {v : Value} : np_X 27 132 ls (v :: .ref a :: st) σ = np_b (nv_sto σ 2 11 .int a v) (fun σ' => np_X 27 135 ls st σ') := np_put k27 rfl
theorem e27_135 {ls : nv_Ls} {σ : nv_St} : np_X 27 135 ls [] σ = some (.inl none, σ) := np_ret k27 rfl rfl
-- 28 SpoonNavy$Game.numbered
theorem k28 : np_P.1 28 = np_c28 := rfl
theorem e28_0 (x : Int32) {l0 : Option Value} {st : List Value} {σ : nv_St} : np_X 28 0 [l0, some (.int x)] st σ = np_X 28 1 [l0, some (.int x)] (.int x :: st) σ := np_op k28 rfl rfl
theorem e28_1 {ls : nv_Ls} {st : List Value} {σ : nv_St} {x : Int32} : np_X 28 1 ls (.int x :: st) σ = if x < 0 then np_X 28 21 ls st σ else np_X 28 4 ls st σ := np_br inferInstance k28 rfl rfl
theorem e28_4 (x : Int32) {l0 : Option Value} {st : List Value} {σ : nv_St} : np_X 28 4 [l0, some (.int x)] st σ = np_X 28 5 [l0, some (.int x)] (.int x :: st) σ := np_op k28 rfl rfl
theorem e28_5 (x : Nat) {l1 : Option Value} {st : List Value} {σ : nv_St} : np_X 28 5 [some (.ref x), l1] st σ = np_X 28 6 [some (.ref x), l1] (.ref x :: st) σ := np_op k28 rfl rfl
theorem e28_5u  {l1 : Option Value} {st : List Value} {σ : nv_St} : np_X 28 5 [some .null, l1] st σ = np_X 28 6 [some .null, l1] (.null :: st) σ := np_op k28 rfl rfl
theorem e28_6 {ls : nv_Ls} {st : List Value} {σ : nv_St} {a : Nat} : np_X 28 6 ls (.ref a :: st) σ = np_b (nv_fld σ 2 3 a) (fun v => np_X 28 9 ls (v :: st) σ) := np_get k28 rfl
theorem e28_9 {ls : nv_Ls} {st : List Value} {σ : nv_St} {x y : Int32} : np_X 28 9 ls (.int y :: .int x :: st) σ = if x < y then np_X 28 12 ls st σ else np_X 28 21 ls st σ := np_br inferInstance k28 rfl rfl
theorem e28_12 (x : Int32) {l0 : Option Value} {st : List Value} {σ : nv_St} : np_X 28 12 [l0, some (.int x)] st σ = np_X 28 13 [l0, some (.int x)] (.int x :: st) σ := np_op k28 rfl rfl
theorem e28_13 (x : Nat) {l1 : Option Value} {st : List Value} {σ : nv_St} : np_X 28 13 [some (.ref x), l1] st σ = np_X 28 14 [some (.ref x), l1] (.ref x :: st) σ := np_op k28 rfl rfl
theorem e28_13u  {l1 : Option Value} {st : List Value} {σ : nv_St} : np_X 28 13 [some .null, l1] st σ = np_X 28 14 [some .null, l1] (.null :: st) σ := np_op k28 rfl rfl
theorem e28_14 {ls : nv_Ls} {st : List Value} {σ : nv_St} {a : Nat} : np_X 28 14 ls (.ref a :: st) σ = np_b (nv_fld σ 2 0 a) (fun v => np_X 28 17 ls (v :: st) σ) := np_get k28 rfl
theorem e28_17 {ls : nv_Ls} {st : List Value} {σ : nv_St} {a : Nat} : np_X 28 17 ls (.ref a :: st) σ = np_b (nv_len σ 2 a) (fun m => np_X 28 18 ls (.int (Int32.ofNat m) :: st) σ) := np_alen k28 rfl
theorem e28_18 {ls : nv_Ls} {st : List Value} {σ : nv_St} {x y : Int32} : np_X 28 18 ls (.int y :: .int x :: st) σ = if x < y then np_X 28 23 ls st σ else np_X 28 21 ls st σ := np_br inferInstance k28 rfl rfl
theorem e28_21 {ls : nv_Ls} {st : List Value} {σ : nv_St} : np_X 28 21 ls st σ = np_X 28 22 ls (.null :: st) σ := np_op k28 rfl rfl
theorem e28_22 {ls : nv_Ls} {σ : nv_St} {a : Nat} : np_X 28 22 ls [.ref a] σ = some (.inl (some (.ref a)), σ) := np_ret k28 rfl rfl
theorem e28_22u {ls : nv_Ls} {σ : nv_St} : np_X 28 22 ls [.null] σ = some (.inl (some .null), σ) := np_ret k28 rfl rfl
theorem e28_23 (x : Nat) {l1 : Option Value} {st : List Value} {σ : nv_St} : np_X 28 23 [some (.ref x), l1] st σ = np_X 28 24 [some (.ref x), l1] (.ref x :: st) σ := np_op k28 rfl rfl
theorem e28_23u  {l1 : Option Value} {st : List Value} {σ : nv_St} : np_X 28 23 [some .null, l1] st σ = np_X 28 24 [some .null, l1] (.null :: st) σ := np_op k28 rfl rfl
theorem e28_24 {ls : nv_Ls} {st : List Value} {σ : nv_St} {a : Nat} : np_X 28 24 ls (.ref a :: st) σ = np_b (nv_fld σ 2 0 a) (fun v => np_X 28 27 ls (v :: st) σ) := np_get k28 rfl
theorem e28_27 (x : Int32) {l0 : Option Value} {st : List Value} {σ : nv_St} : np_X 28 27 [l0, some (.int x)] st σ = np_X 28 28 [l0, some (.int x)] (.int x :: st) σ := np_op k28 rfl rfl
theorem e28_28 {ls : nv_Ls} {st : List Value} {σ : nv_St} {a : Nat} {x : Int32} : np_X 28 28 ls (.int x :: .ref a :: st) σ = np_b (nv_rdq σ 2 a x) (fun v => np_X 28 29 ls (v :: st) σ) := np_aldq k28 rfl
theorem e28_29 {ls : nv_Ls} {σ : nv_St} {a : Nat} : np_X 28 29 ls [.ref a] σ = some (.inl (some (.ref a)), σ) := np_ret k28 rfl rfl
theorem e28_29u {ls : nv_Ls} {σ : nv_St} : np_X 28 29 ls [.null] σ = some (.inl (some .null), σ) := np_ret k28 rfl rfl
-- 29 SpoonNavy$Game.accountOf
theorem k29 : np_P.1 29 = np_c29 := rfl
theorem e29_0 (x : Int32) {l0 : Option Value} {st : List Value} {σ : nv_St} : np_X 29 0 [l0, some (.int x)] st σ = np_X 29 1 [l0, some (.int x)] (.int x :: st) σ := np_op k29 rfl rfl
theorem e29_1 {ls : nv_Ls} {st : List Value} {σ : nv_St} {x : Int32} : np_X 29 1 ls (.int x :: st) σ = if x = 0 then np_X 29 4 ls st σ else np_X 29 11 ls st σ := np_br inferInstance k29 rfl rfl
theorem e29_4 (x : Nat) {l1 : Option Value} {st : List Value} {σ : nv_St} : np_X 29 4 [some (.ref x), l1] st σ = np_X 29 5 [some (.ref x), l1] (.ref x :: st) σ := np_op k29 rfl rfl
theorem e29_4u  {l1 : Option Value} {st : List Value} {σ : nv_St} : np_X 29 4 [some .null, l1] st σ = np_X 29 5 [some .null, l1] (.null :: st) σ := np_op k29 rfl rfl
theorem e29_5 {ls : nv_Ls} {st : List Value} {σ : nv_St} {a : Nat} : np_X 29 5 ls (.ref a :: st) σ = np_b (nv_fld σ 2 1 a) (fun v => np_X 29 8 ls (v :: st) σ) := np_get k29 rfl
theorem e29_8 {ls : nv_Ls} {st : List Value} {σ : nv_St} : np_X 29 8 ls st σ = np_X 29 15 ls st σ := np_op k29 rfl rfl
theorem e29_11 (x : Nat) {l1 : Option Value} {st : List Value} {σ : nv_St} : np_X 29 11 [some (.ref x), l1] st σ = np_X 29 12 [some (.ref x), l1] (.ref x :: st) σ := np_op k29 rfl rfl
theorem e29_11u  {l1 : Option Value} {st : List Value} {σ : nv_St} : np_X 29 11 [some .null, l1] st σ = np_X 29 12 [some .null, l1] (.null :: st) σ := np_op k29 rfl rfl
theorem e29_12 {ls : nv_Ls} {st : List Value} {σ : nv_St} {a : Nat} : np_X 29 12 ls (.ref a :: st) σ = np_b (nv_fld σ 2 2 a) (fun v => np_X 29 15 ls (v :: st) σ) := np_get k29 rfl
theorem e29_15 {ls : nv_Ls} {σ : nv_St} {a : Nat} : np_X 29 15 ls [.ref a] σ = some (.inl (some (.ref a)), σ) := np_ret k29 rfl rfl
theorem e29_15u {ls : nv_Ls} {σ : nv_St} : np_X 29 15 ls [.null] σ = some (.inl (some .null), σ) := np_ret k29 rfl rfl
-- 30 SpoonNavy$Game.isOver
theorem k30 : np_P.1 30 = np_c30 := rfl
theorem e30_0 (x : Nat) {st : List Value} {σ : nv_St} : np_X 30 0 [some (.ref x)] st σ = np_X 30 1 [some (.ref x)] (.ref x :: st) σ := np_op k30 rfl rfl
theorem e30_0u  {st : List Value} {σ : nv_St} : np_X 30 0 [some .null] st σ = np_X 30 1 [some .null] (.null :: st) σ := np_op k30 rfl rfl
theorem e30_1 {ls : nv_Ls} {st : List Value} {σ : nv_St} {a : Nat} : np_X 30 1 ls (.ref a :: st) σ = np_b (nv_fld σ 2 4 a) (fun v => np_X 30 4 ls (v :: st) σ) := np_get k30 rfl
theorem e30_4 {ls : nv_Ls} {st : List Value} {σ : nv_St} {x : Int32} : np_X 30 4 ls (.int x :: st) σ = if x = 0 then np_X 30 31 ls st σ else np_X 30 7 ls st σ := np_br inferInstance k30 rfl rfl
theorem e30_7 (x : Nat) {st : List Value} {σ : nv_St} : np_X 30 7 [some (.ref x)] st σ = np_X 30 8 [some (.ref x)] (.ref x :: st) σ := np_op k30 rfl rfl
theorem e30_7u  {st : List Value} {σ : nv_St} : np_X 30 7 [some .null] st σ = np_X 30 8 [some .null] (.null :: st) σ := np_op k30 rfl rfl
theorem e30_8 {ls : nv_Ls} {st : List Value} {σ : nv_St} {a : Nat} : np_X 30 8 ls (.ref a :: st) σ = np_b (nv_fld σ 2 1 a) (fun v => np_X 30 11 ls (v :: st) σ) := np_get k30 rfl
theorem e30_11 {ls : nv_Ls} {st : List Value} {σ : nv_St} {a : Nat} : np_X 30 11 ls (.ref a :: st) σ = np_b (nv_fld σ 0 1 a) (fun v => np_X 30 14 ls (v :: st) σ) := np_get k30 rfl
theorem e30_14 {ls : nv_Ls} {st : List Value} {σ : nv_St} {x : Int32} : np_X 30 14 ls (.int x :: st) σ = if x = 0 then np_X 30 27 ls st σ else np_X 30 17 ls st σ := np_br inferInstance k30 rfl rfl
theorem e30_17 (x : Nat) {st : List Value} {σ : nv_St} : np_X 30 17 [some (.ref x)] st σ = np_X 30 18 [some (.ref x)] (.ref x :: st) σ := np_op k30 rfl rfl
theorem e30_17u  {st : List Value} {σ : nv_St} : np_X 30 17 [some .null] st σ = np_X 30 18 [some .null] (.null :: st) σ := np_op k30 rfl rfl
theorem e30_18 {ls : nv_Ls} {st : List Value} {σ : nv_St} {a : Nat} : np_X 30 18 ls (.ref a :: st) σ = np_b (nv_fld σ 2 2 a) (fun v => np_X 30 21 ls (v :: st) σ) := np_get k30 rfl
theorem e30_21 {ls : nv_Ls} {st : List Value} {σ : nv_St} {a : Nat} : np_X 30 21 ls (.ref a :: st) σ = np_b (nv_fld σ 0 1 a) (fun v => np_X 30 24 ls (v :: st) σ) := np_get k30 rfl
theorem e30_24 {ls : nv_Ls} {st : List Value} {σ : nv_St} {x : Int32} : np_X 30 24 ls (.int x :: st) σ = if x = 0 then np_X 30 27 ls st σ else np_X 30 31 ls st σ := np_br inferInstance k30 rfl rfl
theorem e30_27 {ls : nv_Ls} {st : List Value} {σ : nv_St} : np_X 30 27 ls st σ = np_X 30 28 ls (.int (1) :: st) σ := np_op k30 rfl rfl
theorem e30_28 {ls : nv_Ls} {st : List Value} {σ : nv_St} : np_X 30 28 ls st σ = np_X 30 32 ls st σ := np_op k30 rfl rfl
theorem e30_31 {ls : nv_Ls} {st : List Value} {σ : nv_St} : np_X 30 31 ls st σ = np_X 30 32 ls (.int (0) :: st) σ := np_op k30 rfl rfl
theorem e30_32 {ls : nv_Ls} {σ : nv_St} {x : Int32} (h : narrow .boolean (.int x) = .int x) : np_X 30 32 ls [.int x] σ = some (.inl (some (.int x)), σ) := np_reti k30 rfl h
-- 31 SpoonNavy$Game.isGoingOn
theorem k31 : np_P.1 31 = np_c31 := rfl
theorem e31_0 (x : Nat) {st : List Value} {σ : nv_St} : np_X 31 0 [some (.ref x)] st σ = np_X 31 1 [some (.ref x)] (.ref x :: st) σ := np_op k31 rfl rfl
theorem e31_0u  {st : List Value} {σ : nv_St} : np_X 31 0 [some .null] st σ = np_X 31 1 [some .null] (.null :: st) σ := np_op k31 rfl rfl
theorem e31_1 {ls : nv_Ls} {st : List Value} {σ : nv_St} {a : Nat} : np_X 31 1 ls (.ref a :: st) σ = np_b (nv_fld σ 2 4 a) (fun v => np_X 31 4 ls (v :: st) σ) := np_get k31 rfl
theorem e31_4 {ls : nv_Ls} {st : List Value} {σ : nv_St} {x : Int32} : np_X 31 4 ls (.int x :: st) σ = if x = 0 then np_X 31 18 ls st σ else np_X 31 7 ls st σ := np_br inferInstance k31 rfl rfl
theorem e31_7 (x : Nat) {st : List Value} {σ : nv_St} : np_X 31 7 [some (.ref x)] st σ = np_X 31 8 [some (.ref x)] (.ref x :: st) σ := np_op k31 rfl rfl
theorem e31_7u  {st : List Value} {σ : nv_St} : np_X 31 7 [some .null] st σ = np_X 31 8 [some .null] (.null :: st) σ := np_op k31 rfl rfl
theorem e31_8 {ls : nv_Ls} {st : List Value} {σ : nv_St} {a : Nat}  (h : st.length ≤ 4) (h0 : nv_isO σ 2 a = true) : np_X 31 8 ls (.ref a :: st) σ = np_aft 31 8 11 ls st (np_X 30 0 [some (.ref a)] [] σ) := np_call k31 rfl (Nat.le_add_left 1 _) rfl rfl h rfl h0 rfl
theorem e31_11 {ls : nv_Ls} {st : List Value} {σ : nv_St} {x : Int32} : np_X 31 11 ls (.int x :: st) σ = if x = 0 then np_X 31 14 ls st σ else np_X 31 18 ls st σ := np_br inferInstance k31 rfl rfl
theorem e31_14 {ls : nv_Ls} {st : List Value} {σ : nv_St} : np_X 31 14 ls st σ = np_X 31 15 ls (.int (1) :: st) σ := np_op k31 rfl rfl
theorem e31_15 {ls : nv_Ls} {st : List Value} {σ : nv_St} : np_X 31 15 ls st σ = np_X 31 19 ls st σ := np_op k31 rfl rfl
theorem e31_18 {ls : nv_Ls} {st : List Value} {σ : nv_St} : np_X 31 18 ls st σ = np_X 31 19 ls (.int (0) :: st) σ := np_op k31 rfl rfl
theorem e31_19 {ls : nv_Ls} {σ : nv_St} {x : Int32} (h : narrow .boolean (.int x) = .int x) : np_X 31 19 ls [.int x] σ = some (.inl (some (.int x)), σ) := np_reti k31 rfl h
-- 32 SpoonNavy$Game.spoonIn
theorem k32 : np_P.1 32 = np_c32 := rfl
theorem e32_0 (x : Nat) {l1 l2 l3 l4 l5 l6 : Option Value} {st : List Value} {σ : nv_St} : np_X 32 0 [some (.ref x), l1, l2, l3, l4, l5, l6] st σ = np_X 32 1 [some (.ref x), l1, l2, l3, l4, l5, l6] (.ref x :: st) σ := np_op k32 rfl rfl
theorem e32_0u  {l1 l2 l3 l4 l5 l6 : Option Value} {st : List Value} {σ : nv_St} : np_X 32 0 [some .null, l1, l2, l3, l4, l5, l6] st σ = np_X 32 1 [some .null, l1, l2, l3, l4, l5, l6] (.null :: st) σ := np_op k32 rfl rfl
theorem e32_1 {ls : nv_Ls} {st : List Value} {σ : nv_St} {a : Nat} : np_X 32 1 ls (.ref a :: st) σ = np_b (nv_fld σ 2 0 a) (fun v => np_X 32 4 ls (v :: st) σ) := np_get k32 rfl
theorem e32_4n (x : Nat) {l0 l1 l3 l4 l5 l6 : Option Value} {st : List Value} {σ : nv_St} : np_X 32 4 [l0, l1, none, l3, l4, l5, l6] (.ref x :: st) σ = np_X 32 5 [l0, l1, none, some (.ref x), l4, l5, l6] st σ := np_op k32 rfl rfl
theorem e32_4i (x : Nat) {z : Int32} {l0 l1 l3 l4 l5 l6 : Option Value} {st : List Value} {σ : nv_St} : np_X 32 4 [l0, l1, some (.int z), l3, l4, l5, l6] (.ref x :: st) σ = np_X 32 5 [l0, l1, some (.int z), some (.ref x), l4, l5, l6] st σ := np_op k32 rfl rfl
theorem e32_4r (x : Nat) {z : Nat} {l0 l1 l3 l4 l5 l6 : Option Value} {st : List Value} {σ : nv_St} : np_X 32 4 [l0, l1, some (.ref z), l3, l4, l5, l6] (.ref x :: st) σ = np_X 32 5 [l0, l1, some (.ref z), some (.ref x), l4, l5, l6] st σ := np_op k32 rfl rfl
theorem e32_4v (x : Nat) {l0 l1 l3 l4 l5 l6 : Option Value} {st : List Value} {σ : nv_St} : np_X 32 4 [l0, l1, some .null, l3, l4, l5, l6] (.ref x :: st) σ = np_X 32 5 [l0, l1, some .null, some (.ref x), l4, l5, l6] st σ := np_op k32 rfl rfl
theorem e32_4un  {l0 l1 l3 l4 l5 l6 : Option Value} {st : List Value} {σ : nv_St} : np_X 32 4 [l0, l1, none, l3, l4, l5, l6] (.null :: st) σ = np_X 32 5 [l0, l1, none, some .null, l4, l5, l6] st σ := np_op k32 rfl rfl
theorem e32_4ui  {z : Int32} {l0 l1 l3 l4 l5 l6 : Option Value} {st : List Value} {σ : nv_St} : np_X 32 4 [l0, l1, some (.int z), l3, l4, l5, l6] (.null :: st) σ = np_X 32 5 [l0, l1, some (.int z), some .null, l4, l5, l6] st σ := np_op k32 rfl rfl
theorem e32_4ur  {z : Nat} {l0 l1 l3 l4 l5 l6 : Option Value} {st : List Value} {σ : nv_St} : np_X 32 4 [l0, l1, some (.ref z), l3, l4, l5, l6] (.null :: st) σ = np_X 32 5 [l0, l1, some (.ref z), some .null, l4, l5, l6] st σ := np_op k32 rfl rfl
theorem e32_4uv  {l0 l1 l3 l4 l5 l6 : Option Value} {st : List Value} {σ : nv_St} : np_X 32 4 [l0, l1, some .null, l3, l4, l5, l6] (.null :: st) σ = np_X 32 5 [l0, l1, some .null, some .null, l4, l5, l6] st σ := np_op k32 rfl rfl
theorem e32_5 (x : Nat) {l0 l1 l2 l4 l5 l6 : Option Value} {st : List Value} {σ : nv_St} : np_X 32 5 [l0, l1, l2, some (.ref x), l4, l5, l6] st σ = np_X 32 6 [l0, l1, l2, some (.ref x), l4, l5, l6] (.ref x :: st) σ := np_op k32 rfl rfl
theorem e32_5u  {l0 l1 l2 l4 l5 l6 : Option Value} {st : List Value} {σ : nv_St} : np_X 32 5 [l0, l1, l2, some .null, l4, l5, l6] st σ = np_X 32 6 [l0, l1, l2, some .null, l4, l5, l6] (.null :: st) σ := np_op k32 rfl rfl
theorem e32_6 {ls : nv_Ls} {st : List Value} {σ : nv_St} {a : Nat} : np_X 32 6 ls (.ref a :: st) σ = np_b (nv_len σ 2 a) (fun m => np_X 32 7 ls (.int (Int32.ofNat m) :: st) σ) := np_alen k32 rfl
theorem e32_7n (x : Int32) {l0 l1 l2 l4 l5 l6 : Option Value} {st : List Value} {σ : nv_St} : np_X 32 7 [l0, l1, l2, none, l4, l5, l6] (.int x :: st) σ = np_X 32 9 [l0, l1, l2, none, some (.int x), l5, l6] st σ := np_op k32 rfl rfl
theorem e32_7i (x : Int32) {z : Int32} {l0 l1 l2 l4 l5 l6 : Option Value} {st : List Value} {σ : nv_St} : np_X 32 7 [l0, l1, l2, some (.int z), l4, l5, l6] (.int x :: st) σ = np_X 32 9 [l0, l1, l2, some (.int z), some (.int x), l5, l6] st σ := np_op k32 rfl rfl
theorem e32_7r (x : Int32) {z : Nat} {l0 l1 l2 l4 l5 l6 : Option Value} {st : List Value} {σ : nv_St} : np_X 32 7 [l0, l1, l2, some (.ref z), l4, l5, l6] (.int x :: st) σ = np_X 32 9 [l0, l1, l2, some (.ref z), some (.int x), l5, l6] st σ := np_op k32 rfl rfl
theorem e32_7v (x : Int32) {l0 l1 l2 l4 l5 l6 : Option Value} {st : List Value} {σ : nv_St} : np_X 32 7 [l0, l1, l2, some .null, l4, l5, l6] (.int x :: st) σ = np_X 32 9 [l0, l1, l2, some .null, some (.int x), l5, l6] st σ := np_op k32 rfl rfl
theorem e32_9 {ls : nv_Ls} {st : List Value} {σ : nv_St} : np_X 32 9 ls st σ = np_X 32 10 ls (.int (0) :: st) σ := np_op k32 rfl rfl
theorem e32_10n (x : Int32) {l0 l1 l2 l3 l5 l6 : Option Value} {st : List Value} {σ : nv_St} : np_X 32 10 [l0, l1, l2, l3, none, l5, l6] (.int x :: st) σ = np_X 32 12 [l0, l1, l2, l3, none, some (.int x), l6] st σ := np_op k32 rfl rfl
theorem e32_10i (x : Int32) {z : Int32} {l0 l1 l2 l3 l5 l6 : Option Value} {st : List Value} {σ : nv_St} : np_X 32 10 [l0, l1, l2, l3, some (.int z), l5, l6] (.int x :: st) σ = np_X 32 12 [l0, l1, l2, l3, some (.int z), some (.int x), l6] st σ := np_op k32 rfl rfl
theorem e32_10r (x : Int32) {z : Nat} {l0 l1 l2 l3 l5 l6 : Option Value} {st : List Value} {σ : nv_St} : np_X 32 10 [l0, l1, l2, l3, some (.ref z), l5, l6] (.int x :: st) σ = np_X 32 12 [l0, l1, l2, l3, some (.ref z), some (.int x), l6] st σ := np_op k32 rfl rfl
theorem e32_10v (x : Int32) {l0 l1 l2 l3 l5 l6 : Option Value} {st : List Value} {σ : nv_St} : np_X 32 10 [l0, l1, l2, l3, some .null, l5, l6] (.int x :: st) σ = np_X 32 12 [l0, l1, l2, l3, some .null, some (.int x), l6] st σ := np_op k32 rfl rfl
theorem e32_12 (x : Int32) {l0 l1 l2 l3 l4 l6 : Option Value} {st : List Value} {σ : nv_St} : np_X 32 12 [l0, l1, l2, l3, l4, some (.int x), l6] st σ = np_X 32 14 [l0, l1, l2, l3, l4, some (.int x), l6] (.int x :: st) σ := np_op k32 rfl rfl
theorem e32_14 (x : Int32) {l0 l1 l2 l3 l5 l6 : Option Value} {st : List Value} {σ : nv_St} : np_X 32 14 [l0, l1, l2, l3, some (.int x), l5, l6] st σ = np_X 32 16 [l0, l1, l2, l3, some (.int x), l5, l6] (.int x :: st) σ := np_op k32 rfl rfl
theorem e32_16 {ls : nv_Ls} {st : List Value} {σ : nv_St} {x y : Int32} : np_X 32 16 ls (.int y :: .int x :: st) σ = if x < y then np_X 32 19 ls st σ else np_X 32 52 ls st σ := np_br inferInstance k32 rfl rfl
theorem e32_19 (x : Nat) {l0 l1 l2 l4 l5 l6 : Option Value} {st : List Value} {σ : nv_St} : np_X 32 19 [l0, l1, l2, some (.ref x), l4, l5, l6] st σ = np_X 32 20 [l0, l1, l2, some (.ref x), l4, l5, l6] (.ref x :: st) σ := np_op k32 rfl rfl
theorem e32_19u  {l0 l1 l2 l4 l5 l6 : Option Value} {st : List Value} {σ : nv_St} : np_X 32 19 [l0, l1, l2, some .null, l4, l5, l6] st σ = np_X 32 20 [l0, l1, l2, some .null, l4, l5, l6] (.null :: st) σ := np_op k32 rfl rfl
theorem e32_20 (x : Int32) {l0 l1 l2 l3 l4 l6 : Option Value} {st : List Value} {σ : nv_St} : np_X 32 20 [l0, l1, l2, l3, l4, some (.int x), l6] st σ = np_X 32 22 [l0, l1, l2, l3, l4, some (.int x), l6] (.int x :: st) σ := np_op k32 rfl rfl
theorem e32_22 {ls : nv_Ls} {st : List Value} {σ : nv_St} {a : Nat} {x : Int32} : np_X 32 22 ls (.int x :: .ref a :: st) σ = np_b (nv_rdq σ 2 a x) (fun v => np_X 32 23 ls (v :: st) σ) := np_aldq k32 rfl
theorem e32_23n (x : Nat) {l0 l1 l2 l3 l4 l6 : Option Value} {st : List Value} {σ : nv_St} : np_X 32 23 [l0, l1, l2, l3, l4, none, l6] (.ref x :: st) σ = np_X 32 25 [l0, l1, l2, l3, l4, none, some (.ref x)] st σ := np_op k32 rfl rfl
theorem e32_23i (x : Nat) {z : Int32} {l0 l1 l2 l3 l4 l6 : Option Value} {st : List Value} {σ : nv_St} : np_X 32 23 [l0, l1, l2, l3, l4, some (.int z), l6] (.ref x :: st) σ = np_X 32 25 [l0, l1, l2, l3, l4, some (.int z), some (.ref x)] st σ := np_op k32 rfl rfl
theorem e32_23r (x : Nat) {z : Nat} {l0 l1 l2 l3 l4 l6 : Option Value} {st : List Value} {σ : nv_St} : np_X 32 23 [l0, l1, l2, l3, l4, some (.ref z), l6] (.ref x :: st) σ = np_X 32 25 [l0, l1, l2, l3, l4, some (.ref z), some (.ref x)] st σ := np_op k32 rfl rfl
theorem e32_23v (x : Nat) {l0 l1 l2 l3 l4 l6 : Option Value} {st : List Value} {σ : nv_St} : np_X 32 23 [l0, l1, l2, l3, l4, some .null, l6] (.ref x :: st) σ = np_X 32 25 [l0, l1, l2, l3, l4, some .null, some (.ref x)] st σ := np_op k32 rfl rfl
theorem e32_23un  {l0 l1 l2 l3 l4 l6 : Option Value} {st : List Value} {σ : nv_St} : np_X 32 23 [l0, l1, l2, l3, l4, none, l6] (.null :: st) σ = np_X 32 25 [l0, l1, l2, l3, l4, none, some .null] st σ := np_op k32 rfl rfl
theorem e32_23ui  {z : Int32} {l0 l1 l2 l3 l4 l6 : Option Value} {st : List Value} {σ : nv_St} : np_X 32 23 [l0, l1, l2, l3, l4, some (.int z), l6] (.null :: st) σ = np_X 32 25 [l0, l1, l2, l3, l4, some (.int z), some .null] st σ := np_op k32 rfl rfl
theorem e32_23ur  {z : Nat} {l0 l1 l2 l3 l4 l6 : Option Value} {st : List Value} {σ : nv_St} : np_X 32 23 [l0, l1, l2, l3, l4, some (.ref z), l6] (.null :: st) σ = np_X 32 25 [l0, l1, l2, l3, l4, some (.ref z), some .null] st σ := np_op k32 rfl rfl
theorem e32_23uv  {l0 l1 l2 l3 l4 l6 : Option Value} {st : List Value} {σ : nv_St} : np_X 32 23 [l0, l1, l2, l3, l4, some .null, l6] (.null :: st) σ = np_X 32 25 [l0, l1, l2, l3, l4, some .null, some .null] st σ := np_op k32 rfl rfl
theorem e32_25 (x : Nat) {l0 l1 l2 l3 l4 l5 : Option Value} {st : List Value} {σ : nv_St} : np_X 32 25 [l0, l1, l2, l3, l4, l5, some (.ref x)] st σ = np_X 32 27 [l0, l1, l2, l3, l4, l5, some (.ref x)] (.ref x :: st) σ := np_op k32 rfl rfl
theorem e32_25u  {l0 l1 l2 l3 l4 l5 : Option Value} {st : List Value} {σ : nv_St} : np_X 32 25 [l0, l1, l2, l3, l4, l5, some .null] st σ = np_X 32 27 [l0, l1, l2, l3, l4, l5, some .null] (.null :: st) σ := np_op k32 rfl rfl
theorem e32_27 {ls : nv_Ls} {st : List Value} {σ : nv_St} {a : Nat}  (h : st.length ≤ 4) (h0 : nv_isO σ 4 a = true) : np_X 32 27 ls (.ref a :: st) σ = np_aft 32 27 30 ls st (np_X 62 0 [some (.ref a)] [] σ) := np_call k32 rfl (Nat.le_add_left 1 _) rfl rfl h rfl h0 rfl
theorem e32_30 {ls : nv_Ls} {st : List Value} {σ : nv_St} {x : Int32} : np_X 32 30 ls (.int x :: st) σ = if x = 0 then np_X 32 46 ls st σ else np_X 32 33 ls st σ := np_br inferInstance k32 rfl rfl
theorem e32_33 (x : Nat) {l0 l1 l2 l3 l4 l5 : Option Value} {st : List Value} {σ : nv_St} : np_X 32 33 [l0, l1, l2, l3, l4, l5, some (.ref x)] st σ = np_X 32 35 [l0, l1, l2, l3, l4, l5, some (.ref x)] (.ref x :: st) σ := np_op k32 rfl rfl
theorem e32_33u  {l0 l1 l2 l3 l4 l5 : Option Value} {st : List Value} {σ : nv_St} : np_X 32 33 [l0, l1, l2, l3, l4, l5, some .null] st σ = np_X 32 35 [l0, l1, l2, l3, l4, l5, some .null] (.null :: st) σ := np_op k32 rfl rfl
theorem e32_35 (x : Int32) {l0 l2 l3 l4 l5 l6 : Option Value} {st : List Value} {σ : nv_St} : np_X 32 35 [l0, some (.int x), l2, l3, l4, l5, l6] st σ = np_X 32 36 [l0, some (.int x), l2, l3, l4, l5, l6] (.int x :: st) σ := np_op k32 rfl rfl
theorem e32_36 (x : Int32) {l0 l1 l3 l4 l5 l6 : Option Value} {st : List Value} {σ : nv_St} : np_X 32 36 [l0, l1, some (.int x), l3, l4, l5, l6] st σ = np_X 32 37 [l0, l1, some (.int x), l3, l4, l5, l6] (.int x :: st) σ := np_op k32 rfl rfl
theorem e32_37 {ls : nv_Ls} {st : List Value} {σ : nv_St} {a : Nat} {x0 : Int32} {x1 : Int32} (h : st.length ≤ 4) (h0 : nv_isO σ 4 a = true) : np_X 32 37 ls (.int x1 :: .int x0 :: .ref a :: st) σ = np_aft 32 37 40 ls st (np_X 64 0 [some (.ref a), some (.int x0), some (.int x1)] [] σ) := np_call k32 rfl (Nat.le_add_left 3 _) rfl rfl h rfl h0 rfl
theorem e32_40 {ls : nv_Ls} {st : List Value} {σ : nv_St} {x : Int32} : np_X 32 40 ls (.int x :: st) σ = if x = 0 then np_X 32 46 ls st σ else np_X 32 43 ls st σ := np_br inferInstance k32 rfl rfl
theorem e32_43 (x : Nat) {l0 l1 l2 l3 l4 l5 : Option Value} {st : List Value} {σ : nv_St} : np_X 32 43 [l0, l1, l2, l3, l4, l5, some (.ref x)] st σ = np_X 32 45 [l0, l1, l2, l3, l4, l5, some (.ref x)] (.ref x :: st) σ := np_op k32 rfl rfl
theorem e32_43u  {l0 l1 l2 l3 l4 l5 : Option Value} {st : List Value} {σ : nv_St} : np_X 32 43 [l0, l1, l2, l3, l4, l5, some .null] st σ = np_X 32 45 [l0, l1, l2, l3, l4, l5, some .null] (.null :: st) σ := np_op k32 rfl rfl
theorem e32_45 {ls : nv_Ls} {σ : nv_St} {a : Nat} : np_X 32 45 ls [.ref a] σ = some (.inl (some (.ref a)), σ) := np_ret k32 rfl rfl
theorem e32_45u {ls : nv_Ls} {σ : nv_St} : np_X 32 45 ls [.null] σ = some (.inl (some .null), σ) := np_ret k32 rfl rfl
theorem e32_46n (x : Int32) {l0 l1 l2 l3 l6 : Option Value} {st : List Value} {σ : nv_St} : np_X 32 46 [l0, l1, l2, l3, none, some (.int x), l6] st σ = np_X 32 49 [l0, l1, l2, l3, none, some (.int (x + (1))), l6] st σ := np_op k32 rfl rfl
theorem e32_46i (x : Int32) {z : Int32} {l0 l1 l2 l3 l6 : Option Value} {st : List Value} {σ : nv_St} : np_X 32 46 [l0, l1, l2, l3, some (.int z), some (.int x), l6] st σ = np_X 32 49 [l0, l1, l2, l3, some (.int z), some (.int (x + (1))), l6] st σ := np_op k32 rfl rfl
theorem e32_46r (x : Int32) {z : Nat} {l0 l1 l2 l3 l6 : Option Value} {st : List Value} {σ : nv_St} : np_X 32 46 [l0, l1, l2, l3, some (.ref z), some (.int x), l6] st σ = np_X 32 49 [l0, l1, l2, l3, some (.ref z), some (.int (x + (1))), l6] st σ := np_op k32 rfl rfl
theorem e32_46v (x : Int32) {l0 l1 l2 l3 l6 : Option Value} {st : List Value} {σ : nv_St} : np_X 32 46 [l0, l1, l2, l3, some .null, some (.int x), l6] st σ = np_X 32 49 [l0, l1, l2, l3, some .null, some (.int (x + (1))), l6] st σ := np_op k32 rfl rfl
theorem e32_49 {ls : nv_Ls} {st : List Value} {σ : nv_St} : np_X 32 49 ls st σ = np_X 32 12 ls st σ := np_op k32 rfl rfl
theorem e32_52 {ls : nv_Ls} {st : List Value} {σ : nv_St} : np_X 32 52 ls st σ = np_X 32 53 ls (.null :: st) σ := np_op k32 rfl rfl
theorem e32_53 {ls : nv_Ls} {σ : nv_St} {a : Nat} : np_X 32 53 ls [.ref a] σ = some (.inl (some (.ref a)), σ) := np_ret k32 rfl rfl
theorem e32_53u {ls : nv_Ls} {σ : nv_St} : np_X 32 53 ls [.null] σ = some (.inl (some .null), σ) := np_ret k32 rfl rfl
-- 33 SpoonNavy$Game.ranked
theorem k33 : np_P.1 33 = np_c33 := rfl
theorem e33_0 (x : Nat) {l1 l2 l3 l4 l5 : Option Value} {st : List Value} {σ : nv_St} : np_X 33 0 [some (.ref x), l1, l2, l3, l4, l5] st σ = np_X 33 1 [some (.ref x), l1, l2, l3, l4, l5] (.ref x :: st) σ := np_op k33 rfl rfl
theorem e33_0u  {l1 l2 l3 l4 l5 : Option Value} {st : List Value} {σ : nv_St} : np_X 33 0 [some .null, l1, l2, l3, l4, l5] st σ = np_X 33 1 [some .null, l1, l2, l3, l4, l5] (.null :: st) σ := np_op k33 rfl rfl
theorem e33_1 {ls : nv_Ls} {st : List Value} {σ : nv_St} {a : Nat} : np_X 33 1 ls (.ref a :: st) σ = np_b (nv_fld σ 2 0 a) (fun v => np_X 33 4 ls (v :: st) σ) := np_get k33 rfl
theorem e33_4n (x : Nat) {l0 l2 l3 l4 l5 : Option Value} {st : List Value} {σ : nv_St} : np_X 33 4 [l0, none, l2, l3, l4, l5] (.ref x :: st) σ = np_X 33 5 [l0, none, some (.ref x), l3, l4, l5] st σ := np_op k33 rfl rfl
theorem e33_4i (x : Nat) {z : Int32} {l0 l2 l3 l4 l5 : Option Value} {st : List Value} {σ : nv_St} : np_X 33 4 [l0, some (.int z), l2, l3, l4, l5] (.ref x :: st) σ = np_X 33 5 [l0, some (.int z), some (.ref x), l3, l4, l5] st σ := np_op k33 rfl rfl
theorem e33_4r (x : Nat) {z : Nat} {l0 l2 l3 l4 l5 : Option Value} {st : List Value} {σ : nv_St} : np_X 33 4 [l0, some (.ref z), l2, l3, l4, l5] (.ref x :: st) σ = np_X 33 5 [l0, some (.ref z), some (.ref x), l3, l4, l5] st σ := np_op k33 rfl rfl
theorem e33_4v (x : Nat) {l0 l2 l3 l4 l5 : Option Value} {st : List Value} {σ : nv_St} : np_X 33 4 [l0, some .null, l2, l3, l4, l5] (.ref x :: st) σ = np_X 33 5 [l0, some .null, some (.ref x), l3, l4, l5] st σ := np_op k33 rfl rfl
theorem e33_4un  {l0 l2 l3 l4 l5 : Option Value} {st : List Value} {σ : nv_St} : np_X 33 4 [l0, none, l2, l3, l4, l5] (.null :: st) σ = np_X 33 5 [l0, none, some .null, l3, l4, l5] st σ := np_op k33 rfl rfl
theorem e33_4ui  {z : Int32} {l0 l2 l3 l4 l5 : Option Value} {st : List Value} {σ : nv_St} : np_X 33 4 [l0, some (.int z), l2, l3, l4, l5] (.null :: st) σ = np_X 33 5 [l0, some (.int z), some .null, l3, l4, l5] st σ := np_op k33 rfl rfl
theorem e33_4ur  {z : Nat} {l0 l2 l3 l4 l5 : Option Value} {st : List Value} {σ : nv_St} : np_X 33 4 [l0, some (.ref z), l2, l3, l4, l5] (.null :: st) σ = np_X 33 5 [l0, some (.ref z), some .null, l3, l4, l5] st σ := np_op k33 rfl rfl
theorem e33_4uv  {l0 l2 l3 l4 l5 : Option Value} {st : List Value} {σ : nv_St} : np_X 33 4 [l0, some .null, l2, l3, l4, l5] (.null :: st) σ = np_X 33 5 [l0, some .null, some .null, l3, l4, l5] st σ := np_op k33 rfl rfl
theorem e33_5 (x : Nat) {l0 l1 l3 l4 l5 : Option Value} {st : List Value} {σ : nv_St} : np_X 33 5 [l0, l1, some (.ref x), l3, l4, l5] st σ = np_X 33 6 [l0, l1, some (.ref x), l3, l4, l5] (.ref x :: st) σ := np_op k33 rfl rfl
theorem e33_5u  {l0 l1 l3 l4 l5 : Option Value} {st : List Value} {σ : nv_St} : np_X 33 5 [l0, l1, some .null, l3, l4, l5] st σ = np_X 33 6 [l0, l1, some .null, l3, l4, l5] (.null :: st) σ := np_op k33 rfl rfl
theorem e33_6 {ls : nv_Ls} {st : List Value} {σ : nv_St} {a : Nat} : np_X 33 6 ls (.ref a :: st) σ = np_b (nv_len σ 2 a) (fun m => np_X 33 7 ls (.int (Int32.ofNat m) :: st) σ) := np_alen k33 rfl
theorem e33_7n (x : Int32) {l0 l1 l3 l4 l5 : Option Value} {st : List Value} {σ : nv_St} : np_X 33 7 [l0, l1, none, l3, l4, l5] (.int x :: st) σ = np_X 33 8 [l0, l1, none, some (.int x), l4, l5] st σ := np_op k33 rfl rfl
theorem e33_7i (x : Int32) {z : Int32} {l0 l1 l3 l4 l5 : Option Value} {st : List Value} {σ : nv_St} : np_X 33 7 [l0, l1, some (.int z), l3, l4, l5] (.int x :: st) σ = np_X 33 8 [l0, l1, some (.int z), some (.int x), l4, l5] st σ := np_op k33 rfl rfl
theorem e33_7r (x : Int32) {z : Nat} {l0 l1 l3 l4 l5 : Option Value} {st : List Value} {σ : nv_St} : np_X 33 7 [l0, l1, some (.ref z), l3, l4, l5] (.int x :: st) σ = np_X 33 8 [l0, l1, some (.ref z), some (.int x), l4, l5] st σ := np_op k33 rfl rfl
theorem e33_7v (x : Int32) {l0 l1 l3 l4 l5 : Option Value} {st : List Value} {σ : nv_St} : np_X 33 7 [l0, l1, some .null, l3, l4, l5] (.int x :: st) σ = np_X 33 8 [l0, l1, some .null, some (.int x), l4, l5] st σ := np_op k33 rfl rfl
theorem e33_8 {ls : nv_Ls} {st : List Value} {σ : nv_St} : np_X 33 8 ls st σ = np_X 33 9 ls (.int (0) :: st) σ := np_op k33 rfl rfl
theorem e33_9n (x : Int32) {l0 l1 l2 l4 l5 : Option Value} {st : List Value} {σ : nv_St} : np_X 33 9 [l0, l1, l2, none, l4, l5] (.int x :: st) σ = np_X 33 11 [l0, l1, l2, none, some (.int x), l5] st σ := np_op k33 rfl rfl
theorem e33_9i (x : Int32) {z : Int32} {l0 l1 l2 l4 l5 : Option Value} {st : List Value} {σ : nv_St} : np_X 33 9 [l0, l1, l2, some (.int z), l4, l5] (.int x :: st) σ = np_X 33 11 [l0, l1, l2, some (.int z), some (.int x), l5] st σ := np_op k33 rfl rfl
theorem e33_9r (x : Int32) {z : Nat} {l0 l1 l2 l4 l5 : Option Value} {st : List Value} {σ : nv_St} : np_X 33 9 [l0, l1, l2, some (.ref z), l4, l5] (.int x :: st) σ = np_X 33 11 [l0, l1, l2, some (.ref z), some (.int x), l5] st σ := np_op k33 rfl rfl
theorem e33_9v (x : Int32) {l0 l1 l2 l4 l5 : Option Value} {st : List Value} {σ : nv_St} : np_X 33 9 [l0, l1, l2, some .null, l4, l5] (.int x :: st) σ = np_X 33 11 [l0, l1, l2, some .null, some (.int x), l5] st σ := np_op k33 rfl rfl
theorem e33_11 (x : Int32) {l0 l1 l2 l3 l5 : Option Value} {st : List Value} {σ : nv_St} : np_X 33 11 [l0, l1, l2, l3, some (.int x), l5] st σ = np_X 33 13 [l0, l1, l2, l3, some (.int x), l5] (.int x :: st) σ := np_op k33 rfl rfl
theorem e33_13 (x : Int32) {l0 l1 l2 l4 l5 : Option Value} {st : List Value} {σ : nv_St} : np_X 33 13 [l0, l1, l2, some (.int x), l4, l5] st σ = np_X 33 14 [l0, l1, l2, some (.int x), l4, l5] (.int x :: st) σ := np_op k33 rfl rfl
theorem e33_14 {ls : nv_Ls} {st : List Value} {σ : nv_St} {x y : Int32} : np_X 33 14 ls (.int y :: .int x :: st) σ = if x < y then np_X 33 17 ls st σ else np_X 33 50 ls st σ := np_br inferInstance k33 rfl rfl
theorem e33_17 (x : Nat) {l0 l1 l3 l4 l5 : Option Value} {st : List Value} {σ : nv_St} : np_X 33 17 [l0, l1, some (.ref x), l3, l4, l5] st σ = np_X 33 18 [l0, l1, some (.ref x), l3, l4, l5] (.ref x :: st) σ := np_op k33 rfl rfl
theorem e33_17u  {l0 l1 l3 l4 l5 : Option Value} {st : List Value} {σ : nv_St} : np_X 33 17 [l0, l1, some .null, l3, l4, l5] st σ = np_X 33 18 [l0, l1, some .null, l3, l4, l5] (.null :: st) σ := np_op k33 rfl rfl
theorem e33_18 (x : Int32) {l0 l1 l2 l3 l5 : Option Value} {st : List Value} {σ : nv_St} : np_X 33 18 [l0, l1, l2, l3, some (.int x), l5] st σ = np_X 33 20 [l0, l1, l2, l3, some (.int x), l5] (.int x :: st) σ := np_op k33 rfl rfl
theorem e33_20 {ls : nv_Ls} {st : List Value} {σ : nv_St} {a : Nat} {x : Int32} : np_X 33 20 ls (.int x :: .ref a :: st) σ = np_b (nv_rdq σ 2 a x) (fun v => np_X 33 21 ls (v :: st) σ) := np_aldq k33 rfl
theorem e33_21n (x : Nat) {l0 l1 l2 l3 l5 : Option Value} {st : List Value} {σ : nv_St} : np_X 33 21 [l0, l1, l2, l3, none, l5] (.ref x :: st) σ = np_X 33 23 [l0, l1, l2, l3, none, some (.ref x)] st σ := np_op k33 rfl rfl
theorem e33_21i (x : Nat) {z : Int32} {l0 l1 l2 l3 l5 : Option Value} {st : List Value} {σ : nv_St} : np_X 33 21 [l0, l1, l2, l3, some (.int z), l5] (.ref x :: st) σ = np_X 33 23 [l0, l1, l2, l3, some (.int z), some (.ref x)] st σ := np_op k33 rfl rfl
theorem e33_21r (x : Nat) {z : Nat} {l0 l1 l2 l3 l5 : Option Value} {st : List Value} {σ : nv_St} : np_X 33 21 [l0, l1, l2, l3, some (.ref z), l5] (.ref x :: st) σ = np_X 33 23 [l0, l1, l2, l3, some (.ref z), some (.ref x)] st σ := np_op k33 rfl rfl
theorem e33_21v (x : Nat) {l0 l1 l2 l3 l5 : Option Value} {st : List Value} {σ : nv_St} : np_X 33 21 [l0, l1, l2, l3, some .null, l5] (.ref x :: st) σ = np_X 33 23 [l0, l1, l2, l3, some .null, some (.ref x)] st σ := np_op k33 rfl rfl
theorem e33_21un  {l0 l1 l2 l3 l5 : Option Value} {st : List Value} {σ : nv_St} : np_X 33 21 [l0, l1, l2, l3, none, l5] (.null :: st) σ = np_X 33 23 [l0, l1, l2, l3, none, some .null] st σ := np_op k33 rfl rfl
theorem e33_21ui  {z : Int32} {l0 l1 l2 l3 l5 : Option Value} {st : List Value} {σ : nv_St} : np_X 33 21 [l0, l1, l2, l3, some (.int z), l5] (.null :: st) σ = np_X 33 23 [l0, l1, l2, l3, some (.int z), some .null] st σ := np_op k33 rfl rfl
theorem e33_21ur  {z : Nat} {l0 l1 l2 l3 l5 : Option Value} {st : List Value} {σ : nv_St} : np_X 33 21 [l0, l1, l2, l3, some (.ref z), l5] (.null :: st) σ = np_X 33 23 [l0, l1, l2, l3, some (.ref z), some .null] st σ := np_op k33 rfl rfl
theorem e33_21uv  {l0 l1 l2 l3 l5 : Option Value} {st : List Value} {σ : nv_St} : np_X 33 21 [l0, l1, l2, l3, some .null, l5] (.null :: st) σ = np_X 33 23 [l0, l1, l2, l3, some .null, some .null] st σ := np_op k33 rfl rfl
theorem e33_23 (x : Nat) {l0 l1 l2 l3 l4 : Option Value} {st : List Value} {σ : nv_St} : np_X 33 23 [l0, l1, l2, l3, l4, some (.ref x)] st σ = np_X 33 25 [l0, l1, l2, l3, l4, some (.ref x)] (.ref x :: st) σ := np_op k33 rfl rfl
theorem e33_23u  {l0 l1 l2 l3 l4 : Option Value} {st : List Value} {σ : nv_St} : np_X 33 23 [l0, l1, l2, l3, l4, some .null] st σ = np_X 33 25 [l0, l1, l2, l3, l4, some .null] (.null :: st) σ := np_op k33 rfl rfl
theorem e33_25 {ls : nv_Ls} {st : List Value} {σ : nv_St} {a : Nat}  (h : st.length ≤ 4) (h0 : nv_isO σ 4 a = true) : np_X 33 25 ls (.ref a :: st) σ = np_aft 33 25 28 ls st (np_X 62 0 [some (.ref a)] [] σ) := np_call k33 rfl (Nat.le_add_left 1 _) rfl rfl h rfl h0 rfl
theorem e33_28 {ls : nv_Ls} {st : List Value} {σ : nv_St} {x : Int32} : np_X 33 28 ls (.int x :: st) σ = if x = 0 then np_X 33 44 ls st σ else np_X 33 31 ls st σ := np_br inferInstance k33 rfl rfl
theorem e33_31 (x : Nat) {l1 l2 l3 l4 l5 : Option Value} {st : List Value} {σ : nv_St} : np_X 33 31 [some (.ref x), l1, l2, l3, l4, l5] st σ = np_X 33 32 [some (.ref x), l1, l2, l3, l4, l5] (.ref x :: st) σ := np_op k33 rfl rfl
theorem e33_31u  {l1 l2 l3 l4 l5 : Option Value} {st : List Value} {σ : nv_St} : np_X 33 31 [some .null, l1, l2, l3, l4, l5] st σ = np_X 33 32 [some .null, l1, l2, l3, l4, l5] (.null :: st) σ := np_op k33 rfl rfl
theorem e33_32 (x : Nat) {l0 l1 l2 l3 l4 : Option Value} {st : List Value} {σ : nv_St} : np_X 33 32 [l0, l1, l2, l3, l4, some (.ref x)] st σ = np_X 33 34 [l0, l1, l2, l3, l4, some (.ref x)] (.ref x :: st) σ := np_op k33 rfl rfl
theorem e33_32u  {l0 l1 l2 l3 l4 : Option Value} {st : List Value} {σ : nv_St} : np_X 33 32 [l0, l1, l2, l3, l4, some .null] st σ = np_X 33 34 [l0, l1, l2, l3, l4, some .null] (.null :: st) σ := np_op k33 rfl rfl
theorem e33_34 {ls : nv_Ls} {st : List Value} {σ : nv_St} {a : Nat} {x0 : Nat} (h : st.length ≤ 4) (h0 : nv_isO σ 2 a = true) : np_X 33 34 ls (.ref x0 :: .ref a :: st) σ = np_aft 33 34 37 ls st (np_X 34 0 [some (.ref a), some (.ref x0), none, none, none, none, none] [] σ) := np_call k33 rfl (Nat.le_add_left 2 _) rfl rfl h rfl h0 rfl
theorem e33_37 (x : Int32) {l0 l2 l3 l4 l5 : Option Value} {st : List Value} {σ : nv_St} : np_X 33 37 [l0, some (.int x), l2, l3, l4, l5] st σ = np_X 33 38 [l0, some (.int x), l2, l3, l4, l5] (.int x :: st) σ := np_op k33 rfl rfl
theorem e33_38 {ls : nv_Ls} {st : List Value} {σ : nv_St} {x y : Int32} : np_X 33 38 ls (.int y :: .int x :: st) σ = if x = y then np_X 33 41 ls st σ else np_X 33 44 ls st σ := np_br inferInstance k33 rfl rfl
theorem e33_41 (x : Nat) {l0 l1 l2 l3 l4 : Option Value} {st : List Value} {σ : nv_St} : np_X 33 41 [l0, l1, l2, l3, l4, some (.ref x)] st σ = np_X 33 43 [l0, l1, l2, l3, l4, some (.ref x)] (.ref x :: st) σ := np_op k33 rfl rfl
theorem e33_41u  {l0 l1 l2 l3 l4 : Option Value} {st : List Value} {σ : nv_St} : np_X 33 41 [l0, l1, l2, l3, l4, some .null] st σ = np_X 33 43 [l0, l1, l2, l3, l4, some .null] (.null :: st) σ := np_op k33 rfl rfl
theorem e33_43 {ls : nv_Ls} {σ : nv_St} {a : Nat} : np_X 33 43 ls [.ref a] σ = some (.inl (some (.ref a)), σ) := np_ret k33 rfl rfl
theorem e33_43u {ls : nv_Ls} {σ : nv_St} : np_X 33 43 ls [.null] σ = some (.inl (some .null), σ) := np_ret k33 rfl rfl
theorem e33_44n (x : Int32) {l0 l1 l2 l5 : Option Value} {st : List Value} {σ : nv_St} : np_X 33 44 [l0, l1, l2, none, some (.int x), l5] st σ = np_X 33 47 [l0, l1, l2, none, some (.int (x + (1))), l5] st σ := np_op k33 rfl rfl
theorem e33_44i (x : Int32) {z : Int32} {l0 l1 l2 l5 : Option Value} {st : List Value} {σ : nv_St} : np_X 33 44 [l0, l1, l2, some (.int z), some (.int x), l5] st σ = np_X 33 47 [l0, l1, l2, some (.int z), some (.int (x + (1))), l5] st σ := np_op k33 rfl rfl
theorem e33_44r (x : Int32) {z : Nat} {l0 l1 l2 l5 : Option Value} {st : List Value} {σ : nv_St} : np_X 33 44 [l0, l1, l2, some (.ref z), some (.int x), l5] st σ = np_X 33 47 [l0, l1, l2, some (.ref z), some (.int (x + (1))), l5] st σ := np_op k33 rfl rfl
theorem e33_44v (x : Int32) {l0 l1 l2 l5 : Option Value} {st : List Value} {σ : nv_St} : np_X 33 44 [l0, l1, l2, some .null, some (.int x), l5] st σ = np_X 33 47 [l0, l1, l2, some .null, some (.int (x + (1))), l5] st σ := np_op k33 rfl rfl
theorem e33_47 {ls : nv_Ls} {st : List Value} {σ : nv_St} : np_X 33 47 ls st σ = np_X 33 11 ls st σ := np_op k33 rfl rfl
theorem e33_50 {ls : nv_Ls} {st : List Value} {σ : nv_St} : np_X 33 50 ls st σ = np_X 33 51 ls (.null :: st) σ := np_op k33 rfl rfl
theorem e33_51 {ls : nv_Ls} {σ : nv_St} {a : Nat} : np_X 33 51 ls [.ref a] σ = some (.inl (some (.ref a)), σ) := np_ret k33 rfl rfl
theorem e33_51u {ls : nv_Ls} {σ : nv_St} : np_X 33 51 ls [.null] σ = some (.inl (some .null), σ) := np_ret k33 rfl rfl
-- 34 SpoonNavy$Game.countRankedBefore
theorem k34 : np_P.1 34 = np_c34 := rfl
theorem e34_0 {ls : nv_Ls} {st : List Value} {σ : nv_St} : np_X 34 0 ls st σ = np_X 34 1 ls (.int (0) :: st) σ := np_op k34 rfl rfl
theorem e34_1n (x : Int32) {l0 l2 l3 l4 l5 l6 : Option Value} {st : List Value} {σ : nv_St} : np_X 34 1 [l0, none, l2, l3, l4, l5, l6] (.int x :: st) σ = np_X 34 2 [l0, none, some (.int x), l3, l4, l5, l6] st σ := np_op k34 rfl rfl
theorem e34_1i (x : Int32) {z : Int32} {l0 l2 l3 l4 l5 l6 : Option Value} {st : List Value} {σ : nv_St} : np_X 34 1 [l0, some (.int z), l2, l3, l4, l5, l6] (.int x :: st) σ = np_X 34 2 [l0, some (.int z), some (.int x), l3, l4, l5, l6] st σ := np_op k34 rfl rfl
theorem e34_1r (x : Int32) {z : Nat} {l0 l2 l3 l4 l5 l6 : Option Value} {st : List Value} {σ : nv_St} : np_X 34 1 [l0, some (.ref z), l2, l3, l4, l5, l6] (.int x :: st) σ = np_X 34 2 [l0, some (.ref z), some (.int x), l3, l4, l5, l6] st σ := np_op k34 rfl rfl
theorem e34_1v (x : Int32) {l0 l2 l3 l4 l5 l6 : Option Value} {st : List Value} {σ : nv_St} : np_X 34 1 [l0, some .null, l2, l3, l4, l5, l6] (.int x :: st) σ = np_X 34 2 [l0, some .null, some (.int x), l3, l4, l5, l6] st σ := np_op k34 rfl rfl
theorem e34_2 (x : Nat) {l1 l2 l3 l4 l5 l6 : Option Value} {st : List Value} {σ : nv_St} : np_X 34 2 [some (.ref x), l1, l2, l3, l4, l5, l6] st σ = np_X 34 3 [some (.ref x), l1, l2, l3, l4, l5, l6] (.ref x :: st) σ := np_op k34 rfl rfl
theorem e34_2u  {l1 l2 l3 l4 l5 l6 : Option Value} {st : List Value} {σ : nv_St} : np_X 34 2 [some .null, l1, l2, l3, l4, l5, l6] st σ = np_X 34 3 [some .null, l1, l2, l3, l4, l5, l6] (.null :: st) σ := np_op k34 rfl rfl
theorem e34_3 {ls : nv_Ls} {st : List Value} {σ : nv_St} {a : Nat} : np_X 34 3 ls (.ref a :: st) σ = np_b (nv_fld σ 2 0 a) (fun v => np_X 34 6 ls (v :: st) σ) := np_get k34 rfl
theorem e34_6n (x : Nat) {l0 l1 l3 l4 l5 l6 : Option Value} {st : List Value} {σ : nv_St} : np_X 34 6 [l0, l1, none, l3, l4, l5, l6] (.ref x :: st) σ = np_X 34 7 [l0, l1, none, some (.ref x), l4, l5, l6] st σ := np_op k34 rfl rfl
theorem e34_6i (x : Nat) {z : Int32} {l0 l1 l3 l4 l5 l6 : Option Value} {st : List Value} {σ : nv_St} : np_X 34 6 [l0, l1, some (.int z), l3, l4, l5, l6] (.ref x :: st) σ = np_X 34 7 [l0, l1, some (.int z), some (.ref x), l4, l5, l6] st σ := np_op k34 rfl rfl
theorem e34_6r (x : Nat) {z : Nat} {l0 l1 l3 l4 l5 l6 : Option Value} {st : List Value} {σ : nv_St} : np_X 34 6 [l0, l1, some (.ref z), l3, l4, l5, l6] (.ref x :: st) σ = np_X 34 7 [l0, l1, some (.ref z), some (.ref x), l4, l5, l6] st σ := np_op k34 rfl rfl
theorem e34_6v (x : Nat) {l0 l1 l3 l4 l5 l6 : Option Value} {st : List Value} {σ : nv_St} : np_X 34 6 [l0, l1, some .null, l3, l4, l5, l6] (.ref x :: st) σ = np_X 34 7 [l0, l1, some .null, some (.ref x), l4, l5, l6] st σ := np_op k34 rfl rfl
theorem e34_6un  {l0 l1 l3 l4 l5 l6 : Option Value} {st : List Value} {σ : nv_St} : np_X 34 6 [l0, l1, none, l3, l4, l5, l6] (.null :: st) σ = np_X 34 7 [l0, l1, none, some .null, l4, l5, l6] st σ := np_op k34 rfl rfl
theorem e34_6ui  {z : Int32} {l0 l1 l3 l4 l5 l6 : Option Value} {st : List Value} {σ : nv_St} : np_X 34 6 [l0, l1, some (.int z), l3, l4, l5, l6] (.null :: st) σ = np_X 34 7 [l0, l1, some (.int z), some .null, l4, l5, l6] st σ := np_op k34 rfl rfl
theorem e34_6ur  {z : Nat} {l0 l1 l3 l4 l5 l6 : Option Value} {st : List Value} {σ : nv_St} : np_X 34 6 [l0, l1, some (.ref z), l3, l4, l5, l6] (.null :: st) σ = np_X 34 7 [l0, l1, some (.ref z), some .null, l4, l5, l6] st σ := np_op k34 rfl rfl
theorem e34_6uv  {l0 l1 l3 l4 l5 l6 : Option Value} {st : List Value} {σ : nv_St} : np_X 34 6 [l0, l1, some .null, l3, l4, l5, l6] (.null :: st) σ = np_X 34 7 [l0, l1, some .null, some .null, l4, l5, l6] st σ := np_op k34 rfl rfl
theorem e34_7 (x : Nat) {l0 l1 l2 l4 l5 l6 : Option Value} {st : List Value} {σ : nv_St} : np_X 34 7 [l0, l1, l2, some (.ref x), l4, l5, l6] st σ = np_X 34 8 [l0, l1, l2, some (.ref x), l4, l5, l6] (.ref x :: st) σ := np_op k34 rfl rfl
theorem e34_7u  {l0 l1 l2 l4 l5 l6 : Option Value} {st : List Value} {σ : nv_St} : np_X 34 7 [l0, l1, l2, some .null, l4, l5, l6] st σ = np_X 34 8 [l0, l1, l2, some .null, l4, l5, l6] (.null :: st) σ := np_op k34 rfl rfl
theorem e34_8 {ls : nv_Ls} {st : List Value} {σ : nv_St} {a : Nat} : np_X 34 8 ls (.ref a :: st) σ = np_b (nv_len σ 2 a) (fun m => np_X 34 9 ls (.int (Int32.ofNat m) :: st) σ) := np_alen k34 rfl
theorem e34_9n (x : Int32) {l0 l1 l2 l4 l5 l6 : Option Value} {st : List Value} {σ : nv_St} : np_X 34 9 [l0, l1, l2, none, l4, l5, l6] (.int x :: st) σ = np_X 34 11 [l0, l1, l2, none, some (.int x), l5, l6] st σ := np_op k34 rfl rfl
theorem e34_9i (x : Int32) {z : Int32} {l0 l1 l2 l4 l5 l6 : Option Value} {st : List Value} {σ : nv_St} : np_X 34 9 [l0, l1, l2, some (.int z), l4, l5, l6] (.int x :: st) σ = np_X 34 11 [l0, l1, l2, some (.int z), some (.int x), l5, l6] st σ := np_op k34 rfl rfl
theorem e34_9r (x : Int32) {z : Nat} {l0 l1 l2 l4 l5 l6 : Option Value} {st : List Value} {σ : nv_St} : np_X 34 9 [l0, l1, l2, some (.ref z), l4, l5, l6] (.int x :: st) σ = np_X 34 11 [l0, l1, l2, some (.ref z), some (.int x), l5, l6] st σ := np_op k34 rfl rfl
theorem e34_9v (x : Int32) {l0 l1 l2 l4 l5 l6 : Option Value} {st : List Value} {σ : nv_St} : np_X 34 9 [l0, l1, l2, some .null, l4, l5, l6] (.int x :: st) σ = np_X 34 11 [l0, l1, l2, some .null, some (.int x), l5, l6] st σ := np_op k34 rfl rfl
theorem e34_11 {ls : nv_Ls} {st : List Value} {σ : nv_St} : np_X 34 11 ls st σ = np_X 34 12 ls (.int (0) :: st) σ := np_op k34 rfl rfl
theorem e34_12n (x : Int32) {l0 l1 l2 l3 l5 l6 : Option Value} {st : List Value} {σ : nv_St} : np_X 34 12 [l0, l1, l2, l3, none, l5, l6] (.int x :: st) σ = np_X 34 14 [l0, l1, l2, l3, none, some (.int x), l6] st σ := np_op k34 rfl rfl
theorem e34_12i (x : Int32) {z : Int32} {l0 l1 l2 l3 l5 l6 : Option Value} {st : List Value} {σ : nv_St} : np_X 34 12 [l0, l1, l2, l3, some (.int z), l5, l6] (.int x :: st) σ = np_X 34 14 [l0, l1, l2, l3, some (.int z), some (.int x), l6] st σ := np_op k34 rfl rfl
theorem e34_12r (x : Int32) {z : Nat} {l0 l1 l2 l3 l5 l6 : Option Value} {st : List Value} {σ : nv_St} : np_X 34 12 [l0, l1, l2, l3, some (.ref z), l5, l6] (.int x :: st) σ = np_X 34 14 [l0, l1, l2, l3, some (.ref z), some (.int x), l6] st σ := np_op k34 rfl rfl
theorem e34_12v (x : Int32) {l0 l1 l2 l3 l5 l6 : Option Value} {st : List Value} {σ : nv_St} : np_X 34 12 [l0, l1, l2, l3, some .null, l5, l6] (.int x :: st) σ = np_X 34 14 [l0, l1, l2, l3, some .null, some (.int x), l6] st σ := np_op k34 rfl rfl
theorem e34_14 (x : Int32) {l0 l1 l2 l3 l4 l6 : Option Value} {st : List Value} {σ : nv_St} : np_X 34 14 [l0, l1, l2, l3, l4, some (.int x), l6] st σ = np_X 34 16 [l0, l1, l2, l3, l4, some (.int x), l6] (.int x :: st) σ := np_op k34 rfl rfl
theorem e34_16 (x : Int32) {l0 l1 l2 l3 l5 l6 : Option Value} {st : List Value} {σ : nv_St} : np_X 34 16 [l0, l1, l2, l3, some (.int x), l5, l6] st σ = np_X 34 18 [l0, l1, l2, l3, some (.int x), l5, l6] (.int x :: st) σ := np_op k34 rfl rfl
theorem e34_18 {ls : nv_Ls} {st : List Value} {σ : nv_St} {x y : Int32} : np_X 34 18 ls (.int y :: .int x :: st) σ = if x < y then np_X 34 21 ls st σ else np_X 34 53 ls st σ := np_br inferInstance k34 rfl rfl
theorem e34_21 (x : Nat) {l0 l1 l2 l4 l5 l6 : Option Value} {st : List Value} {σ : nv_St} : np_X 34 21 [l0, l1, l2, some (.ref x), l4, l5, l6] st σ = np_X 34 22 [l0, l1, l2, some (.ref x), l4, l5, l6] (.ref x :: st) σ := np_op k34 rfl rfl
theorem e34_21u  {l0 l1 l2 l4 l5 l6 : Option Value} {st : List Value} {σ : nv_St} : np_X 34 21 [l0, l1, l2, some .null, l4, l5, l6] st σ = np_X 34 22 [l0, l1, l2, some .null, l4, l5, l6] (.null :: st) σ := np_op k34 rfl rfl
theorem e34_22 (x : Int32) {l0 l1 l2 l3 l4 l6 : Option Value} {st : List Value} {σ : nv_St} : np_X 34 22 [l0, l1, l2, l3, l4, some (.int x), l6] st σ = np_X 34 24 [l0, l1, l2, l3, l4, some (.int x), l6] (.int x :: st) σ := np_op k34 rfl rfl
theorem e34_24 {ls : nv_Ls} {st : List Value} {σ : nv_St} {a : Nat} {x : Int32} : np_X 34 24 ls (.int x :: .ref a :: st) σ = np_b (nv_rdq σ 2 a x) (fun v => np_X 34 25 ls (v :: st) σ) := np_aldq k34 rfl
theorem e34_25n (x : Nat) {l0 l1 l2 l3 l4 l6 : Option Value} {st : List Value} {σ : nv_St} : np_X 34 25 [l0, l1, l2, l3, l4, none, l6] (.ref x :: st) σ = np_X 34 27 [l0, l1, l2, l3, l4, none, some (.ref x)] st σ := np_op k34 rfl rfl
theorem e34_25i (x : Nat) {z : Int32} {l0 l1 l2 l3 l4 l6 : Option Value} {st : List Value} {σ : nv_St} : np_X 34 25 [l0, l1, l2, l3, l4, some (.int z), l6] (.ref x :: st) σ = np_X 34 27 [l0, l1, l2, l3, l4, some (.int z), some (.ref x)] st σ := np_op k34 rfl rfl
theorem e34_25r (x : Nat) {z : Nat} {l0 l1 l2 l3 l4 l6 : Option Value} {st : List Value} {σ : nv_St} : np_X 34 25 [l0, l1, l2, l3, l4, some (.ref z), l6] (.ref x :: st) σ = np_X 34 27 [l0, l1, l2, l3, l4, some (.ref z), some (.ref x)] st σ := np_op k34 rfl rfl
theorem e34_25v (x : Nat) {l0 l1 l2 l3 l4 l6 : Option Value} {st : List Value} {σ : nv_St} : np_X 34 25 [l0, l1, l2, l3, l4, some .null, l6] (.ref x :: st) σ = np_X 34 27 [l0, l1, l2, l3, l4, some .null, some (.ref x)] st σ := np_op k34 rfl rfl
theorem e34_25un  {l0 l1 l2 l3 l4 l6 : Option Value} {st : List Value} {σ : nv_St} : np_X 34 25 [l0, l1, l2, l3, l4, none, l6] (.null :: st) σ = np_X 34 27 [l0, l1, l2, l3, l4, none, some .null] st σ := np_op k34 rfl rfl
theorem e34_25ui  {z : Int32} {l0 l1 l2 l3 l4 l6 : Option Value} {st : List Value} {σ : nv_St} : np_X 34 25 [l0, l1, l2, l3, l4, some (.int z), l6] (.null :: st) σ = np_X 34 27 [l0, l1, l2, l3, l4, some (.int z), some .null] st σ := np_op k34 rfl rfl
theorem e34_25ur  {z : Nat} {l0 l1 l2 l3 l4 l6 : Option Value} {st : List Value} {σ : nv_St} : np_X 34 25 [l0, l1, l2, l3, l4, some (.ref z), l6] (.null :: st) σ = np_X 34 27 [l0, l1, l2, l3, l4, some (.ref z), some .null] st σ := np_op k34 rfl rfl
theorem e34_25uv  {l0 l1 l2 l3 l4 l6 : Option Value} {st : List Value} {σ : nv_St} : np_X 34 25 [l0, l1, l2, l3, l4, some .null, l6] (.null :: st) σ = np_X 34 27 [l0, l1, l2, l3, l4, some .null, some .null] st σ := np_op k34 rfl rfl
theorem e34_27 (x : Nat) {l0 l1 l2 l3 l4 l5 : Option Value} {st : List Value} {σ : nv_St} : np_X 34 27 [l0, l1, l2, l3, l4, l5, some (.ref x)] st σ = np_X 34 29 [l0, l1, l2, l3, l4, l5, some (.ref x)] (.ref x :: st) σ := np_op k34 rfl rfl
theorem e34_27u  {l0 l1 l2 l3 l4 l5 : Option Value} {st : List Value} {σ : nv_St} : np_X 34 27 [l0, l1, l2, l3, l4, l5, some .null] st σ = np_X 34 29 [l0, l1, l2, l3, l4, l5, some .null] (.null :: st) σ := np_op k34 rfl rfl
theorem e34_29 {ls : nv_Ls} {st : List Value} {σ : nv_St} {a : Nat}  (h : st.length ≤ 4) (h0 : nv_isO σ 4 a = true) : np_X 34 29 ls (.ref a :: st) σ = np_aft 34 29 32 ls st (np_X 62 0 [some (.ref a)] [] σ) := np_call k34 rfl (Nat.le_add_left 1 _) rfl rfl h rfl h0 rfl
theorem e34_32 {ls : nv_Ls} {st : List Value} {σ : nv_St} {x : Int32} : np_X 34 32 ls (.int x :: st) σ = if x = 0 then np_X 34 47 ls st σ else np_X 34 35 ls st σ := np_br inferInstance k34 rfl rfl
theorem e34_35 (x : Nat) {l0 l1 l2 l3 l4 l5 : Option Value} {st : List Value} {σ : nv_St} : np_X 34 35 [l0, l1, l2, l3, l4, l5, some (.ref x)] st σ = np_X 34 37 [l0, l1, l2, l3, l4, l5, some (.ref x)] (.ref x :: st) σ := np_op k34 rfl rfl
theorem e34_35u  {l0 l1 l2 l3 l4 l5 : Option Value} {st : List Value} {σ : nv_St} : np_X 34 35 [l0, l1, l2, l3, l4, l5, some .null] st σ = np_X 34 37 [l0, l1, l2, l3, l4, l5, some .null] (.null :: st) σ := np_op k34 rfl rfl
theorem e34_37 (x : Nat) {l0 l2 l3 l4 l5 l6 : Option Value} {st : List Value} {σ : nv_St} : np_X 34 37 [l0, some (.ref x), l2, l3, l4, l5, l6] st σ = np_X 34 38 [l0, some (.ref x), l2, l3, l4, l5, l6] (.ref x :: st) σ := np_op k34 rfl rfl
theorem e34_37u  {l0 l2 l3 l4 l5 l6 : Option Value} {st : List Value} {σ : nv_St} : np_X 34 37 [l0, some .null, l2, l3, l4, l5, l6] st σ = np_X 34 38 [l0, some .null, l2, l3, l4, l5, l6] (.null :: st) σ := np_op k34 rfl rfl
theorem e34_38 {ls : nv_Ls} {st : List Value} {σ : nv_St} {a : Nat} {x0 : Nat} (h : st.length ≤ 4) (h0 : nv_isO σ 4 a = true) : np_X 34 38 ls (.ref x0 :: .ref a :: st) σ = np_aft 34 38 41 ls st (np_X 69 0 [some (.ref a), some (.ref x0)] [] σ) := np_call k34 rfl (Nat.le_add_left 2 _) rfl rfl h rfl h0 rfl
theorem e34_41 {ls : nv_Ls} {st : List Value} {σ : nv_St} {x : Int32} : np_X 34 41 ls (.int x :: st) σ = if x = 0 then np_X 34 47 ls st σ else np_X 34 44 ls st σ := np_br inferInstance k34 rfl rfl
theorem e34_44n (x : Int32) {l0 l3 l4 l5 l6 : Option Value} {st : List Value} {σ : nv_St} : np_X 34 44 [l0, none, some (.int x), l3, l4, l5, l6] st σ = np_X 34 47 [l0, none, some (.int (x + (1))), l3, l4, l5, l6] st σ := np_op k34 rfl rfl
theorem e34_44i (x : Int32) {z : Int32} {l0 l3 l4 l5 l6 : Option Value} {st : List Value} {σ : nv_St} : np_X 34 44 [l0, some (.int z), some (.int x), l3, l4, l5, l6] st σ = np_X 34 47 [l0, some (.int z), some (.int (x + (1))), l3, l4, l5, l6] st σ := np_op k34 rfl rfl
theorem e34_44r (x : Int32) {z : Nat} {l0 l3 l4 l5 l6 : Option Value} {st : List Value} {σ : nv_St} : np_X 34 44 [l0, some (.ref z), some (.int x), l3, l4, l5, l6] st σ = np_X 34 47 [l0, some (.ref z), some (.int (x + (1))), l3, l4, l5, l6] st σ := np_op k34 rfl rfl
theorem e34_44v (x : Int32) {l0 l3 l4 l5 l6 : Option Value} {st : List Value} {σ : nv_St} : np_X 34 44 [l0, some .null, some (.int x), l3, l4, l5, l6] st σ = np_X 34 47 [l0, some .null, some (.int (x + (1))), l3, l4, l5, l6] st σ := np_op k34 rfl rfl
theorem e34_47n (x : Int32) {l0 l1 l2 l3 l6 : Option Value} {st : List Value} {σ : nv_St} : np_X 34 47 [l0, l1, l2, l3, none, some (.int x), l6] st σ = np_X 34 50 [l0, l1, l2, l3, none, some (.int (x + (1))), l6] st σ := np_op k34 rfl rfl
theorem e34_47i (x : Int32) {z : Int32} {l0 l1 l2 l3 l6 : Option Value} {st : List Value} {σ : nv_St} : np_X 34 47 [l0, l1, l2, l3, some (.int z), some (.int x), l6] st σ = np_X 34 50 [l0, l1, l2, l3, some (.int z), some (.int (x + (1))), l6] st σ := np_op k34 rfl rfl
theorem e34_47r (x : Int32) {z : Nat} {l0 l1 l2 l3 l6 : Option Value} {st : List Value} {σ : nv_St} : np_X 34 47 [l0, l1, l2, l3, some (.ref z), some (.int x), l6] st σ = np_X 34 50 [l0, l1, l2, l3, some (.ref z), some (.int (x + (1))), l6] st σ := np_op k34 rfl rfl
theorem e34_47v (x : Int32) {l0 l1 l2 l3 l6 : Option Value} {st : List Value} {σ : nv_St} : np_X 34 47 [l0, l1, l2, l3, some .null, some (.int x), l6] st σ = np_X 34 50 [l0, l1, l2, l3, some .null, some (.int (x + (1))), l6] st σ := np_op k34 rfl rfl
theorem e34_50 {ls : nv_Ls} {st : List Value} {σ : nv_St} : np_X 34 50 ls st σ = np_X 34 14 ls st σ := np_op k34 rfl rfl
theorem e34_53 (x : Int32) {l0 l1 l3 l4 l5 l6 : Option Value} {st : List Value} {σ : nv_St} : np_X 34 53 [l0, l1, some (.int x), l3, l4, l5, l6] st σ = np_X 34 54 [l0, l1, some (.int x), l3, l4, l5, l6] (.int x :: st) σ := np_op k34 rfl rfl
theorem e34_54 {ls : nv_Ls} {σ : nv_St} {x : Int32} : np_X 34 54 ls [.int x] σ = some (.inl (some (.int x)), σ) := np_reti k34 rfl rfl
-- 35 SpoonNavy$Game.targetsBySpoons
theorem k35 : np_P.1 35 = np_c35 := rfl
theorem e35_0 {ls : nv_Ls} {st : List Value} {σ : nv_St} : np_X 35 0 ls st σ = np_X 35 1 ls (.int (0) :: st) σ := np_op k35 rfl rfl
theorem e35_1n (x : Int32) {l0 l2 l3 l4 l5 l6 : Option Value} {st : List Value} {σ : nv_St} : np_X 35 1 [l0, none, l2, l3, l4, l5, l6] (.int x :: st) σ = np_X 35 2 [l0, none, some (.int x), l3, l4, l5, l6] st σ := np_op k35 rfl rfl
theorem e35_1i (x : Int32) {z : Int32} {l0 l2 l3 l4 l5 l6 : Option Value} {st : List Value} {σ : nv_St} : np_X 35 1 [l0, some (.int z), l2, l3, l4, l5, l6] (.int x :: st) σ = np_X 35 2 [l0, some (.int z), some (.int x), l3, l4, l5, l6] st σ := np_op k35 rfl rfl
theorem e35_1r (x : Int32) {z : Nat} {l0 l2 l3 l4 l5 l6 : Option Value} {st : List Value} {σ : nv_St} : np_X 35 1 [l0, some (.ref z), l2, l3, l4, l5, l6] (.int x :: st) σ = np_X 35 2 [l0, some (.ref z), some (.int x), l3, l4, l5, l6] st σ := np_op k35 rfl rfl
theorem e35_1v (x : Int32) {l0 l2 l3 l4 l5 l6 : Option Value} {st : List Value} {σ : nv_St} : np_X 35 1 [l0, some .null, l2, l3, l4, l5, l6] (.int x :: st) σ = np_X 35 2 [l0, some .null, some (.int x), l3, l4, l5, l6] st σ := np_op k35 rfl rfl
theorem e35_2 (x : Nat) {l1 l2 l3 l4 l5 l6 : Option Value} {st : List Value} {σ : nv_St} : np_X 35 2 [some (.ref x), l1, l2, l3, l4, l5, l6] st σ = np_X 35 3 [some (.ref x), l1, l2, l3, l4, l5, l6] (.ref x :: st) σ := np_op k35 rfl rfl
theorem e35_2u  {l1 l2 l3 l4 l5 l6 : Option Value} {st : List Value} {σ : nv_St} : np_X 35 2 [some .null, l1, l2, l3, l4, l5, l6] st σ = np_X 35 3 [some .null, l1, l2, l3, l4, l5, l6] (.null :: st) σ := np_op k35 rfl rfl
theorem e35_3 {ls : nv_Ls} {st : List Value} {σ : nv_St} {a : Nat} : np_X 35 3 ls (.ref a :: st) σ = np_b (nv_fld σ 2 0 a) (fun v => np_X 35 6 ls (v :: st) σ) := np_get k35 rfl
theorem e35_6n (x : Nat) {l0 l1 l3 l4 l5 l6 : Option Value} {st : List Value} {σ : nv_St} : np_X 35 6 [l0, l1, none, l3, l4, l5, l6] (.ref x :: st) σ = np_X 35 7 [l0, l1, none, some (.ref x), l4, l5, l6] st σ := np_op k35 rfl rfl
theorem e35_6i (x : Nat) {z : Int32} {l0 l1 l3 l4 l5 l6 : Option Value} {st : List Value} {σ : nv_St} : np_X 35 6 [l0, l1, some (.int z), l3, l4, l5, l6] (.ref x :: st) σ = np_X 35 7 [l0, l1, some (.int z), some (.ref x), l4, l5, l6] st σ := np_op k35 rfl rfl
theorem e35_6r (x : Nat) {z : Nat} {l0 l1 l3 l4 l5 l6 : Option Value} {st : List Value} {σ : nv_St} : np_X 35 6 [l0, l1, some (.ref z), l3, l4, l5, l6] (.ref x :: st) σ = np_X 35 7 [l0, l1, some (.ref z), some (.ref x), l4, l5, l6] st σ := np_op k35 rfl rfl
theorem e35_6v (x : Nat) {l0 l1 l3 l4 l5 l6 : Option Value} {st : List Value} {σ : nv_St} : np_X 35 6 [l0, l1, some .null, l3, l4, l5, l6] (.ref x :: st) σ = np_X 35 7 [l0, l1, some .null, some (.ref x), l4, l5, l6] st σ := np_op k35 rfl rfl
theorem e35_6un  {l0 l1 l3 l4 l5 l6 : Option Value} {st : List Value} {σ : nv_St} : np_X 35 6 [l0, l1, none, l3, l4, l5, l6] (.null :: st) σ = np_X 35 7 [l0, l1, none, some .null, l4, l5, l6] st σ := np_op k35 rfl rfl
theorem e35_6ui  {z : Int32} {l0 l1 l3 l4 l5 l6 : Option Value} {st : List Value} {σ : nv_St} : np_X 35 6 [l0, l1, some (.int z), l3, l4, l5, l6] (.null :: st) σ = np_X 35 7 [l0, l1, some (.int z), some .null, l4, l5, l6] st σ := np_op k35 rfl rfl
theorem e35_6ur  {z : Nat} {l0 l1 l3 l4 l5 l6 : Option Value} {st : List Value} {σ : nv_St} : np_X 35 6 [l0, l1, some (.ref z), l3, l4, l5, l6] (.null :: st) σ = np_X 35 7 [l0, l1, some (.ref z), some .null, l4, l5, l6] st σ := np_op k35 rfl rfl
theorem e35_6uv  {l0 l1 l3 l4 l5 l6 : Option Value} {st : List Value} {σ : nv_St} : np_X 35 6 [l0, l1, some .null, l3, l4, l5, l6] (.null :: st) σ = np_X 35 7 [l0, l1, some .null, some .null, l4, l5, l6] st σ := np_op k35 rfl rfl
theorem e35_7 (x : Nat) {l0 l1 l2 l4 l5 l6 : Option Value} {st : List Value} {σ : nv_St} : np_X 35 7 [l0, l1, l2, some (.ref x), l4, l5, l6] st σ = np_X 35 8 [l0, l1, l2, some (.ref x), l4, l5, l6] (.ref x :: st) σ := np_op k35 rfl rfl
theorem e35_7u  {l0 l1 l2 l4 l5 l6 : Option Value} {st : List Value} {σ : nv_St} : np_X 35 7 [l0, l1, l2, some .null, l4, l5, l6] st σ = np_X 35 8 [l0, l1, l2, some .null, l4, l5, l6] (.null :: st) σ := np_op k35 rfl rfl
theorem e35_8 {ls : nv_Ls} {st : List Value} {σ : nv_St} {a : Nat} : np_X 35 8 ls (.ref a :: st) σ = np_b (nv_len σ 2 a) (fun m => np_X 35 9 ls (.int (Int32.ofNat m) :: st) σ) := np_alen k35 rfl
theorem e35_9n (x : Int32) {l0 l1 l2 l4 l5 l6 : Option Value} {st : List Value} {σ : nv_St} : np_X 35 9 [l0, l1, l2, none, l4, l5, l6] (.int x :: st) σ = np_X 35 11 [l0, l1, l2, none, some (.int x), l5, l6] st σ := np_op k35 rfl rfl
theorem e35_9i (x : Int32) {z : Int32} {l0 l1 l2 l4 l5 l6 : Option Value} {st : List Value} {σ : nv_St} : np_X 35 9 [l0, l1, l2, some (.int z), l4, l5, l6] (.int x :: st) σ = np_X 35 11 [l0, l1, l2, some (.int z), some (.int x), l5, l6] st σ := np_op k35 rfl rfl
theorem e35_9r (x : Int32) {z : Nat} {l0 l1 l2 l4 l5 l6 : Option Value} {st : List Value} {σ : nv_St} : np_X 35 9 [l0, l1, l2, some (.ref z), l4, l5, l6] (.int x :: st) σ = np_X 35 11 [l0, l1, l2, some (.ref z), some (.int x), l5, l6] st σ := np_op k35 rfl rfl
theorem e35_9v (x : Int32) {l0 l1 l2 l4 l5 l6 : Option Value} {st : List Value} {σ : nv_St} : np_X 35 9 [l0, l1, l2, some .null, l4, l5, l6] (.int x :: st) σ = np_X 35 11 [l0, l1, l2, some .null, some (.int x), l5, l6] st σ := np_op k35 rfl rfl
theorem e35_11 {ls : nv_Ls} {st : List Value} {σ : nv_St} : np_X 35 11 ls st σ = np_X 35 12 ls (.int (0) :: st) σ := np_op k35 rfl rfl
theorem e35_12n (x : Int32) {l0 l1 l2 l3 l5 l6 : Option Value} {st : List Value} {σ : nv_St} : np_X 35 12 [l0, l1, l2, l3, none, l5, l6] (.int x :: st) σ = np_X 35 14 [l0, l1, l2, l3, none, some (.int x), l6] st σ := np_op k35 rfl rfl
theorem e35_12i (x : Int32) {z : Int32} {l0 l1 l2 l3 l5 l6 : Option Value} {st : List Value} {σ : nv_St} : np_X 35 12 [l0, l1, l2, l3, some (.int z), l5, l6] (.int x :: st) σ = np_X 35 14 [l0, l1, l2, l3, some (.int z), some (.int x), l6] st σ := np_op k35 rfl rfl
theorem e35_12r (x : Int32) {z : Nat} {l0 l1 l2 l3 l5 l6 : Option Value} {st : List Value} {σ : nv_St} : np_X 35 12 [l0, l1, l2, l3, some (.ref z), l5, l6] (.int x :: st) σ = np_X 35 14 [l0, l1, l2, l3, some (.ref z), some (.int x), l6] st σ := np_op k35 rfl rfl
theorem e35_12v (x : Int32) {l0 l1 l2 l3 l5 l6 : Option Value} {st : List Value} {σ : nv_St} : np_X 35 12 [l0, l1, l2, l3, some .null, l5, l6] (.int x :: st) σ = np_X 35 14 [l0, l1, l2, l3, some .null, some (.int x), l6] st σ := np_op k35 rfl rfl
theorem e35_14 (x : Int32) {l0 l1 l2 l3 l4 l6 : Option Value} {st : List Value} {σ : nv_St} : np_X 35 14 [l0, l1, l2, l3, l4, some (.int x), l6] st σ = np_X 35 16 [l0, l1, l2, l3, l4, some (.int x), l6] (.int x :: st) σ := np_op k35 rfl rfl
theorem e35_16 (x : Int32) {l0 l1 l2 l3 l5 l6 : Option Value} {st : List Value} {σ : nv_St} : np_X 35 16 [l0, l1, l2, l3, some (.int x), l5, l6] st σ = np_X 35 18 [l0, l1, l2, l3, some (.int x), l5, l6] (.int x :: st) σ := np_op k35 rfl rfl
theorem e35_18 {ls : nv_Ls} {st : List Value} {σ : nv_St} {x y : Int32} : np_X 35 18 ls (.int y :: .int x :: st) σ = if x < y then np_X 35 21 ls st σ else np_X 35 67 ls st σ := np_br inferInstance k35 rfl rfl
theorem e35_21 (x : Nat) {l0 l1 l2 l4 l5 l6 : Option Value} {st : List Value} {σ : nv_St} : np_X 35 21 [l0, l1, l2, some (.ref x), l4, l5, l6] st σ = np_X 35 22 [l0, l1, l2, some (.ref x), l4, l5, l6] (.ref x :: st) σ := np_op k35 rfl rfl
theorem e35_21u  {l0 l1 l2 l4 l5 l6 : Option Value} {st : List Value} {σ : nv_St} : np_X 35 21 [l0, l1, l2, some .null, l4, l5, l6] st σ = np_X 35 22 [l0, l1, l2, some .null, l4, l5, l6] (.null :: st) σ := np_op k35 rfl rfl
theorem e35_22 (x : Int32) {l0 l1 l2 l3 l4 l6 : Option Value} {st : List Value} {σ : nv_St} : np_X 35 22 [l0, l1, l2, l3, l4, some (.int x), l6] st σ = np_X 35 24 [l0, l1, l2, l3, l4, some (.int x), l6] (.int x :: st) σ := np_op k35 rfl rfl
theorem e35_24 {ls : nv_Ls} {st : List Value} {σ : nv_St} {a : Nat} {x : Int32} : np_X 35 24 ls (.int x :: .ref a :: st) σ = np_b (nv_rdq σ 2 a x) (fun v => np_X 35 25 ls (v :: st) σ) := np_aldq k35 rfl
theorem e35_25n (x : Nat) {l0 l1 l2 l3 l4 l6 : Option Value} {st : List Value} {σ : nv_St} : np_X 35 25 [l0, l1, l2, l3, l4, none, l6] (.ref x :: st) σ = np_X 35 27 [l0, l1, l2, l3, l4, none, some (.ref x)] st σ := np_op k35 rfl rfl
theorem e35_25i (x : Nat) {z : Int32} {l0 l1 l2 l3 l4 l6 : Option Value} {st : List Value} {σ : nv_St} : np_X 35 25 [l0, l1, l2, l3, l4, some (.int z), l6] (.ref x :: st) σ = np_X 35 27 [l0, l1, l2, l3, l4, some (.int z), some (.ref x)] st σ := np_op k35 rfl rfl
theorem e35_25r (x : Nat) {z : Nat} {l0 l1 l2 l3 l4 l6 : Option Value} {st : List Value} {σ : nv_St} : np_X 35 25 [l0, l1, l2, l3, l4, some (.ref z), l6] (.ref x :: st) σ = np_X 35 27 [l0, l1, l2, l3, l4, some (.ref z), some (.ref x)] st σ := np_op k35 rfl rfl
theorem e35_25v (x : Nat) {l0 l1 l2 l3 l4 l6 : Option Value} {st : List Value} {σ : nv_St} : np_X 35 25 [l0, l1, l2, l3, l4, some .null, l6] (.ref x :: st) σ = np_X 35 27 [l0, l1, l2, l3, l4, some .null, some (.ref x)] st σ := np_op k35 rfl rfl
theorem e35_25un  {l0 l1 l2 l3 l4 l6 : Option Value} {st : List Value} {σ : nv_St} : np_X 35 25 [l0, l1, l2, l3, l4, none, l6] (.null :: st) σ = np_X 35 27 [l0, l1, l2, l3, l4, none, some .null] st σ := np_op k35 rfl rfl
theorem e35_25ui  {z : Int32} {l0 l1 l2 l3 l4 l6 : Option Value} {st : List Value} {σ : nv_St} : np_X 35 25 [l0, l1, l2, l3, l4, some (.int z), l6] (.null :: st) σ = np_X 35 27 [l0, l1, l2, l3, l4, some (.int z), some .null] st σ := np_op k35 rfl rfl
theorem e35_25ur  {z : Nat} {l0 l1 l2 l3 l4 l6 : Option Value} {st : List Value} {σ : nv_St} : np_X 35 25 [l0, l1, l2, l3, l4, some (.ref z), l6] (.null :: st) σ = np_X 35 27 [l0, l1, l2, l3, l4, some (.ref z), some .null] st σ := np_op k35 rfl rfl
theorem e35_25uv  {l0 l1 l2 l3 l4 l6 : Option Value} {st : List Value} {σ : nv_St} : np_X 35 25 [l0, l1, l2, l3, l4, some .null, l6] (.null :: st) σ = np_X 35 27 [l0, l1, l2, l3, l4, some .null, some .null] st σ := np_op k35 rfl rfl
theorem e35_27 (x : Nat) {l0 l1 l2 l3 l4 l5 : Option Value} {st : List Value} {σ : nv_St} : np_X 35 27 [l0, l1, l2, l3, l4, l5, some (.ref x)] st σ = np_X 35 29 [l0, l1, l2, l3, l4, l5, some (.ref x)] (.ref x :: st) σ := np_op k35 rfl rfl
theorem e35_27u  {l0 l1 l2 l3 l4 l5 : Option Value} {st : List Value} {σ : nv_St} : np_X 35 27 [l0, l1, l2, l3, l4, l5, some .null] st σ = np_X 35 29 [l0, l1, l2, l3, l4, l5, some .null] (.null :: st) σ := np_op k35 rfl rfl
theorem e35_29 {ls : nv_Ls} {st : List Value} {σ : nv_St} : np_X 35 29 ls st σ = np_X 35 30 ls (.int (1) :: st) σ := np_op k35 rfl rfl
theorem e35_30 (x : Nat) {l0 l2 l3 l4 l5 l6 : Option Value} {st : List Value} {σ : nv_St} : np_X 35 30 [l0, some (.ref x), l2, l3, l4, l5, l6] st σ = np_X 35 31 [l0, some (.ref x), l2, l3, l4, l5, l6] (.ref x :: st) σ := np_op k35 rfl rfl
theorem e35_30u  {l0 l2 l3 l4 l5 l6 : Option Value} {st : List Value} {σ : nv_St} : np_X 35 30 [l0, some .null, l2, l3, l4, l5, l6] st σ = np_X 35 31 [l0, some .null, l2, l3, l4, l5, l6] (.null :: st) σ := np_op k35 rfl rfl
theorem e35_31 {ls : nv_Ls} {st : List Value} {σ : nv_St} {a : Nat} : np_X 35 31 ls (.ref a :: st) σ = np_b (nv_fld σ 4 1 a) (fun v => np_X 35 34 ls (v :: st) σ) := np_get k35 rfl
theorem e35_34 {ls : nv_Ls} {st : List Value} {σ : nv_St} {x y : Int32} : np_X 35 34 ls (.int y :: .int x :: st) σ = np_X 35 35 ls (.int (x - y) :: st) σ := np_op k35 rfl rfl
theorem e35_35 {ls : nv_Ls} {st : List Value} {σ : nv_St} {a : Nat} {x0 : Int32} (h : st.length ≤ 4) (h0 : nv_isO σ 4 a = true) : np_X 35 35 ls (.int x0 :: .ref a :: st) σ = np_aft 35 35 38 ls st (np_X 63 0 [some (.ref a), some (.int x0)] [] σ) := np_call k35 rfl (Nat.le_add_left 2 _) rfl rfl h rfl h0 rfl
theorem e35_38 {ls : nv_Ls} {st : List Value} {σ : nv_St} {x : Int32} : np_X 35 38 ls (.int x :: st) σ = if x = 0 then np_X 35 61 ls st σ else np_X 35 41 ls st σ := np_br inferInstance k35 rfl rfl
theorem e35_41 (x : Nat) {l0 l2 l3 l4 l5 l6 : Option Value} {st : List Value} {σ : nv_St} : np_X 35 41 [l0, some (.ref x), l2, l3, l4, l5, l6] st σ = np_X 35 42 [l0, some (.ref x), l2, l3, l4, l5, l6] (.ref x :: st) σ := np_op k35 rfl rfl
theorem e35_41u  {l0 l2 l3 l4 l5 l6 : Option Value} {st : List Value} {σ : nv_St} : np_X 35 41 [l0, some .null, l2, l3, l4, l5, l6] st σ = np_X 35 42 [l0, some .null, l2, l3, l4, l5, l6] (.null :: st) σ := np_op k35 rfl rfl
theorem e35_42 (x : Nat) {l0 l1 l2 l3 l4 l5 : Option Value} {st : List Value} {σ : nv_St} : np_X 35 42 [l0, l1, l2, l3, l4, l5, some (.ref x)] st σ = np_X 35 44 [l0, l1, l2, l3, l4, l5, some (.ref x)] (.ref x :: st) σ := np_op k35 rfl rfl
theorem e35_42u  {l0 l1 l2 l3 l4 l5 : Option Value} {st : List Value} {σ : nv_St} : np_X 35 42 [l0, l1, l2, l3, l4, l5, some .null] st σ = np_X 35 44 [l0, l1, l2, l3, l4, l5, some .null] (.null :: st) σ := np_op k35 rfl rfl
theorem e35_44 {ls : nv_Ls} {st : List Value} {σ : nv_St} {a : Nat} : np_X 35 44 ls (.ref a :: st) σ = np_b (nv_fld σ 4 2 a) (fun v => np_X 35 47 ls (v :: st) σ) := np_get k35 rfl
theorem e35_47 (x : Nat) {l0 l1 l2 l3 l4 l5 : Option Value} {st : List Value} {σ : nv_St} : np_X 35 47 [l0, l1, l2, l3, l4, l5, some (.ref x)] st σ = np_X 35 49 [l0, l1, l2, l3, l4, l5, some (.ref x)] (.ref x :: st) σ := np_op k35 rfl rfl
theorem e35_47u  {l0 l1 l2 l3 l4 l5 : Option Value} {st : List Value} {σ : nv_St} : np_X 35 47 [l0, l1, l2, l3, l4, l5, some .null] st σ = np_X 35 49 [l0, l1, l2, l3, l4, l5, some .null] (.null :: st) σ := np_op k35 rfl rfl
theorem e35_49 {ls : nv_Ls} {st : List Value} {σ : nv_St} {a : Nat} : np_X 35 49 ls (.ref a :: st) σ = np_b (nv_fld σ 4 3 a) (fun v => np_X 35 52 ls (v :: st) σ) := np_get k35 rfl
theorem e35_52 {ls : nv_Ls} {st : List Value} {σ : nv_St} {a : Nat} {x0 : Int32} {x1 : Int32} (h : st.length ≤ 4) (h0 : nv_isO σ 4 a = true) : np_X 35 52 ls (.int x1 :: .int x0 :: .ref a :: st) σ = np_aft 35 52 55 ls st (np_X 67 0 [some (.ref a), some (.int x0), some (.int x1)] [] σ) := np_call k35 rfl (Nat.le_add_left 3 _) rfl rfl h rfl h0 rfl
theorem e35_55 {ls : nv_Ls} {st : List Value} {σ : nv_St} {x : Int32} : np_X 35 55 ls (.int x :: st) σ = if x = 0 then np_X 35 61 ls st σ else np_X 35 58 ls st σ := np_br inferInstance k35 rfl rfl
theorem e35_58n (x : Int32) {l0 l3 l4 l5 l6 : Option Value} {st : List Value} {σ : nv_St} : np_X 35 58 [l0, none, some (.int x), l3, l4, l5, l6] st σ = np_X 35 61 [l0, none, some (.int (x + (1))), l3, l4, l5, l6] st σ := np_op k35 rfl rfl
theorem e35_58i (x : Int32) {z : Int32} {l0 l3 l4 l5 l6 : Option Value} {st : List Value} {σ : nv_St} : np_X 35 58 [l0, some (.int z), some (.int x), l3, l4, l5, l6] st σ = np_X 35 61 [l0, some (.int z), some (.int (x + (1))), l3, l4, l5, l6] st σ := np_op k35 rfl rfl
theorem e35_58r (x : Int32) {z : Nat} {l0 l3 l4 l5 l6 : Option Value} {st : List Value} {σ : nv_St} : np_X 35 58 [l0, some (.ref z), some (.int x), l3, l4, l5, l6] st σ = np_X 35 61 [l0, some (.ref z), some (.int (x + (1))), l3, l4, l5, l6] st σ := np_op k35 rfl rfl
theorem e35_58v (x : Int32) {l0 l3 l4 l5 l6 : Option Value} {st : List Value} {σ : nv_St} : np_X 35 58 [l0, some .null, some (.int x), l3, l4, l5, l6] st σ = np_X 35 61 [l0, some .null, some (.int (x + (1))), l3, l4, l5, l6] st σ := np_op k35 rfl rfl
theorem e35_61n (x : Int32) {l0 l1 l2 l3 l6 : Option Value} {st : List Value} {σ : nv_St} : np_X 35 61 [l0, l1, l2, l3, none, some (.int x), l6] st σ = np_X 35 64 [l0, l1, l2, l3, none, some (.int (x + (1))), l6] st σ := np_op k35 rfl rfl
theorem e35_61i (x : Int32) {z : Int32} {l0 l1 l2 l3 l6 : Option Value} {st : List Value} {σ : nv_St} : np_X 35 61 [l0, l1, l2, l3, some (.int z), some (.int x), l6] st σ = np_X 35 64 [l0, l1, l2, l3, some (.int z), some (.int (x + (1))), l6] st σ := np_op k35 rfl rfl
theorem e35_61r (x : Int32) {z : Nat} {l0 l1 l2 l3 l6 : Option Value} {st : List Value} {σ : nv_St} : np_X 35 61 [l0, l1, l2, l3, some (.ref z), some (.int x), l6] st σ = np_X 35 64 [l0, l1, l2, l3, some (.ref z), some (.int (x + (1))), l6] st σ := np_op k35 rfl rfl
theorem e35_61v (x : Int32) {l0 l1 l2 l3 l6 : Option Value} {st : List Value} {σ : nv_St} : np_X 35 61 [l0, l1, l2, l3, some .null, some (.int x), l6] st σ = np_X 35 64 [l0, l1, l2, l3, some .null, some (.int (x + (1))), l6] st σ := np_op k35 rfl rfl
theorem e35_64 {ls : nv_Ls} {st : List Value} {σ : nv_St} : np_X 35 64 ls st σ = np_X 35 14 ls st σ := np_op k35 rfl rfl
theorem e35_67 (x : Int32) {l0 l1 l3 l4 l5 l6 : Option Value} {st : List Value} {σ : nv_St} : np_X 35 67 [l0, l1, some (.int x), l3, l4, l5, l6] st σ = np_X 35 68 [l0, l1, some (.int x), l3, l4, l5, l6] (.int x :: st) σ := np_op k35 rfl rfl
theorem e35_68 {ls : nv_Ls} {σ : nv_St} {x : Int32} : np_X 35 68 ls [.int x] σ = some (.inl (some (.int x)), σ) := np_reti k35 rfl rfl
-- 36 SpoonNavy$Game.targetsByCells
theorem k36 : np_P.1 36 = np_c36 := rfl
theorem e36_0 {ls : nv_Ls} {st : List Value} {σ : nv_St} : np_X 36 0 ls st σ = np_X 36 1 ls (.int (0) :: st) σ := np_op k36 rfl rfl
theorem e36_1n (x : Int32) {l0 l2 l3 l4 : Option Value} {st : List Value} {σ : nv_St} : np_X 36 1 [l0, none, l2, l3, l4] (.int x :: st) σ = np_X 36 2 [l0, none, some (.int x), l3, l4] st σ := np_op k36 rfl rfl
theorem e36_1i (x : Int32) {z : Int32} {l0 l2 l3 l4 : Option Value} {st : List Value} {σ : nv_St} : np_X 36 1 [l0, some (.int z), l2, l3, l4] (.int x :: st) σ = np_X 36 2 [l0, some (.int z), some (.int x), l3, l4] st σ := np_op k36 rfl rfl
theorem e36_1r (x : Int32) {z : Nat} {l0 l2 l3 l4 : Option Value} {st : List Value} {σ : nv_St} : np_X 36 1 [l0, some (.ref z), l2, l3, l4] (.int x :: st) σ = np_X 36 2 [l0, some (.ref z), some (.int x), l3, l4] st σ := np_op k36 rfl rfl
theorem e36_1v (x : Int32) {l0 l2 l3 l4 : Option Value} {st : List Value} {σ : nv_St} : np_X 36 1 [l0, some .null, l2, l3, l4] (.int x :: st) σ = np_X 36 2 [l0, some .null, some (.int x), l3, l4] st σ := np_op k36 rfl rfl
theorem e36_2 {ls : nv_Ls} {st : List Value} {σ : nv_St} : np_X 36 2 ls st σ = np_X 36 3 ls (.int (0) :: st) σ := np_op k36 rfl rfl
theorem e36_3n (x : Int32) {l0 l1 l3 l4 : Option Value} {st : List Value} {σ : nv_St} : np_X 36 3 [l0, l1, none, l3, l4] (.int x :: st) σ = np_X 36 4 [l0, l1, none, some (.int x), l4] st σ := np_op k36 rfl rfl
theorem e36_3i (x : Int32) {z : Int32} {l0 l1 l3 l4 : Option Value} {st : List Value} {σ : nv_St} : np_X 36 3 [l0, l1, some (.int z), l3, l4] (.int x :: st) σ = np_X 36 4 [l0, l1, some (.int z), some (.int x), l4] st σ := np_op k36 rfl rfl
theorem e36_3r (x : Int32) {z : Nat} {l0 l1 l3 l4 : Option Value} {st : List Value} {σ : nv_St} : np_X 36 3 [l0, l1, some (.ref z), l3, l4] (.int x :: st) σ = np_X 36 4 [l0, l1, some (.ref z), some (.int x), l4] st σ := np_op k36 rfl rfl
theorem e36_3v (x : Int32) {l0 l1 l3 l4 : Option Value} {st : List Value} {σ : nv_St} : np_X 36 3 [l0, l1, some .null, l3, l4] (.int x :: st) σ = np_X 36 4 [l0, l1, some .null, some (.int x), l4] st σ := np_op k36 rfl rfl
theorem e36_4 (x : Int32) {l0 l1 l2 l4 : Option Value} {st : List Value} {σ : nv_St} : np_X 36 4 [l0, l1, l2, some (.int x), l4] st σ = np_X 36 5 [l0, l1, l2, some (.int x), l4] (.int x :: st) σ := np_op k36 rfl rfl
theorem e36_5 {ls : nv_Ls} {st : List Value} {σ : nv_St} : np_X 36 5 ls st σ = np_X 36 7 ls (.int (10) :: st) σ := np_op k36 rfl rfl
theorem e36_7 {ls : nv_Ls} {st : List Value} {σ : nv_St} {x y : Int32} : np_X 36 7 ls (.int y :: .int x :: st) σ = if x < y then np_X 36 10 ls st σ else np_X 36 56 ls st σ := np_br inferInstance k36 rfl rfl
theorem e36_10 {ls : nv_Ls} {st : List Value} {σ : nv_St} : np_X 36 10 ls st σ = np_X 36 11 ls (.int (0) :: st) σ := np_op k36 rfl rfl
theorem e36_11n (x : Int32) {l0 l1 l2 l4 : Option Value} {st : List Value} {σ : nv_St} : np_X 36 11 [l0, l1, l2, none, l4] (.int x :: st) σ = np_X 36 13 [l0, l1, l2, none, some (.int x)] st σ := np_op k36 rfl rfl
theorem e36_11i (x : Int32) {z : Int32} {l0 l1 l2 l4 : Option Value} {st : List Value} {σ : nv_St} : np_X 36 11 [l0, l1, l2, some (.int z), l4] (.int x :: st) σ = np_X 36 13 [l0, l1, l2, some (.int z), some (.int x)] st σ := np_op k36 rfl rfl
theorem e36_11r (x : Int32) {z : Nat} {l0 l1 l2 l4 : Option Value} {st : List Value} {σ : nv_St} : np_X 36 11 [l0, l1, l2, some (.ref z), l4] (.int x :: st) σ = np_X 36 13 [l0, l1, l2, some (.ref z), some (.int x)] st σ := np_op k36 rfl rfl
theorem e36_11v (x : Int32) {l0 l1 l2 l4 : Option Value} {st : List Value} {σ : nv_St} : np_X 36 11 [l0, l1, l2, some .null, l4] (.int x :: st) σ = np_X 36 13 [l0, l1, l2, some .null, some (.int x)] st σ := np_op k36 rfl rfl
theorem e36_13 (x : Int32) {l0 l1 l2 l3 : Option Value} {st : List Value} {σ : nv_St} : np_X 36 13 [l0, l1, l2, l3, some (.int x)] st σ = np_X 36 15 [l0, l1, l2, l3, some (.int x)] (.int x :: st) σ := np_op k36 rfl rfl
theorem e36_15 {ls : nv_Ls} {st : List Value} {σ : nv_St} : np_X 36 15 ls st σ = np_X 36 17 ls (.int (10) :: st) σ := np_op k36 rfl rfl
theorem e36_17 {ls : nv_Ls} {st : List Value} {σ : nv_St} {x y : Int32} : np_X 36 17 ls (.int y :: .int x :: st) σ = if x < y then np_X 36 20 ls st σ else np_X 36 50 ls st σ := np_br inferInstance k36 rfl rfl
theorem e36_20 (x : Nat) {l0 l2 l3 l4 : Option Value} {st : List Value} {σ : nv_St} : np_X 36 20 [l0, some (.ref x), l2, l3, l4] st σ = np_X 36 21 [l0, some (.ref x), l2, l3, l4] (.ref x :: st) σ := np_op k36 rfl rfl
theorem e36_20u  {l0 l2 l3 l4 : Option Value} {st : List Value} {σ : nv_St} : np_X 36 20 [l0, some .null, l2, l3, l4] st σ = np_X 36 21 [l0, some .null, l2, l3, l4] (.null :: st) σ := np_op k36 rfl rfl
theorem e36_21 (x : Int32) {l0 l1 l2 l3 : Option Value} {st : List Value} {σ : nv_St} : np_X 36 21 [l0, l1, l2, l3, some (.int x)] st σ = np_X 36 23 [l0, l1, l2, l3, some (.int x)] (.int x :: st) σ := np_op k36 rfl rfl
theorem e36_23 (x : Int32) {l0 l1 l2 l4 : Option Value} {st : List Value} {σ : nv_St} : np_X 36 23 [l0, l1, l2, some (.int x), l4] st σ = np_X 36 24 [l0, l1, l2, some (.int x), l4] (.int x :: st) σ := np_op k36 rfl rfl
theorem e36_24 {ls : nv_Ls} {st : List Value} {σ : nv_St} {a : Nat} {x0 : Int32} {x1 : Int32} (h : st.length ≤ 4) (h0 : nv_isO σ 4 a = true) : np_X 36 24 ls (.int x1 :: .int x0 :: .ref a :: st) σ = np_aft 36 24 27 ls st (np_X 67 0 [some (.ref a), some (.int x0), some (.int x1)] [] σ) := np_call k36 rfl (Nat.le_add_left 3 _) rfl rfl h rfl h0 rfl
theorem e36_27 {ls : nv_Ls} {st : List Value} {σ : nv_St} {x : Int32} : np_X 36 27 ls (.int x :: st) σ = if x = 0 then np_X 36 44 ls st σ else np_X 36 30 ls st σ := np_br inferInstance k36 rfl rfl
theorem e36_30 (x : Nat) {l1 l2 l3 l4 : Option Value} {st : List Value} {σ : nv_St} : np_X 36 30 [some (.ref x), l1, l2, l3, l4] st σ = np_X 36 31 [some (.ref x), l1, l2, l3, l4] (.ref x :: st) σ := np_op k36 rfl rfl
theorem e36_30u  {l1 l2 l3 l4 : Option Value} {st : List Value} {σ : nv_St} : np_X 36 30 [some .null, l1, l2, l3, l4] st σ = np_X 36 31 [some .null, l1, l2, l3, l4] (.null :: st) σ := np_op k36 rfl rfl
theorem e36_31 (x : Nat) {l0 l2 l3 l4 : Option Value} {st : List Value} {σ : nv_St} : np_X 36 31 [l0, some (.ref x), l2, l3, l4] st σ = np_X 36 32 [l0, some (.ref x), l2, l3, l4] (.ref x :: st) σ := np_op k36 rfl rfl
theorem e36_31u  {l0 l2 l3 l4 : Option Value} {st : List Value} {σ : nv_St} : np_X 36 31 [l0, some .null, l2, l3, l4] st σ = np_X 36 32 [l0, some .null, l2, l3, l4] (.null :: st) σ := np_op k36 rfl rfl
theorem e36_32 (x : Int32) {l0 l1 l2 l3 : Option Value} {st : List Value} {σ : nv_St} : np_X 36 32 [l0, l1, l2, l3, some (.int x)] st σ = np_X 36 34 [l0, l1, l2, l3, some (.int x)] (.int x :: st) σ := np_op k36 rfl rfl
theorem e36_34 (x : Int32) {l0 l1 l2 l4 : Option Value} {st : List Value} {σ : nv_St} : np_X 36 34 [l0, l1, l2, some (.int x), l4] st σ = np_X 36 35 [l0, l1, l2, some (.int x), l4] (.int x :: st) σ := np_op k36 rfl rfl
theorem e36_35 {ls : nv_Ls} {st : List Value} {σ : nv_St} {a : Nat} {x0 : Nat} {x1 : Int32} {x2 : Int32} (h : st.length ≤ 4) (h0 : nv_isO σ 2 a = true) : np_X 36 35 ls (.int x2 :: .int x1 :: .ref x0 :: .ref a :: st) σ = np_aft 36 35 38 ls st (np_X 37 0 [some (.ref a), some (.ref x0), some (.int x1), some (.int x2), none] [] σ) := np_call k36 rfl (Nat.le_add_left 4 _) rfl rfl h rfl h0 rfl
theorem e36_38 {ls : nv_Ls} {st : List Value} {σ : nv_St} {x : Int32} : np_X 36 38 ls (.int x :: st) σ = if x = 0 then np_X 36 44 ls st σ else np_X 36 41 ls st σ := np_br inferInstance k36 rfl rfl
theorem e36_41n (x : Int32) {l0 l3 l4 : Option Value} {st : List Value} {σ : nv_St} : np_X 36 41 [l0, none, some (.int x), l3, l4] st σ = np_X 36 44 [l0, none, some (.int (x + (1))), l3, l4] st σ := np_op k36 rfl rfl
theorem e36_41i (x : Int32) {z : Int32} {l0 l3 l4 : Option Value} {st : List Value} {σ : nv_St} : np_X 36 41 [l0, some (.int z), some (.int x), l3, l4] st σ = np_X 36 44 [l0, some (.int z), some (.int (x + (1))), l3, l4] st σ := np_op k36 rfl rfl
theorem e36_41r (x : Int32) {z : Nat} {l0 l3 l4 : Option Value} {st : List Value} {σ : nv_St} : np_X 36 41 [l0, some (.ref z), some (.int x), l3, l4] st σ = np_X 36 44 [l0, some (.ref z), some (.int (x + (1))), l3, l4] st σ := np_op k36 rfl rfl
theorem e36_41v (x : Int32) {l0 l3 l4 : Option Value} {st : List Value} {σ : nv_St} : np_X 36 41 [l0, some .null, some (.int x), l3, l4] st σ = np_X 36 44 [l0, some .null, some (.int (x + (1))), l3, l4] st σ := np_op k36 rfl rfl
theorem e36_44n (x : Int32) {l0 l1 l2 : Option Value} {st : List Value} {σ : nv_St} : np_X 36 44 [l0, l1, l2, none, some (.int x)] st σ = np_X 36 47 [l0, l1, l2, none, some (.int (x + (1)))] st σ := np_op k36 rfl rfl
theorem e36_44i (x : Int32) {z : Int32} {l0 l1 l2 : Option Value} {st : List Value} {σ : nv_St} : np_X 36 44 [l0, l1, l2, some (.int z), some (.int x)] st σ = np_X 36 47 [l0, l1, l2, some (.int z), some (.int (x + (1)))] st σ := np_op k36 rfl rfl
theorem e36_44r (x : Int32) {z : Nat} {l0 l1 l2 : Option Value} {st : List Value} {σ : nv_St} : np_X 36 44 [l0, l1, l2, some (.ref z), some (.int x)] st σ = np_X 36 47 [l0, l1, l2, some (.ref z), some (.int (x + (1)))] st σ := np_op k36 rfl rfl
theorem e36_44v (x : Int32) {l0 l1 l2 : Option Value} {st : List Value} {σ : nv_St} : np_X 36 44 [l0, l1, l2, some .null, some (.int x)] st σ = np_X 36 47 [l0, l1, l2, some .null, some (.int (x + (1)))] st σ := np_op k36 rfl rfl
theorem e36_47 {ls : nv_Ls} {st : List Value} {σ : nv_St} : np_X 36 47 ls st σ = np_X 36 13 ls st σ := np_op k36 rfl rfl
theorem e36_50n (x : Int32) {l0 l1 l4 : Option Value} {st : List Value} {σ : nv_St} : np_X 36 50 [l0, l1, none, some (.int x), l4] st σ = np_X 36 53 [l0, l1, none, some (.int (x + (1))), l4] st σ := np_op k36 rfl rfl
theorem e36_50i (x : Int32) {z : Int32} {l0 l1 l4 : Option Value} {st : List Value} {σ : nv_St} : np_X 36 50 [l0, l1, some (.int z), some (.int x), l4] st σ = np_X 36 53 [l0, l1, some (.int z), some (.int (x + (1))), l4] st σ := np_op k36 rfl rfl
theorem e36_50r (x : Int32) {z : Nat} {l0 l1 l4 : Option Value} {st : List Value} {σ : nv_St} : np_X 36 50 [l0, l1, some (.ref z), some (.int x), l4] st σ = np_X 36 53 [l0, l1, some (.ref z), some (.int (x + (1))), l4] st σ := np_op k36 rfl rfl
theorem e36_50v (x : Int32) {l0 l1 l4 : Option Value} {st : List Value} {σ : nv_St} : np_X 36 50 [l0, l1, some .null, some (.int x), l4] st σ = np_X 36 53 [l0, l1, some .null, some (.int (x + (1))), l4] st σ := np_op k36 rfl rfl
theorem e36_53 {ls : nv_Ls} {st : List Value} {σ : nv_St} : np_X 36 53 ls st σ = np_X 36 4 ls st σ := np_op k36 rfl rfl
theorem e36_56 (x : Int32) {l0 l1 l3 l4 : Option Value} {st : List Value} {σ : nv_St} : np_X 36 56 [l0, l1, some (.int x), l3, l4] st σ = np_X 36 57 [l0, l1, some (.int x), l3, l4] (.int x :: st) σ := np_op k36 rfl rfl
theorem e36_57 {ls : nv_Ls} {σ : nv_St} {x : Int32} : np_X 36 57 ls [.int x] σ = some (.inl (some (.int x)), σ) := np_reti k36 rfl rfl
-- 37 SpoonNavy$Game.isHeldAgainst
theorem k37 : np_P.1 37 = np_c37 := rfl
theorem e37_0 (x : Nat) {l1 l2 l3 l4 : Option Value} {st : List Value} {σ : nv_St} : np_X 37 0 [some (.ref x), l1, l2, l3, l4] st σ = np_X 37 1 [some (.ref x), l1, l2, l3, l4] (.ref x :: st) σ := np_op k37 rfl rfl
theorem e37_0u  {l1 l2 l3 l4 : Option Value} {st : List Value} {σ : nv_St} : np_X 37 0 [some .null, l1, l2, l3, l4] st σ = np_X 37 1 [some .null, l1, l2, l3, l4] (.null :: st) σ := np_op k37 rfl rfl
theorem e37_1 (x : Int32) {l0 l1 l3 l4 : Option Value} {st : List Value} {σ : nv_St} : np_X 37 1 [l0, l1, some (.int x), l3, l4] st σ = np_X 37 2 [l0, l1, some (.int x), l3, l4] (.int x :: st) σ := np_op k37 rfl rfl
theorem e37_2 (x : Int32) {l0 l1 l2 l4 : Option Value} {st : List Value} {σ : nv_St} : np_X 37 2 [l0, l1, l2, some (.int x), l4] st σ = np_X 37 3 [l0, l1, l2, some (.int x), l4] (.int x :: st) σ := np_op k37 rfl rfl
theorem e37_3 {ls : nv_Ls} {st : List Value} {σ : nv_St} {a : Nat} {x0 : Int32} {x1 : Int32} (h : st.length ≤ 4) (h0 : nv_isO σ 2 a = true) : np_X 37 3 ls (.int x1 :: .int x0 :: .ref a :: st) σ = np_aft 37 3 6 ls st (np_X 32 0 [some (.ref a), some (.int x0), some (.int x1), none, none, none, none] [] σ) := np_call k37 rfl (Nat.le_add_left 3 _) rfl rfl h rfl h0 rfl
theorem e37_6n (x : Nat) {l0 l1 l2 l4 : Option Value} {st : List Value} {σ : nv_St} : np_X 37 6 [l0, l1, l2, none, l4] (.ref x :: st) σ = np_X 37 8 [l0, l1, l2, none, some (.ref x)] st σ := np_op k37 rfl rfl
theorem e37_6i (x : Nat) {z : Int32} {l0 l1 l2 l4 : Option Value} {st : List Value} {σ : nv_St} : np_X 37 6 [l0, l1, l2, some (.int z), l4] (.ref x :: st) σ = np_X 37 8 [l0, l1, l2, some (.int z), some (.ref x)] st σ := np_op k37 rfl rfl
theorem e37_6r (x : Nat) {z : Nat} {l0 l1 l2 l4 : Option Value} {st : List Value} {σ : nv_St} : np_X 37 6 [l0, l1, l2, some (.ref z), l4] (.ref x :: st) σ = np_X 37 8 [l0, l1, l2, some (.ref z), some (.ref x)] st σ := np_op k37 rfl rfl
theorem e37_6v (x : Nat) {l0 l1 l2 l4 : Option Value} {st : List Value} {σ : nv_St} : np_X 37 6 [l0, l1, l2, some .null, l4] (.ref x :: st) σ = np_X 37 8 [l0, l1, l2, some .null, some (.ref x)] st σ := np_op k37 rfl rfl
theorem e37_6un  {l0 l1 l2 l4 : Option Value} {st : List Value} {σ : nv_St} : np_X 37 6 [l0, l1, l2, none, l4] (.null :: st) σ = np_X 37 8 [l0, l1, l2, none, some .null] st σ := np_op k37 rfl rfl
theorem e37_6ui  {z : Int32} {l0 l1 l2 l4 : Option Value} {st : List Value} {σ : nv_St} : np_X 37 6 [l0, l1, l2, some (.int z), l4] (.null :: st) σ = np_X 37 8 [l0, l1, l2, some (.int z), some .null] st σ := np_op k37 rfl rfl
theorem e37_6ur  {z : Nat} {l0 l1 l2 l4 : Option Value} {st : List Value} {σ : nv_St} : np_X 37 6 [l0, l1, l2, some (.ref z), l4] (.null :: st) σ = np_X 37 8 [l0, l1, l2, some (.ref z), some .null] st σ := np_op k37 rfl rfl
theorem e37_6uv  {l0 l1 l2 l4 : Option Value} {st : List Value} {σ : nv_St} : np_X 37 6 [l0, l1, l2, some .null, l4] (.null :: st) σ = np_X 37 8 [l0, l1, l2, some .null, some .null] st σ := np_op k37 rfl rfl
theorem e37_8 (x : Nat) {l0 l1 l2 l3 : Option Value} {st : List Value} {σ : nv_St} : np_X 37 8 [l0, l1, l2, l3, some (.ref x)] st σ = np_X 37 10 [l0, l1, l2, l3, some (.ref x)] (.ref x :: st) σ := np_op k37 rfl rfl
theorem e37_8u  {l0 l1 l2 l3 : Option Value} {st : List Value} {σ : nv_St} : np_X 37 8 [l0, l1, l2, l3, some .null] st σ = np_X 37 10 [l0, l1, l2, l3, some .null] (.null :: st) σ := np_op k37 rfl rfl
theorem e37_10 {ls : nv_Ls} {st : List Value} {σ : nv_St} {a : Nat} (h : a < 1000000) : np_X 37 10 ls (.ref a :: st) σ = np_X 37 13 ls st σ := np_ifnull k37 rfl h
theorem e37_10u {ls : nv_Ls} {st : List Value} {σ : nv_St} : np_X 37 10 ls (.null :: st) σ = np_X 37 29 ls st σ := np_op k37 rfl rfl
theorem e37_13 (x : Nat) {l0 l1 l2 l3 : Option Value} {st : List Value} {σ : nv_St} : np_X 37 13 [l0, l1, l2, l3, some (.ref x)] st σ = np_X 37 15 [l0, l1, l2, l3, some (.ref x)] (.ref x :: st) σ := np_op k37 rfl rfl
theorem e37_13u  {l0 l1 l2 l3 : Option Value} {st : List Value} {σ : nv_St} : np_X 37 13 [l0, l1, l2, l3, some .null] st σ = np_X 37 15 [l0, l1, l2, l3, some .null] (.null :: st) σ := np_op k37 rfl rfl
theorem e37_15 {ls : nv_Ls} {st : List Value} {σ : nv_St} {a : Nat} : np_X 37 15 ls (.ref a :: st) σ = np_b (nv_fld σ 4 1 a) (fun v => np_X 37 18 ls (v :: st) σ) := np_get k37 rfl
theorem e37_18 (x : Nat) {l0 l2 l3 l4 : Option Value} {st : List Value} {σ : nv_St} : np_X 37 18 [l0, some (.ref x), l2, l3, l4] st σ = np_X 37 19 [l0, some (.ref x), l2, l3, l4] (.ref x :: st) σ := np_op k37 rfl rfl
theorem e37_18u  {l0 l2 l3 l4 : Option Value} {st : List Value} {σ : nv_St} : np_X 37 18 [l0, some .null, l2, l3, l4] st σ = np_X 37 19 [l0, some .null, l2, l3, l4] (.null :: st) σ := np_op k37 rfl rfl
theorem e37_19 {ls : nv_Ls} {st : List Value} {σ : nv_St} {a : Nat} : np_X 37 19 ls (.ref a :: st) σ = np_b (nv_fld σ 4 1 a) (fun v => np_X 37 22 ls (v :: st) σ) := np_get k37 rfl
theorem e37_22 {ls : nv_Ls} {st : List Value} {σ : nv_St} {x y : Int32} : np_X 37 22 ls (.int y :: .int x :: st) σ = if x = y then np_X 37 29 ls st σ else np_X 37 25 ls st σ := np_br inferInstance k37 rfl rfl
theorem e37_25 {ls : nv_Ls} {st : List Value} {σ : nv_St} : np_X 37 25 ls st σ = np_X 37 26 ls (.int (1) :: st) σ := np_op k37 rfl rfl
theorem e37_26 {ls : nv_Ls} {st : List Value} {σ : nv_St} : np_X 37 26 ls st σ = np_X 37 30 ls st σ := np_op k37 rfl rfl
theorem e37_29 {ls : nv_Ls} {st : List Value} {σ : nv_St} : np_X 37 29 ls st σ = np_X 37 30 ls (.int (0) :: st) σ := np_op k37 rfl rfl
theorem e37_30 {ls : nv_Ls} {σ : nv_St} {x : Int32} (h : narrow .boolean (.int x) = .int x) : np_X 37 30 ls [.int x] σ = some (.inl (some (.int x)), σ) := np_reti k37 rfl h
-- 38 SpoonNavy$Game.freeAhead
theorem k38 : np_P.1 38 = np_c38 := rfl
theorem e38_0 (x : Nat) {l0 l2 l3 l4 : Option Value} {st : List Value} {σ : nv_St} : np_X 38 0 [l0, some (.ref x), l2, l3, l4] st σ = np_X 38 1 [l0, some (.ref x), l2, l3, l4] (.ref x :: st) σ := np_op k38 rfl rfl
theorem e38_0u  {l0 l2 l3 l4 : Option Value} {st : List Value} {σ : nv_St} : np_X 38 0 [l0, some .null, l2, l3, l4] st σ = np_X 38 1 [l0, some .null, l2, l3, l4] (.null :: st) σ := np_op k38 rfl rfl
theorem e38_1 {ls : nv_Ls} {st : List Value} {σ : nv_St} {a : Nat} : np_X 38 1 ls (.ref a :: st) σ = np_b (nv_fld σ 4 4 a) (fun v => np_X 38 4 ls (v :: st) σ) := np_get k38 rfl
theorem e38_4 {ls : nv_Ls} {st : List Value} {σ : nv_St}  {x0 : Int32} (h : st.length ≤ 4) : np_X 38 4 ls (.int x0 :: st) σ = np_aft 38 4 7 ls st (np_X 136 0 [some (.int x0)] [] σ) := np_call k38 rfl (Nat.le_add_left 1 _) rfl rfl h rfl rfl rfl
theorem e38_7n (x : Int32) {l0 l2 l3 l4 : Option Value} {st : List Value} {σ : nv_St} : np_X 38 7 [l0, none, l2, l3, l4] (.int x :: st) σ = np_X 38 8 [l0, none, some (.int x), l3, l4] st σ := np_op k38 rfl rfl
theorem e38_7i (x : Int32) {z : Int32} {l0 l2 l3 l4 : Option Value} {st : List Value} {σ : nv_St} : np_X 38 7 [l0, some (.int z), l2, l3, l4] (.int x :: st) σ = np_X 38 8 [l0, some (.int z), some (.int x), l3, l4] st σ := np_op k38 rfl rfl
theorem e38_7r (x : Int32) {z : Nat} {l0 l2 l3 l4 : Option Value} {st : List Value} {σ : nv_St} : np_X 38 7 [l0, some (.ref z), l2, l3, l4] (.int x :: st) σ = np_X 38 8 [l0, some (.ref z), some (.int x), l3, l4] st σ := np_op k38 rfl rfl
theorem e38_7v (x : Int32) {l0 l2 l3 l4 : Option Value} {st : List Value} {σ : nv_St} : np_X 38 7 [l0, some .null, l2, l3, l4] (.int x :: st) σ = np_X 38 8 [l0, some .null, some (.int x), l3, l4] st σ := np_op k38 rfl rfl
theorem e38_8 (x : Nat) {l0 l2 l3 l4 : Option Value} {st : List Value} {σ : nv_St} : np_X 38 8 [l0, some (.ref x), l2, l3, l4] st σ = np_X 38 9 [l0, some (.ref x), l2, l3, l4] (.ref x :: st) σ := np_op k38 rfl rfl
theorem e38_8u  {l0 l2 l3 l4 : Option Value} {st : List Value} {σ : nv_St} : np_X 38 8 [l0, some .null, l2, l3, l4] st σ = np_X 38 9 [l0, some .null, l2, l3, l4] (.null :: st) σ := np_op k38 rfl rfl
theorem e38_9 {ls : nv_Ls} {st : List Value} {σ : nv_St} {a : Nat} : np_X 38 9 ls (.ref a :: st) σ = np_b (nv_fld σ 4 4 a) (fun v => np_X 38 12 ls (v :: st) σ) := np_get k38 rfl
theorem e38_12 {ls : nv_Ls} {st : List Value} {σ : nv_St}  {x0 : Int32} (h : st.length ≤ 4) : np_X 38 12 ls (.int x0 :: st) σ = np_aft 38 12 15 ls st (np_X 137 0 [some (.int x0)] [] σ) := np_call k38 rfl (Nat.le_add_left 1 _) rfl rfl h rfl rfl rfl
theorem e38_15n (x : Int32) {l0 l1 l3 l4 : Option Value} {st : List Value} {σ : nv_St} : np_X 38 15 [l0, l1, none, l3, l4] (.int x :: st) σ = np_X 38 16 [l0, l1, none, some (.int x), l4] st σ := np_op k38 rfl rfl
theorem e38_15i (x : Int32) {z : Int32} {l0 l1 l3 l4 : Option Value} {st : List Value} {σ : nv_St} : np_X 38 15 [l0, l1, some (.int z), l3, l4] (.int x :: st) σ = np_X 38 16 [l0, l1, some (.int z), some (.int x), l4] st σ := np_op k38 rfl rfl
theorem e38_15r (x : Int32) {z : Nat} {l0 l1 l3 l4 : Option Value} {st : List Value} {σ : nv_St} : np_X 38 15 [l0, l1, some (.ref z), l3, l4] (.int x :: st) σ = np_X 38 16 [l0, l1, some (.ref z), some (.int x), l4] st σ := np_op k38 rfl rfl
theorem e38_15v (x : Int32) {l0 l1 l3 l4 : Option Value} {st : List Value} {σ : nv_St} : np_X 38 15 [l0, l1, some .null, l3, l4] (.int x :: st) σ = np_X 38 16 [l0, l1, some .null, some (.int x), l4] st σ := np_op k38 rfl rfl
theorem e38_16 {ls : nv_Ls} {st : List Value} {σ : nv_St} : np_X 38 16 ls st σ = np_X 38 17 ls (.int (0) :: st) σ := np_op k38 rfl rfl
theorem e38_17n (x : Int32) {l0 l1 l2 l4 : Option Value} {st : List Value} {σ : nv_St} : np_X 38 17 [l0, l1, l2, none, l4] (.int x :: st) σ = np_X 38 19 [l0, l1, l2, none, some (.int x)] st σ := np_op k38 rfl rfl
theorem e38_17i (x : Int32) {z : Int32} {l0 l1 l2 l4 : Option Value} {st : List Value} {σ : nv_St} : np_X 38 17 [l0, l1, l2, some (.int z), l4] (.int x :: st) σ = np_X 38 19 [l0, l1, l2, some (.int z), some (.int x)] st σ := np_op k38 rfl rfl
theorem e38_17r (x : Int32) {z : Nat} {l0 l1 l2 l4 : Option Value} {st : List Value} {σ : nv_St} : np_X 38 17 [l0, l1, l2, some (.ref z), l4] (.int x :: st) σ = np_X 38 19 [l0, l1, l2, some (.ref z), some (.int x)] st σ := np_op k38 rfl rfl
theorem e38_17v (x : Int32) {l0 l1 l2 l4 : Option Value} {st : List Value} {σ : nv_St} : np_X 38 17 [l0, l1, l2, some .null, l4] (.int x :: st) σ = np_X 38 19 [l0, l1, l2, some .null, some (.int x)] st σ := np_op k38 rfl rfl
theorem e38_19 (x : Int32) {l0 l1 l2 l3 : Option Value} {st : List Value} {σ : nv_St} : np_X 38 19 [l0, l1, l2, l3, some (.int x)] st σ = np_X 38 21 [l0, l1, l2, l3, some (.int x)] (.int x :: st) σ := np_op k38 rfl rfl
theorem e38_21 {ls : nv_Ls} {st : List Value} {σ : nv_St} : np_X 38 21 ls st σ = np_X 38 23 ls (.int (10) :: st) σ := np_op k38 rfl rfl
theorem e38_23 {ls : nv_Ls} {st : List Value} {σ : nv_St} {x y : Int32} : np_X 38 23 ls (.int y :: .int x :: st) σ = if x < y then np_X 38 26 ls st σ else np_X 38 61 ls st σ := np_br inferInstance k38 rfl rfl
theorem e38_26 (x : Nat) {l1 l2 l3 l4 : Option Value} {st : List Value} {σ : nv_St} : np_X 38 26 [some (.ref x), l1, l2, l3, l4] st σ = np_X 38 27 [some (.ref x), l1, l2, l3, l4] (.ref x :: st) σ := np_op k38 rfl rfl
theorem e38_26u  {l1 l2 l3 l4 : Option Value} {st : List Value} {σ : nv_St} : np_X 38 26 [some .null, l1, l2, l3, l4] st σ = np_X 38 27 [some .null, l1, l2, l3, l4] (.null :: st) σ := np_op k38 rfl rfl
theorem e38_27 (x : Nat) {l0 l2 l3 l4 : Option Value} {st : List Value} {σ : nv_St} : np_X 38 27 [l0, some (.ref x), l2, l3, l4] st σ = np_X 38 28 [l0, some (.ref x), l2, l3, l4] (.ref x :: st) σ := np_op k38 rfl rfl
theorem e38_27u  {l0 l2 l3 l4 : Option Value} {st : List Value} {σ : nv_St} : np_X 38 27 [l0, some .null, l2, l3, l4] st σ = np_X 38 28 [l0, some .null, l2, l3, l4] (.null :: st) σ := np_op k38 rfl rfl
theorem e38_28 {ls : nv_Ls} {st : List Value} {σ : nv_St} {a : Nat} : np_X 38 28 ls (.ref a :: st) σ = np_b (nv_fld σ 4 2 a) (fun v => np_X 38 31 ls (v :: st) σ) := np_get k38 rfl
theorem e38_31 (x : Int32) {l0 l1 l2 l3 : Option Value} {st : List Value} {σ : nv_St} : np_X 38 31 [l0, l1, l2, l3, some (.int x)] st σ = np_X 38 33 [l0, l1, l2, l3, some (.int x)] (.int x :: st) σ := np_op k38 rfl rfl
theorem e38_33 {ls : nv_Ls} {st : List Value} {σ : nv_St} : np_X 38 33 ls st σ = np_X 38 34 ls (.int (1) :: st) σ := np_op k38 rfl rfl
theorem e38_34 {ls : nv_Ls} {st : List Value} {σ : nv_St} {x y : Int32} : np_X 38 34 ls (.int y :: .int x :: st) σ = np_X 38 35 ls (.int (x + y) :: st) σ := np_op k38 rfl rfl
theorem e38_35 (x : Int32) {l0 l1 l3 l4 : Option Value} {st : List Value} {σ : nv_St} : np_X 38 35 [l0, l1, some (.int x), l3, l4] st σ = np_X 38 36 [l0, l1, some (.int x), l3, l4] (.int x :: st) σ := np_op k38 rfl rfl
theorem e38_36 {ls : nv_Ls} {st : List Value} {σ : nv_St} {x y : Int32} : np_X 38 36 ls (.int y :: .int x :: st) σ = np_X 38 37 ls (.int (x * y) :: st) σ := np_op k38 rfl rfl
theorem e38_37 {ls : nv_Ls} {st : List Value} {σ : nv_St} {x y : Int32} : np_X 38 37 ls (.int y :: .int x :: st) σ = np_X 38 38 ls (.int (x + y) :: st) σ := np_op k38 rfl rfl
theorem e38_38 (x : Nat) {l0 l2 l3 l4 : Option Value} {st : List Value} {σ : nv_St} : np_X 38 38 [l0, some (.ref x), l2, l3, l4] st σ = np_X 38 39 [l0, some (.ref x), l2, l3, l4] (.ref x :: st) σ := np_op k38 rfl rfl
theorem e38_38u  {l0 l2 l3 l4 : Option Value} {st : List Value} {σ : nv_St} : np_X 38 38 [l0, some .null, l2, l3, l4] st σ = np_X 38 39 [l0, some .null, l2, l3, l4] (.null :: st) σ := np_op k38 rfl rfl
theorem e38_39 {ls : nv_Ls} {st : List Value} {σ : nv_St} {a : Nat} : np_X 38 39 ls (.ref a :: st) σ = np_b (nv_fld σ 4 3 a) (fun v => np_X 38 42 ls (v :: st) σ) := np_get k38 rfl
theorem e38_42 (x : Int32) {l0 l1 l2 l3 : Option Value} {st : List Value} {σ : nv_St} : np_X 38 42 [l0, l1, l2, l3, some (.int x)] st σ = np_X 38 44 [l0, l1, l2, l3, some (.int x)] (.int x :: st) σ := np_op k38 rfl rfl
theorem e38_44 {ls : nv_Ls} {st : List Value} {σ : nv_St} : np_X 38 44 ls st σ = np_X 38 45 ls (.int (1) :: st) σ := np_op k38 rfl rfl
theorem e38_45 {ls : nv_Ls} {st : List Value} {σ : nv_St} {x y : Int32} : np_X 38 45 ls (.int y :: .int x :: st) σ = np_X 38 46 ls (.int (x + y) :: st) σ := np_op k38 rfl rfl
theorem e38_46 (x : Int32) {l0 l1 l2 l4 : Option Value} {st : List Value} {σ : nv_St} : np_X 38 46 [l0, l1, l2, some (.int x), l4] st σ = np_X 38 47 [l0, l1, l2, some (.int x), l4] (.int x :: st) σ := np_op k38 rfl rfl
theorem e38_47 {ls : nv_Ls} {st : List Value} {σ : nv_St} {x y : Int32} : np_X 38 47 ls (.int y :: .int x :: st) σ = np_X 38 48 ls (.int (x * y) :: st) σ := np_op k38 rfl rfl
theorem e38_48 {ls : nv_Ls} {st : List Value} {σ : nv_St} {x y : Int32} : np_X 38 48 ls (.int y :: .int x :: st) σ = np_X 38 49 ls (.int (x + y) :: st) σ := np_op k38 rfl rfl
theorem e38_49 {ls : nv_Ls} {st : List Value} {σ : nv_St} {a : Nat} {x0 : Int32} {x1 : Int32} (h : st.length ≤ 4) (h0 : nv_isO σ 2 a = true) : np_X 38 49 ls (.int x1 :: .int x0 :: .ref a :: st) σ = np_aft 38 49 52 ls st (np_X 39 0 [some (.ref a), some (.int x0), some (.int x1)] [] σ) := np_call k38 rfl (Nat.le_add_left 3 _) rfl rfl h rfl h0 rfl
theorem e38_52 {ls : nv_Ls} {st : List Value} {σ : nv_St} {x : Int32} : np_X 38 52 ls (.int x :: st) σ = if x = 0 then np_X 38 61 ls st σ else np_X 38 55 ls st σ := np_br inferInstance k38 rfl rfl
theorem e38_55n (x : Int32) {l0 l1 l2 : Option Value} {st : List Value} {σ : nv_St} : np_X 38 55 [l0, l1, l2, none, some (.int x)] st σ = np_X 38 58 [l0, l1, l2, none, some (.int (x + (1)))] st σ := np_op k38 rfl rfl
theorem e38_55i (x : Int32) {z : Int32} {l0 l1 l2 : Option Value} {st : List Value} {σ : nv_St} : np_X 38 55 [l0, l1, l2, some (.int z), some (.int x)] st σ = np_X 38 58 [l0, l1, l2, some (.int z), some (.int (x + (1)))] st σ := np_op k38 rfl rfl
theorem e38_55r (x : Int32) {z : Nat} {l0 l1 l2 : Option Value} {st : List Value} {σ : nv_St} : np_X 38 55 [l0, l1, l2, some (.ref z), some (.int x)] st σ = np_X 38 58 [l0, l1, l2, some (.ref z), some (.int (x + (1)))] st σ := np_op k38 rfl rfl
theorem e38_55v (x : Int32) {l0 l1 l2 : Option Value} {st : List Value} {σ : nv_St} : np_X 38 55 [l0, l1, l2, some .null, some (.int x)] st σ = np_X 38 58 [l0, l1, l2, some .null, some (.int (x + (1)))] st σ := np_op k38 rfl rfl
theorem e38_58 {ls : nv_Ls} {st : List Value} {σ : nv_St} : np_X 38 58 ls st σ = np_X 38 19 ls st σ := np_op k38 rfl rfl
theorem e38_61 (x : Int32) {l0 l1 l2 l3 : Option Value} {st : List Value} {σ : nv_St} : np_X 38 61 [l0, l1, l2, l3, some (.int x)] st σ = np_X 38 63 [l0, l1, l2, l3, some (.int x)] (.int x :: st) σ := np_op k38 rfl rfl
theorem e38_63 {ls : nv_Ls} {σ : nv_St} {x : Int32} : np_X 38 63 ls [.int x] σ = some (.inl (some (.int x)), σ) := np_reti k38 rfl rfl
-- 39 SpoonNavy$Game.isFree
theorem k39 : np_P.1 39 = np_c39 := rfl
theorem e39_0 (x : Int32) {l0 l2 : Option Value} {st : List Value} {σ : nv_St} : np_X 39 0 [l0, some (.int x), l2] st σ = np_X 39 1 [l0, some (.int x), l2] (.int x :: st) σ := np_op k39 rfl rfl
theorem e39_1 (x : Int32) {l0 l1 : Option Value} {st : List Value} {σ : nv_St} : np_X 39 1 [l0, l1, some (.int x)] st σ = np_X 39 2 [l0, l1, some (.int x)] (.int x :: st) σ := np_op k39 rfl rfl
theorem e39_2 {ls : nv_Ls} {st : List Value} {σ : nv_St}  {x0 : Int32} {x1 : Int32} (h : st.length ≤ 4) : np_X 39 2 ls (.int x1 :: .int x0 :: st) σ = np_aft 39 2 5 ls st (np_X 133 0 [some (.int x0), some (.int x1)] [] σ) := np_call k39 rfl (Nat.le_add_left 2 _) rfl rfl h rfl rfl rfl
theorem e39_5 {ls : nv_Ls} {st : List Value} {σ : nv_St} {x : Int32} : np_X 39 5 ls (.int x :: st) σ = if x = 0 then np_X 39 21 ls st σ else np_X 39 8 ls st σ := np_br inferInstance k39 rfl rfl
theorem e39_8 (x : Nat) {l1 l2 : Option Value} {st : List Value} {σ : nv_St} : np_X 39 8 [some (.ref x), l1, l2] st σ = np_X 39 9 [some (.ref x), l1, l2] (.ref x :: st) σ := np_op k39 rfl rfl
theorem e39_8u  {l1 l2 : Option Value} {st : List Value} {σ : nv_St} : np_X 39 8 [some .null, l1, l2] st σ = np_X 39 9 [some .null, l1, l2] (.null :: st) σ := np_op k39 rfl rfl
theorem e39_9 (x : Int32) {l0 l2 : Option Value} {st : List Value} {σ : nv_St} : np_X 39 9 [l0, some (.int x), l2] st σ = np_X 39 10 [l0, some (.int x), l2] (.int x :: st) σ := np_op k39 rfl rfl
theorem e39_10 (x : Int32) {l0 l1 : Option Value} {st : List Value} {σ : nv_St} : np_X 39 10 [l0, l1, some (.int x)] st σ = np_X 39 11 [l0, l1, some (.int x)] (.int x :: st) σ := np_op k39 rfl rfl
theorem e39_11 {ls : nv_Ls} {st : List Value} {σ : nv_St} {a : Nat} {x0 : Int32} {x1 : Int32} (h : st.length ≤ 4) (h0 : nv_isO σ 2 a = true) : np_X 39 11 ls (.int x1 :: .int x0 :: .ref a :: st) σ = np_aft 39 11 14 ls st (np_X 32 0 [some (.ref a), some (.int x0), some (.int x1), none, none, none, none] [] σ) := np_call k39 rfl (Nat.le_add_left 3 _) rfl rfl h rfl h0 rfl
theorem e39_14 {ls : nv_Ls} {st : List Value} {σ : nv_St} {a : Nat} (h : a < 1000000) : np_X 39 14 ls (.ref a :: st) σ = np_X 39 21 ls st σ := np_ifnonnull k39 rfl h
theorem e39_14u {ls : nv_Ls} {st : List Value} {σ : nv_St} : np_X 39 14 ls (.null :: st) σ = np_X 39 17 ls st σ := np_op k39 rfl rfl
theorem e39_17 {ls : nv_Ls} {st : List Value} {σ : nv_St} : np_X 39 17 ls st σ = np_X 39 18 ls (.int (1) :: st) σ := np_op k39 rfl rfl
theorem e39_18 {ls : nv_Ls} {st : List Value} {σ : nv_St} : np_X 39 18 ls st σ = np_X 39 22 ls st σ := np_op k39 rfl rfl
theorem e39_21 {ls : nv_Ls} {st : List Value} {σ : nv_St} : np_X 39 21 ls st σ = np_X 39 22 ls (.int (0) :: st) σ := np_op k39 rfl rfl
theorem e39_22 {ls : nv_Ls} {σ : nv_St} {x : Int32} (h : narrow .boolean (.int x) = .int x) : np_X 39 22 ls [.int x] σ = some (.inl (some (.int x)), σ) := np_reti k39 rfl h
-- 40 SpoonNavy$Game.cubesBySpoons
theorem k40 : np_P.1 40 = np_c40 := rfl
theorem e40_0 {ls : nv_Ls} {st : List Value} {σ : nv_St} : np_X 40 0 ls st σ = np_X 40 1 ls (.int (0) :: st) σ := np_op k40 rfl rfl
theorem e40_1n (x : Int32) {l0 l2 l3 l4 l5 l6 : Option Value} {st : List Value} {σ : nv_St} : np_X 40 1 [l0, none, l2, l3, l4, l5, l6] (.int x :: st) σ = np_X 40 2 [l0, none, some (.int x), l3, l4, l5, l6] st σ := np_op k40 rfl rfl
theorem e40_1i (x : Int32) {z : Int32} {l0 l2 l3 l4 l5 l6 : Option Value} {st : List Value} {σ : nv_St} : np_X 40 1 [l0, some (.int z), l2, l3, l4, l5, l6] (.int x :: st) σ = np_X 40 2 [l0, some (.int z), some (.int x), l3, l4, l5, l6] st σ := np_op k40 rfl rfl
theorem e40_1r (x : Int32) {z : Nat} {l0 l2 l3 l4 l5 l6 : Option Value} {st : List Value} {σ : nv_St} : np_X 40 1 [l0, some (.ref z), l2, l3, l4, l5, l6] (.int x :: st) σ = np_X 40 2 [l0, some (.ref z), some (.int x), l3, l4, l5, l6] st σ := np_op k40 rfl rfl
theorem e40_1v (x : Int32) {l0 l2 l3 l4 l5 l6 : Option Value} {st : List Value} {σ : nv_St} : np_X 40 1 [l0, some .null, l2, l3, l4, l5, l6] (.int x :: st) σ = np_X 40 2 [l0, some .null, some (.int x), l3, l4, l5, l6] st σ := np_op k40 rfl rfl
theorem e40_2 (x : Nat) {l1 l2 l3 l4 l5 l6 : Option Value} {st : List Value} {σ : nv_St} : np_X 40 2 [some (.ref x), l1, l2, l3, l4, l5, l6] st σ = np_X 40 3 [some (.ref x), l1, l2, l3, l4, l5, l6] (.ref x :: st) σ := np_op k40 rfl rfl
theorem e40_2u  {l1 l2 l3 l4 l5 l6 : Option Value} {st : List Value} {σ : nv_St} : np_X 40 2 [some .null, l1, l2, l3, l4, l5, l6] st σ = np_X 40 3 [some .null, l1, l2, l3, l4, l5, l6] (.null :: st) σ := np_op k40 rfl rfl
theorem e40_3 {ls : nv_Ls} {st : List Value} {σ : nv_St} {a : Nat} : np_X 40 3 ls (.ref a :: st) σ = np_b (nv_fld σ 2 0 a) (fun v => np_X 40 6 ls (v :: st) σ) := np_get k40 rfl
theorem e40_6n (x : Nat) {l0 l1 l3 l4 l5 l6 : Option Value} {st : List Value} {σ : nv_St} : np_X 40 6 [l0, l1, none, l3, l4, l5, l6] (.ref x :: st) σ = np_X 40 7 [l0, l1, none, some (.ref x), l4, l5, l6] st σ := np_op k40 rfl rfl
theorem e40_6i (x : Nat) {z : Int32} {l0 l1 l3 l4 l5 l6 : Option Value} {st : List Value} {σ : nv_St} : np_X 40 6 [l0, l1, some (.int z), l3, l4, l5, l6] (.ref x :: st) σ = np_X 40 7 [l0, l1, some (.int z), some (.ref x), l4, l5, l6] st σ := np_op k40 rfl rfl
theorem e40_6r (x : Nat) {z : Nat} {l0 l1 l3 l4 l5 l6 : Option Value} {st : List Value} {σ : nv_St} : np_X 40 6 [l0, l1, some (.ref z), l3, l4, l5, l6] (.ref x :: st) σ = np_X 40 7 [l0, l1, some (.ref z), some (.ref x), l4, l5, l6] st σ := np_op k40 rfl rfl
theorem e40_6v (x : Nat) {l0 l1 l3 l4 l5 l6 : Option Value} {st : List Value} {σ : nv_St} : np_X 40 6 [l0, l1, some .null, l3, l4, l5, l6] (.ref x :: st) σ = np_X 40 7 [l0, l1, some .null, some (.ref x), l4, l5, l6] st σ := np_op k40 rfl rfl
theorem e40_6un  {l0 l1 l3 l4 l5 l6 : Option Value} {st : List Value} {σ : nv_St} : np_X 40 6 [l0, l1, none, l3, l4, l5, l6] (.null :: st) σ = np_X 40 7 [l0, l1, none, some .null, l4, l5, l6] st σ := np_op k40 rfl rfl
theorem e40_6ui  {z : Int32} {l0 l1 l3 l4 l5 l6 : Option Value} {st : List Value} {σ : nv_St} : np_X 40 6 [l0, l1, some (.int z), l3, l4, l5, l6] (.null :: st) σ = np_X 40 7 [l0, l1, some (.int z), some .null, l4, l5, l6] st σ := np_op k40 rfl rfl
theorem e40_6ur  {z : Nat} {l0 l1 l3 l4 l5 l6 : Option Value} {st : List Value} {σ : nv_St} : np_X 40 6 [l0, l1, some (.ref z), l3, l4, l5, l6] (.null :: st) σ = np_X 40 7 [l0, l1, some (.ref z), some .null, l4, l5, l6] st σ := np_op k40 rfl rfl
theorem e40_6uv  {l0 l1 l3 l4 l5 l6 : Option Value} {st : List Value} {σ : nv_St} : np_X 40 6 [l0, l1, some .null, l3, l4, l5, l6] (.null :: st) σ = np_X 40 7 [l0, l1, some .null, some .null, l4, l5, l6] st σ := np_op k40 rfl rfl
theorem e40_7 (x : Nat) {l0 l1 l2 l4 l5 l6 : Option Value} {st : List Value} {σ : nv_St} : np_X 40 7 [l0, l1, l2, some (.ref x), l4, l5, l6] st σ = np_X 40 8 [l0, l1, l2, some (.ref x), l4, l5, l6] (.ref x :: st) σ := np_op k40 rfl rfl
theorem e40_7u  {l0 l1 l2 l4 l5 l6 : Option Value} {st : List Value} {σ : nv_St} : np_X 40 7 [l0, l1, l2, some .null, l4, l5, l6] st σ = np_X 40 8 [l0, l1, l2, some .null, l4, l5, l6] (.null :: st) σ := np_op k40 rfl rfl
theorem e40_8 {ls : nv_Ls} {st : List Value} {σ : nv_St} {a : Nat} : np_X 40 8 ls (.ref a :: st) σ = np_b (nv_len σ 2 a) (fun m => np_X 40 9 ls (.int (Int32.ofNat m) :: st) σ) := np_alen k40 rfl
theorem e40_9n (x : Int32) {l0 l1 l2 l4 l5 l6 : Option Value} {st : List Value} {σ : nv_St} : np_X 40 9 [l0, l1, l2, none, l4, l5, l6] (.int x :: st) σ = np_X 40 11 [l0, l1, l2, none, some (.int x), l5, l6] st σ := np_op k40 rfl rfl
theorem e40_9i (x : Int32) {z : Int32} {l0 l1 l2 l4 l5 l6 : Option Value} {st : List Value} {σ : nv_St} : np_X 40 9 [l0, l1, l2, some (.int z), l4, l5, l6] (.int x :: st) σ = np_X 40 11 [l0, l1, l2, some (.int z), some (.int x), l5, l6] st σ := np_op k40 rfl rfl
theorem e40_9r (x : Int32) {z : Nat} {l0 l1 l2 l4 l5 l6 : Option Value} {st : List Value} {σ : nv_St} : np_X 40 9 [l0, l1, l2, some (.ref z), l4, l5, l6] (.int x :: st) σ = np_X 40 11 [l0, l1, l2, some (.ref z), some (.int x), l5, l6] st σ := np_op k40 rfl rfl
theorem e40_9v (x : Int32) {l0 l1 l2 l4 l5 l6 : Option Value} {st : List Value} {σ : nv_St} : np_X 40 9 [l0, l1, l2, some .null, l4, l5, l6] (.int x :: st) σ = np_X 40 11 [l0, l1, l2, some .null, some (.int x), l5, l6] st σ := np_op k40 rfl rfl
theorem e40_11 {ls : nv_Ls} {st : List Value} {σ : nv_St} : np_X 40 11 ls st σ = np_X 40 12 ls (.int (0) :: st) σ := np_op k40 rfl rfl
theorem e40_12n (x : Int32) {l0 l1 l2 l3 l5 l6 : Option Value} {st : List Value} {σ : nv_St} : np_X 40 12 [l0, l1, l2, l3, none, l5, l6] (.int x :: st) σ = np_X 40 14 [l0, l1, l2, l3, none, some (.int x), l6] st σ := np_op k40 rfl rfl
theorem e40_12i (x : Int32) {z : Int32} {l0 l1 l2 l3 l5 l6 : Option Value} {st : List Value} {σ : nv_St} : np_X 40 12 [l0, l1, l2, l3, some (.int z), l5, l6] (.int x :: st) σ = np_X 40 14 [l0, l1, l2, l3, some (.int z), some (.int x), l6] st σ := np_op k40 rfl rfl
theorem e40_12r (x : Int32) {z : Nat} {l0 l1 l2 l3 l5 l6 : Option Value} {st : List Value} {σ : nv_St} : np_X 40 12 [l0, l1, l2, l3, some (.ref z), l5, l6] (.int x :: st) σ = np_X 40 14 [l0, l1, l2, l3, some (.ref z), some (.int x), l6] st σ := np_op k40 rfl rfl
theorem e40_12v (x : Int32) {l0 l1 l2 l3 l5 l6 : Option Value} {st : List Value} {σ : nv_St} : np_X 40 12 [l0, l1, l2, l3, some .null, l5, l6] (.int x :: st) σ = np_X 40 14 [l0, l1, l2, l3, some .null, some (.int x), l6] st σ := np_op k40 rfl rfl
theorem e40_14 (x : Int32) {l0 l1 l2 l3 l4 l6 : Option Value} {st : List Value} {σ : nv_St} : np_X 40 14 [l0, l1, l2, l3, l4, some (.int x), l6] st σ = np_X 40 16 [l0, l1, l2, l3, l4, some (.int x), l6] (.int x :: st) σ := np_op k40 rfl rfl
theorem e40_16 (x : Int32) {l0 l1 l2 l3 l5 l6 : Option Value} {st : List Value} {σ : nv_St} : np_X 40 16 [l0, l1, l2, l3, some (.int x), l5, l6] st σ = np_X 40 18 [l0, l1, l2, l3, some (.int x), l5, l6] (.int x :: st) σ := np_op k40 rfl rfl
theorem e40_18 {ls : nv_Ls} {st : List Value} {σ : nv_St} {x y : Int32} : np_X 40 18 ls (.int y :: .int x :: st) σ = if x < y then np_X 40 21 ls st σ else np_X 40 50 ls st σ := np_br inferInstance k40 rfl rfl
theorem e40_21 (x : Nat) {l0 l1 l2 l4 l5 l6 : Option Value} {st : List Value} {σ : nv_St} : np_X 40 21 [l0, l1, l2, some (.ref x), l4, l5, l6] st σ = np_X 40 22 [l0, l1, l2, some (.ref x), l4, l5, l6] (.ref x :: st) σ := np_op k40 rfl rfl
theorem e40_21u  {l0 l1 l2 l4 l5 l6 : Option Value} {st : List Value} {σ : nv_St} : np_X 40 21 [l0, l1, l2, some .null, l4, l5, l6] st σ = np_X 40 22 [l0, l1, l2, some .null, l4, l5, l6] (.null :: st) σ := np_op k40 rfl rfl
theorem e40_22 (x : Int32) {l0 l1 l2 l3 l4 l6 : Option Value} {st : List Value} {σ : nv_St} : np_X 40 22 [l0, l1, l2, l3, l4, some (.int x), l6] st σ = np_X 40 24 [l0, l1, l2, l3, l4, some (.int x), l6] (.int x :: st) σ := np_op k40 rfl rfl
theorem e40_24 {ls : nv_Ls} {st : List Value} {σ : nv_St} {a : Nat} {x : Int32} : np_X 40 24 ls (.int x :: .ref a :: st) σ = np_b (nv_rdq σ 2 a x) (fun v => np_X 40 25 ls (v :: st) σ) := np_aldq k40 rfl
theorem e40_25n (x : Nat) {l0 l1 l2 l3 l4 l6 : Option Value} {st : List Value} {σ : nv_St} : np_X 40 25 [l0, l1, l2, l3, l4, none, l6] (.ref x :: st) σ = np_X 40 27 [l0, l1, l2, l3, l4, none, some (.ref x)] st σ := np_op k40 rfl rfl
theorem e40_25i (x : Nat) {z : Int32} {l0 l1 l2 l3 l4 l6 : Option Value} {st : List Value} {σ : nv_St} : np_X 40 25 [l0, l1, l2, l3, l4, some (.int z), l6] (.ref x :: st) σ = np_X 40 27 [l0, l1, l2, l3, l4, some (.int z), some (.ref x)] st σ := np_op k40 rfl rfl
theorem e40_25r (x : Nat) {z : Nat} {l0 l1 l2 l3 l4 l6 : Option Value} {st : List Value} {σ : nv_St} : np_X 40 25 [l0, l1, l2, l3, l4, some (.ref z), l6] (.ref x :: st) σ = np_X 40 27 [l0, l1, l2, l3, l4, some (.ref z), some (.ref x)] st σ := np_op k40 rfl rfl
theorem e40_25v (x : Nat) {l0 l1 l2 l3 l4 l6 : Option Value} {st : List Value} {σ : nv_St} : np_X 40 25 [l0, l1, l2, l3, l4, some .null, l6] (.ref x :: st) σ = np_X 40 27 [l0, l1, l2, l3, l4, some .null, some (.ref x)] st σ := np_op k40 rfl rfl
theorem e40_25un  {l0 l1 l2 l3 l4 l6 : Option Value} {st : List Value} {σ : nv_St} : np_X 40 25 [l0, l1, l2, l3, l4, none, l6] (.null :: st) σ = np_X 40 27 [l0, l1, l2, l3, l4, none, some .null] st σ := np_op k40 rfl rfl
theorem e40_25ui  {z : Int32} {l0 l1 l2 l3 l4 l6 : Option Value} {st : List Value} {σ : nv_St} : np_X 40 25 [l0, l1, l2, l3, l4, some (.int z), l6] (.null :: st) σ = np_X 40 27 [l0, l1, l2, l3, l4, some (.int z), some .null] st σ := np_op k40 rfl rfl
theorem e40_25ur  {z : Nat} {l0 l1 l2 l3 l4 l6 : Option Value} {st : List Value} {σ : nv_St} : np_X 40 25 [l0, l1, l2, l3, l4, some (.ref z), l6] (.null :: st) σ = np_X 40 27 [l0, l1, l2, l3, l4, some (.ref z), some .null] st σ := np_op k40 rfl rfl
theorem e40_25uv  {l0 l1 l2 l3 l4 l6 : Option Value} {st : List Value} {σ : nv_St} : np_X 40 25 [l0, l1, l2, l3, l4, some .null, l6] (.null :: st) σ = np_X 40 27 [l0, l1, l2, l3, l4, some .null, some .null] st σ := np_op k40 rfl rfl
theorem e40_27 (x : Nat) {l0 l1 l2 l3 l4 l5 : Option Value} {st : List Value} {σ : nv_St} : np_X 40 27 [l0, l1, l2, l3, l4, l5, some (.ref x)] st σ = np_X 40 29 [l0, l1, l2, l3, l4, l5, some (.ref x)] (.ref x :: st) σ := np_op k40 rfl rfl
theorem e40_27u  {l0 l1 l2 l3 l4 l5 : Option Value} {st : List Value} {σ : nv_St} : np_X 40 27 [l0, l1, l2, l3, l4, l5, some .null] st σ = np_X 40 29 [l0, l1, l2, l3, l4, l5, some .null] (.null :: st) σ := np_op k40 rfl rfl
theorem e40_29 (x : Int32) {l0 l2 l3 l4 l5 l6 : Option Value} {st : List Value} {σ : nv_St} : np_X 40 29 [l0, some (.int x), l2, l3, l4, l5, l6] st σ = np_X 40 30 [l0, some (.int x), l2, l3, l4, l5, l6] (.int x :: st) σ := np_op k40 rfl rfl
theorem e40_30 {ls : nv_Ls} {st : List Value} {σ : nv_St} {a : Nat} {x0 : Int32} (h : st.length ≤ 4) (h0 : nv_isO σ 4 a = true) : np_X 40 30 ls (.int x0 :: .ref a :: st) σ = np_aft 40 30 33 ls st (np_X 63 0 [some (.ref a), some (.int x0)] [] σ) := np_call k40 rfl (Nat.le_add_left 2 _) rfl rfl h rfl h0 rfl
theorem e40_33 {ls : nv_Ls} {st : List Value} {σ : nv_St} {x : Int32} : np_X 40 33 ls (.int x :: st) σ = if x = 0 then np_X 40 44 ls st σ else np_X 40 36 ls st σ := np_br inferInstance k40 rfl rfl
theorem e40_36 (x : Int32) {l0 l1 l3 l4 l5 l6 : Option Value} {st : List Value} {σ : nv_St} : np_X 40 36 [l0, l1, some (.int x), l3, l4, l5, l6] st σ = np_X 40 37 [l0, l1, some (.int x), l3, l4, l5, l6] (.int x :: st) σ := np_op k40 rfl rfl
theorem e40_37 (x : Nat) {l0 l1 l2 l3 l4 l5 : Option Value} {st : List Value} {σ : nv_St} : np_X 40 37 [l0, l1, l2, l3, l4, l5, some (.ref x)] st σ = np_X 40 39 [l0, l1, l2, l3, l4, l5, some (.ref x)] (.ref x :: st) σ := np_op k40 rfl rfl
theorem e40_37u  {l0 l1 l2 l3 l4 l5 : Option Value} {st : List Value} {σ : nv_St} : np_X 40 37 [l0, l1, l2, l3, l4, l5, some .null] st σ = np_X 40 39 [l0, l1, l2, l3, l4, l5, some .null] (.null :: st) σ := np_op k40 rfl rfl
theorem e40_39 {ls : nv_Ls} {st : List Value} {σ : nv_St} {a : Nat} : np_X 40 39 ls (.ref a :: st) σ = np_b (nv_fld σ 4 6 a) (fun v => np_X 40 42 ls (v :: st) σ) := np_get k40 rfl
theorem e40_42 {ls : nv_Ls} {st : List Value} {σ : nv_St} {x y : Int32} : np_X 40 42 ls (.int y :: .int x :: st) σ = np_X 40 43 ls (.int (x + y) :: st) σ := np_op k40 rfl rfl
theorem e40_43n (x : Int32) {l0 l2 l3 l4 l5 l6 : Option Value} {st : List Value} {σ : nv_St} : np_X 40 43 [l0, none, l2, l3, l4, l5, l6] (.int x :: st) σ = np_X 40 44 [l0, none, some (.int x), l3, l4, l5, l6] st σ := np_op k40 rfl rfl
theorem e40_43i (x : Int32) {z : Int32} {l0 l2 l3 l4 l5 l6 : Option Value} {st : List Value} {σ : nv_St} : np_X 40 43 [l0, some (.int z), l2, l3, l4, l5, l6] (.int x :: st) σ = np_X 40 44 [l0, some (.int z), some (.int x), l3, l4, l5, l6] st σ := np_op k40 rfl rfl
theorem e40_43r (x : Int32) {z : Nat} {l0 l2 l3 l4 l5 l6 : Option Value} {st : List Value} {σ : nv_St} : np_X 40 43 [l0, some (.ref z), l2, l3, l4, l5, l6] (.int x :: st) σ = np_X 40 44 [l0, some (.ref z), some (.int x), l3, l4, l5, l6] st σ := np_op k40 rfl rfl
theorem e40_43v (x : Int32) {l0 l2 l3 l4 l5 l6 : Option Value} {st : List Value} {σ : nv_St} : np_X 40 43 [l0, some .null, l2, l3, l4, l5, l6] (.int x :: st) σ = np_X 40 44 [l0, some .null, some (.int x), l3, l4, l5, l6] st σ := np_op k40 rfl rfl
theorem e40_44n (x : Int32) {l0 l1 l2 l3 l6 : Option Value} {st : List Value} {σ : nv_St} : np_X 40 44 [l0, l1, l2, l3, none, some (.int x), l6] st σ = np_X 40 47 [l0, l1, l2, l3, none, some (.int (x + (1))), l6] st σ := np_op k40 rfl rfl
theorem e40_44i (x : Int32) {z : Int32} {l0 l1 l2 l3 l6 : Option Value} {st : List Value} {σ : nv_St} : np_X 40 44 [l0, l1, l2, l3, some (.int z), some (.int x), l6] st σ = np_X 40 47 [l0, l1, l2, l3, some (.int z), some (.int (x + (1))), l6] st σ := np_op k40 rfl rfl
theorem e40_44r (x : Int32) {z : Nat} {l0 l1 l2 l3 l6 : Option Value} {st : List Value} {σ : nv_St} : np_X 40 44 [l0, l1, l2, l3, some (.ref z), some (.int x), l6] st σ = np_X 40 47 [l0, l1, l2, l3, some (.ref z), some (.int (x + (1))), l6] st σ := np_op k40 rfl rfl
theorem e40_44v (x : Int32) {l0 l1 l2 l3 l6 : Option Value} {st : List Value} {σ : nv_St} : np_X 40 44 [l0, l1, l2, l3, some .null, some (.int x), l6] st σ = np_X 40 47 [l0, l1, l2, l3, some .null, some (.int (x + (1))), l6] st σ := np_op k40 rfl rfl
theorem e40_47 {ls : nv_Ls} {st : List Value} {σ : nv_St} : np_X 40 47 ls st σ = np_X 40 14 ls st σ := np_op k40 rfl rfl
theorem e40_50 (x : Int32) {l0 l1 l3 l4 l5 l6 : Option Value} {st : List Value} {σ : nv_St} : np_X 40 50 [l0, l1, some (.int x), l3, l4, l5, l6] st σ = np_X 40 51 [l0, l1, some (.int x), l3, l4, l5, l6] (.int x :: st) σ := np_op k40 rfl rfl
theorem e40_51 {ls : nv_Ls} {σ : nv_St} {x : Int32} : np_X 40 51 ls [.int x] σ = some (.inl (some (.int x)), σ) := np_reti k40 rfl rfl
-- 41 SpoonNavy$Game.areTargetsEqual
theorem k41 : np_P.1 41 = np_c41 := rfl
theorem e41_0 (x : Nat) {l1 l2 l3 l4 : Option Value} {st : List Value} {σ : nv_St} : np_X 41 0 [some (.ref x), l1, l2, l3, l4] st σ = np_X 41 1 [some (.ref x), l1, l2, l3, l4] (.ref x :: st) σ := np_op k41 rfl rfl
theorem e41_0u  {l1 l2 l3 l4 : Option Value} {st : List Value} {σ : nv_St} : np_X 41 0 [some .null, l1, l2, l3, l4] st σ = np_X 41 1 [some .null, l1, l2, l3, l4] (.null :: st) σ := np_op k41 rfl rfl
theorem e41_1 {ls : nv_Ls} {st : List Value} {σ : nv_St} {a : Nat} : np_X 41 1 ls (.ref a :: st) σ = np_b (nv_fld σ 2 0 a) (fun v => np_X 41 4 ls (v :: st) σ) := np_get k41 rfl
theorem e41_4n (x : Nat) {l1 l2 l3 l4 : Option Value} {st : List Value} {σ : nv_St} : np_X 41 4 [none, l1, l2, l3, l4] (.ref x :: st) σ = np_X 41 5 [none, some (.ref x), l2, l3, l4] st σ := np_op k41 rfl rfl
theorem e41_4i (x : Nat) {z : Int32} {l1 l2 l3 l4 : Option Value} {st : List Value} {σ : nv_St} : np_X 41 4 [some (.int z), l1, l2, l3, l4] (.ref x :: st) σ = np_X 41 5 [some (.int z), some (.ref x), l2, l3, l4] st σ := np_op k41 rfl rfl
theorem e41_4r (x : Nat) {z : Nat} {l1 l2 l3 l4 : Option Value} {st : List Value} {σ : nv_St} : np_X 41 4 [some (.ref z), l1, l2, l3, l4] (.ref x :: st) σ = np_X 41 5 [some (.ref z), some (.ref x), l2, l3, l4] st σ := np_op k41 rfl rfl
theorem e41_4v (x : Nat) {l1 l2 l3 l4 : Option Value} {st : List Value} {σ : nv_St} : np_X 41 4 [some .null, l1, l2, l3, l4] (.ref x :: st) σ = np_X 41 5 [some .null, some (.ref x), l2, l3, l4] st σ := np_op k41 rfl rfl
theorem e41_4un  {l1 l2 l3 l4 : Option Value} {st : List Value} {σ : nv_St} : np_X 41 4 [none, l1, l2, l3, l4] (.null :: st) σ = np_X 41 5 [none, some .null, l2, l3, l4] st σ := np_op k41 rfl rfl
theorem e41_4ui  {z : Int32} {l1 l2 l3 l4 : Option Value} {st : List Value} {σ : nv_St} : np_X 41 4 [some (.int z), l1, l2, l3, l4] (.null :: st) σ = np_X 41 5 [some (.int z), some .null, l2, l3, l4] st σ := np_op k41 rfl rfl
theorem e41_4ur  {z : Nat} {l1 l2 l3 l4 : Option Value} {st : List Value} {σ : nv_St} : np_X 41 4 [some (.ref z), l1, l2, l3, l4] (.null :: st) σ = np_X 41 5 [some (.ref z), some .null, l2, l3, l4] st σ := np_op k41 rfl rfl
theorem e41_4uv  {l1 l2 l3 l4 : Option Value} {st : List Value} {σ : nv_St} : np_X 41 4 [some .null, l1, l2, l3, l4] (.null :: st) σ = np_X 41 5 [some .null, some .null, l2, l3, l4] st σ := np_op k41 rfl rfl
theorem e41_5 (x : Nat) {l0 l2 l3 l4 : Option Value} {st : List Value} {σ : nv_St} : np_X 41 5 [l0, some (.ref x), l2, l3, l4] st σ = np_X 41 6 [l0, some (.ref x), l2, l3, l4] (.ref x :: st) σ := np_op k41 rfl rfl
theorem e41_5u  {l0 l2 l3 l4 : Option Value} {st : List Value} {σ : nv_St} : np_X 41 5 [l0, some .null, l2, l3, l4] st σ = np_X 41 6 [l0, some .null, l2, l3, l4] (.null :: st) σ := np_op k41 rfl rfl
theorem e41_6 {ls : nv_Ls} {st : List Value} {σ : nv_St} {a : Nat} : np_X 41 6 ls (.ref a :: st) σ = np_b (nv_len σ 2 a) (fun m => np_X 41 7 ls (.int (Int32.ofNat m) :: st) σ) := np_alen k41 rfl
theorem e41_7n (x : Int32) {l0 l2 l3 l4 : Option Value} {st : List Value} {σ : nv_St} : np_X 41 7 [l0, none, l2, l3, l4] (.int x :: st) σ = np_X 41 8 [l0, none, some (.int x), l3, l4] st σ := np_op k41 rfl rfl
theorem e41_7i (x : Int32) {z : Int32} {l0 l2 l3 l4 : Option Value} {st : List Value} {σ : nv_St} : np_X 41 7 [l0, some (.int z), l2, l3, l4] (.int x :: st) σ = np_X 41 8 [l0, some (.int z), some (.int x), l3, l4] st σ := np_op k41 rfl rfl
theorem e41_7r (x : Int32) {z : Nat} {l0 l2 l3 l4 : Option Value} {st : List Value} {σ : nv_St} : np_X 41 7 [l0, some (.ref z), l2, l3, l4] (.int x :: st) σ = np_X 41 8 [l0, some (.ref z), some (.int x), l3, l4] st σ := np_op k41 rfl rfl
theorem e41_7v (x : Int32) {l0 l2 l3 l4 : Option Value} {st : List Value} {σ : nv_St} : np_X 41 7 [l0, some .null, l2, l3, l4] (.int x :: st) σ = np_X 41 8 [l0, some .null, some (.int x), l3, l4] st σ := np_op k41 rfl rfl
theorem e41_8 {ls : nv_Ls} {st : List Value} {σ : nv_St} : np_X 41 8 ls st σ = np_X 41 9 ls (.int (0) :: st) σ := np_op k41 rfl rfl
theorem e41_9n (x : Int32) {l0 l1 l3 l4 : Option Value} {st : List Value} {σ : nv_St} : np_X 41 9 [l0, l1, none, l3, l4] (.int x :: st) σ = np_X 41 10 [l0, l1, none, some (.int x), l4] st σ := np_op k41 rfl rfl
theorem e41_9i (x : Int32) {z : Int32} {l0 l1 l3 l4 : Option Value} {st : List Value} {σ : nv_St} : np_X 41 9 [l0, l1, some (.int z), l3, l4] (.int x :: st) σ = np_X 41 10 [l0, l1, some (.int z), some (.int x), l4] st σ := np_op k41 rfl rfl
theorem e41_9r (x : Int32) {z : Nat} {l0 l1 l3 l4 : Option Value} {st : List Value} {σ : nv_St} : np_X 41 9 [l0, l1, some (.ref z), l3, l4] (.int x :: st) σ = np_X 41 10 [l0, l1, some (.ref z), some (.int x), l4] st σ := np_op k41 rfl rfl
theorem e41_9v (x : Int32) {l0 l1 l3 l4 : Option Value} {st : List Value} {σ : nv_St} : np_X 41 9 [l0, l1, some .null, l3, l4] (.int x :: st) σ = np_X 41 10 [l0, l1, some .null, some (.int x), l4] st σ := np_op k41 rfl rfl
theorem e41_10 (x : Int32) {l0 l1 l2 l4 : Option Value} {st : List Value} {σ : nv_St} : np_X 41 10 [l0, l1, l2, some (.int x), l4] st σ = np_X 41 11 [l0, l1, l2, some (.int x), l4] (.int x :: st) σ := np_op k41 rfl rfl
theorem e41_11 (x : Int32) {l0 l1 l3 l4 : Option Value} {st : List Value} {σ : nv_St} : np_X 41 11 [l0, l1, some (.int x), l3, l4] st σ = np_X 41 12 [l0, l1, some (.int x), l3, l4] (.int x :: st) σ := np_op k41 rfl rfl
theorem e41_12 {ls : nv_Ls} {st : List Value} {σ : nv_St} {x y : Int32} : np_X 41 12 ls (.int y :: .int x :: st) σ = if x < y then np_X 41 15 ls st σ else np_X 41 43 ls st σ := np_br inferInstance k41 rfl rfl
theorem e41_15 (x : Nat) {l0 l2 l3 l4 : Option Value} {st : List Value} {σ : nv_St} : np_X 41 15 [l0, some (.ref x), l2, l3, l4] st σ = np_X 41 16 [l0, some (.ref x), l2, l3, l4] (.ref x :: st) σ := np_op k41 rfl rfl
theorem e41_15u  {l0 l2 l3 l4 : Option Value} {st : List Value} {σ : nv_St} : np_X 41 15 [l0, some .null, l2, l3, l4] st σ = np_X 41 16 [l0, some .null, l2, l3, l4] (.null :: st) σ := np_op k41 rfl rfl
theorem e41_16 (x : Int32) {l0 l1 l2 l4 : Option Value} {st : List Value} {σ : nv_St} : np_X 41 16 [l0, l1, l2, some (.int x), l4] st σ = np_X 41 17 [l0, l1, l2, some (.int x), l4] (.int x :: st) σ := np_op k41 rfl rfl
theorem e41_17 {ls : nv_Ls} {st : List Value} {σ : nv_St} {a : Nat} {x : Int32} : np_X 41 17 ls (.int x :: .ref a :: st) σ = np_b (nv_rdq σ 2 a x) (fun v => np_X 41 18 ls (v :: st) σ) := np_aldq k41 rfl
theorem e41_18n (x : Nat) {l0 l1 l2 l4 : Option Value} {st : List Value} {σ : nv_St} : np_X 41 18 [l0, l1, l2, none, l4] (.ref x :: st) σ = np_X 41 20 [l0, l1, l2, none, some (.ref x)] st σ := np_op k41 rfl rfl
theorem e41_18i (x : Nat) {z : Int32} {l0 l1 l2 l4 : Option Value} {st : List Value} {σ : nv_St} : np_X 41 18 [l0, l1, l2, some (.int z), l4] (.ref x :: st) σ = np_X 41 20 [l0, l1, l2, some (.int z), some (.ref x)] st σ := np_op k41 rfl rfl
theorem e41_18r (x : Nat) {z : Nat} {l0 l1 l2 l4 : Option Value} {st : List Value} {σ : nv_St} : np_X 41 18 [l0, l1, l2, some (.ref z), l4] (.ref x :: st) σ = np_X 41 20 [l0, l1, l2, some (.ref z), some (.ref x)] st σ := np_op k41 rfl rfl
theorem e41_18v (x : Nat) {l0 l1 l2 l4 : Option Value} {st : List Value} {σ : nv_St} : np_X 41 18 [l0, l1, l2, some .null, l4] (.ref x :: st) σ = np_X 41 20 [l0, l1, l2, some .null, some (.ref x)] st σ := np_op k41 rfl rfl
theorem e41_18un  {l0 l1 l2 l4 : Option Value} {st : List Value} {σ : nv_St} : np_X 41 18 [l0, l1, l2, none, l4] (.null :: st) σ = np_X 41 20 [l0, l1, l2, none, some .null] st σ := np_op k41 rfl rfl
theorem e41_18ui  {z : Int32} {l0 l1 l2 l4 : Option Value} {st : List Value} {σ : nv_St} : np_X 41 18 [l0, l1, l2, some (.int z), l4] (.null :: st) σ = np_X 41 20 [l0, l1, l2, some (.int z), some .null] st σ := np_op k41 rfl rfl
theorem e41_18ur  {z : Nat} {l0 l1 l2 l4 : Option Value} {st : List Value} {σ : nv_St} : np_X 41 18 [l0, l1, l2, some (.ref z), l4] (.null :: st) σ = np_X 41 20 [l0, l1, l2, some (.ref z), some .null] st σ := np_op k41 rfl rfl
theorem e41_18uv  {l0 l1 l2 l4 : Option Value} {st : List Value} {σ : nv_St} : np_X 41 18 [l0, l1, l2, some .null, l4] (.null :: st) σ = np_X 41 20 [l0, l1, l2, some .null, some .null] st σ := np_op k41 rfl rfl
theorem e41_20 (x : Nat) {l1 l2 l3 l4 : Option Value} {st : List Value} {σ : nv_St} : np_X 41 20 [some (.ref x), l1, l2, l3, l4] st σ = np_X 41 21 [some (.ref x), l1, l2, l3, l4] (.ref x :: st) σ := np_op k41 rfl rfl
theorem e41_20u  {l1 l2 l3 l4 : Option Value} {st : List Value} {σ : nv_St} : np_X 41 20 [some .null, l1, l2, l3, l4] st σ = np_X 41 21 [some .null, l1, l2, l3, l4] (.null :: st) σ := np_op k41 rfl rfl
theorem e41_21 (x : Nat) {l0 l1 l2 l3 : Option Value} {st : List Value} {σ : nv_St} : np_X 41 21 [l0, l1, l2, l3, some (.ref x)] st σ = np_X 41 23 [l0, l1, l2, l3, some (.ref x)] (.ref x :: st) σ := np_op k41 rfl rfl
theorem e41_21u  {l0 l1 l2 l3 : Option Value} {st : List Value} {σ : nv_St} : np_X 41 21 [l0, l1, l2, l3, some .null] st σ = np_X 41 23 [l0, l1, l2, l3, some .null] (.null :: st) σ := np_op k41 rfl rfl
theorem e41_23 {ls : nv_Ls} {st : List Value} {σ : nv_St} {a : Nat} {x0 : Nat} (h : st.length ≤ 4) (h0 : nv_isO σ 2 a = true) : np_X 41 23 ls (.ref x0 :: .ref a :: st) σ = np_aft 41 23 26 ls st (np_X 35 0 [some (.ref a), some (.ref x0), none, none, none, none, none] [] σ) := np_call k41 rfl (Nat.le_add_left 2 _) rfl rfl h rfl h0 rfl
theorem e41_26 (x : Nat) {l1 l2 l3 l4 : Option Value} {st : List Value} {σ : nv_St} : np_X 41 26 [some (.ref x), l1, l2, l3, l4] st σ = np_X 41 27 [some (.ref x), l1, l2, l3, l4] (.ref x :: st) σ := np_op k41 rfl rfl
theorem e41_26u  {l1 l2 l3 l4 : Option Value} {st : List Value} {σ : nv_St} : np_X 41 26 [some .null, l1, l2, l3, l4] st σ = np_X 41 27 [some .null, l1, l2, l3, l4] (.null :: st) σ := np_op k41 rfl rfl
theorem e41_27 (x : Nat) {l0 l1 l2 l3 : Option Value} {st : List Value} {σ : nv_St} : np_X 41 27 [l0, l1, l2, l3, some (.ref x)] st σ = np_X 41 29 [l0, l1, l2, l3, some (.ref x)] (.ref x :: st) σ := np_op k41 rfl rfl
theorem e41_27u  {l0 l1 l2 l3 : Option Value} {st : List Value} {σ : nv_St} : np_X 41 27 [l0, l1, l2, l3, some .null] st σ = np_X 41 29 [l0, l1, l2, l3, some .null] (.null :: st) σ := np_op k41 rfl rfl
theorem e41_29 {ls : nv_Ls} {st : List Value} {σ : nv_St} {a : Nat} {x0 : Nat} (h : st.length ≤ 4) (h0 : nv_isO σ 2 a = true) : np_X 41 29 ls (.ref x0 :: .ref a :: st) σ = np_aft 41 29 32 ls st (np_X 36 0 [some (.ref a), some (.ref x0), none, none, none] [] σ) := np_call k41 rfl (Nat.le_add_left 2 _) rfl rfl h rfl h0 rfl
theorem e41_32 {ls : nv_Ls} {st : List Value} {σ : nv_St} {x y : Int32} : np_X 41 32 ls (.int y :: .int x :: st) σ = if x = y then np_X 41 37 ls st σ else np_X 41 35 ls st σ := np_br inferInstance k41 rfl rfl
theorem e41_35 {ls : nv_Ls} {st : List Value} {σ : nv_St} : np_X 41 35 ls st σ = np_X 41 36 ls (.int (0) :: st) σ := np_op k41 rfl rfl
theorem e41_36 {ls : nv_Ls} {σ : nv_St} {x : Int32} (h : narrow .boolean (.int x) = .int x) : np_X 41 36 ls [.int x] σ = some (.inl (some (.int x)), σ) := np_reti k41 rfl h
theorem e41_37n (x : Int32) {l0 l1 l4 : Option Value} {st : List Value} {σ : nv_St} : np_X 41 37 [l0, l1, none, some (.int x), l4] st σ = np_X 41 40 [l0, l1, none, some (.int (x + (1))), l4] st σ := np_op k41 rfl rfl
theorem e41_37i (x : Int32) {z : Int32} {l0 l1 l4 : Option Value} {st : List Value} {σ : nv_St} : np_X 41 37 [l0, l1, some (.int z), some (.int x), l4] st σ = np_X 41 40 [l0, l1, some (.int z), some (.int (x + (1))), l4] st σ := np_op k41 rfl rfl
theorem e41_37r (x : Int32) {z : Nat} {l0 l1 l4 : Option Value} {st : List Value} {σ : nv_St} : np_X 41 37 [l0, l1, some (.ref z), some (.int x), l4] st σ = np_X 41 40 [l0, l1, some (.ref z), some (.int (x + (1))), l4] st σ := np_op k41 rfl rfl
theorem e41_37v (x : Int32) {l0 l1 l4 : Option Value} {st : List Value} {σ : nv_St} : np_X 41 37 [l0, l1, some .null, some (.int x), l4] st σ = np_X 41 40 [l0, l1, some .null, some (.int (x + (1))), l4] st σ := np_op k41 rfl rfl
theorem e41_40 {ls : nv_Ls} {st : List Value} {σ : nv_St} : np_X 41 40 ls st σ = np_X 41 10 ls st σ := np_op k41 rfl rfl
theorem e41_43 {ls : nv_Ls} {st : List Value} {σ : nv_St} : np_X 41 43 ls st σ = np_X 41 44 ls (.int (1) :: st) σ := np_op k41 rfl rfl
theorem e41_44 {ls : nv_Ls} {σ : nv_St} {x : Int32} (h : narrow .boolean (.int x) = .int x) : np_X 41 44 ls [.int x] σ = some (.inl (some (.int x)), σ) := np_reti k41 rfl h
-- 42 SpoonNavy$Game.areCubesEqual
theorem k42 : np_P.1 42 = np_c42 := rfl
theorem e42_0 (x : Nat) {st : List Value} {σ : nv_St} : np_X 42 0 [some (.ref x)] st σ = np_X 42 1 [some (.ref x)] (.ref x :: st) σ := np_op k42 rfl rfl
theorem e42_0u  {st : List Value} {σ : nv_St} : np_X 42 0 [some .null] st σ = np_X 42 1 [some .null] (.null :: st) σ := np_op k42 rfl rfl
theorem e42_1 {ls : nv_Ls} {st : List Value} {σ : nv_St} : np_X 42 1 ls st σ = np_X 42 2 ls (.int (0) :: st) σ := np_op k42 rfl rfl
theorem e42_2 {ls : nv_Ls} {st : List Value} {σ : nv_St} {a : Nat} {x0 : Int32} (h : st.length ≤ 4) (h0 : nv_isO σ 2 a = true) : np_X 42 2 ls (.int x0 :: .ref a :: st) σ = np_aft 42 2 5 ls st (np_X 40 0 [some (.ref a), some (.int x0), none, none, none, none, none] [] σ) := np_call k42 rfl (Nat.le_add_left 2 _) rfl rfl h rfl h0 rfl
theorem e42_5 (x : Nat) {st : List Value} {σ : nv_St} : np_X 42 5 [some (.ref x)] st σ = np_X 42 6 [some (.ref x)] (.ref x :: st) σ := np_op k42 rfl rfl
theorem e42_5u  {st : List Value} {σ : nv_St} : np_X 42 5 [some .null] st σ = np_X 42 6 [some .null] (.null :: st) σ := np_op k42 rfl rfl
theorem e42_6 {ls : nv_Ls} {st : List Value} {σ : nv_St} {a : Nat} : np_X 42 6 ls (.ref a :: st) σ = np_b (nv_fld σ 2 1 a) (fun v => np_X 42 9 ls (v :: st) σ) := np_get k42 rfl
theorem e42_9 {ls : nv_Ls} {st : List Value} {σ : nv_St} {a : Nat}  (h : st.length ≤ 4) (h0 : nv_isO σ 0 a = true) : np_X 42 9 ls (.ref a :: st) σ = np_aft 42 9 12 ls st (np_X 10 0 [some (.ref a)] [] σ) := np_call k42 rfl (Nat.le_add_left 1 _) rfl rfl h rfl h0 rfl
theorem e42_12 {ls : nv_Ls} {st : List Value} {σ : nv_St} {x y : Int32} : np_X 42 12 ls (.int y :: .int x :: st) σ = if x = y then np_X 42 15 ls st σ else np_X 42 34 ls st σ := np_br inferInstance k42 rfl rfl
theorem e42_15 (x : Nat) {st : List Value} {σ : nv_St} : np_X 42 15 [some (.ref x)] st σ = np_X 42 16 [some (.ref x)] (.ref x :: st) σ := np_op k42 rfl rfl
theorem e42_15u  {st : List Value} {σ : nv_St} : np_X 42 15 [some .null] st σ = np_X 42 16 [some .null] (.null :: st) σ := np_op k42 rfl rfl
theorem e42_16 {ls : nv_Ls} {st : List Value} {σ : nv_St} : np_X 42 16 ls st σ = np_X 42 17 ls (.int (1) :: st) σ := np_op k42 rfl rfl
theorem e42_17 {ls : nv_Ls} {st : List Value} {σ : nv_St} {a : Nat} {x0 : Int32} (h : st.length ≤ 4) (h0 : nv_isO σ 2 a = true) : np_X 42 17 ls (.int x0 :: .ref a :: st) σ = np_aft 42 17 20 ls st (np_X 40 0 [some (.ref a), some (.int x0), none, none, none, none, none] [] σ) := np_call k42 rfl (Nat.le_add_left 2 _) rfl rfl h rfl h0 rfl
theorem e42_20 (x : Nat) {st : List Value} {σ : nv_St} : np_X 42 20 [some (.ref x)] st σ = np_X 42 21 [some (.ref x)] (.ref x :: st) σ := np_op k42 rfl rfl
theorem e42_20u  {st : List Value} {σ : nv_St} : np_X 42 20 [some .null] st σ = np_X 42 21 [some .null] (.null :: st) σ := np_op k42 rfl rfl
theorem e42_21 {ls : nv_Ls} {st : List Value} {σ : nv_St} {a : Nat} : np_X 42 21 ls (.ref a :: st) σ = np_b (nv_fld σ 2 2 a) (fun v => np_X 42 24 ls (v :: st) σ) := np_get k42 rfl
theorem e42_24 {ls : nv_Ls} {st : List Value} {σ : nv_St} {a : Nat}  (h : st.length ≤ 4) (h0 : nv_isO σ 0 a = true) : np_X 42 24 ls (.ref a :: st) σ = np_aft 42 24 27 ls st (np_X 10 0 [some (.ref a)] [] σ) := np_call k42 rfl (Nat.le_add_left 1 _) rfl rfl h rfl h0 rfl
theorem e42_27 {ls : nv_Ls} {st : List Value} {σ : nv_St} {x y : Int32} : np_X 42 27 ls (.int y :: .int x :: st) σ = if x = y then np_X 42 30 ls st σ else np_X 42 34 ls st σ := np_br inferInstance k42 rfl rfl
theorem e42_30 {ls : nv_Ls} {st : List Value} {σ : nv_St} : np_X 42 30 ls st σ = np_X 42 31 ls (.int (1) :: st) σ := np_op k42 rfl rfl
theorem e42_31 {ls : nv_Ls} {st : List Value} {σ : nv_St} : np_X 42 31 ls st σ = np_X 42 35 ls st σ := np_op k42 rfl rfl
theorem e42_34 {ls : nv_Ls} {st : List Value} {σ : nv_St} : np_X 42 34 ls st σ = np_X 42 35 ls (.int (0) :: st) σ := np_op k42 rfl rfl
theorem e42_35 {ls : nv_Ls} {σ : nv_St} {x : Int32} (h : narrow .boolean (.int x) = .int x) : np_X 42 35 ls [.int x] σ = some (.inl (some (.int x)), σ) := np_reti k42 rfl h
