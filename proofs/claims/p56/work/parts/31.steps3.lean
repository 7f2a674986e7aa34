-- an equation for each instruction (written by wip/p56/gen30.py)
-- 80 SpoonNavy.turnCount
theorem k80 : np_P.1 80 = np_c80 := rfl
theorem e80_0 (x : Nat) {st : List Value} {σ : nv_St} : np_X 80 0 [some (.ref x)] st σ = np_X 80 1 [some (.ref x)] (.ref x :: st) σ := np_op k80 rfl rfl
theorem e80_0u  {st : List Value} {σ : nv_St} : np_X 80 0 [some .null] st σ = np_X 80 1 [some .null] (.null :: st) σ := np_op k80 rfl rfl
theorem e80_1 {ls : nv_Ls} {st : List Value} {σ : nv_St} {a : Nat} : np_X 80 1 ls (.ref a :: st) σ = np_b (nv_fld σ 5 0 a) (fun v => np_X 80 4 ls (v :: st) σ) := np_get k80 rfl
theorem e80_4 {ls : nv_Ls} {st : List Value} {σ : nv_St} {a : Nat} : np_X 80 4 ls (.ref a :: st) σ = np_b (nv_fld σ 2 7 a) (fun v => np_X 80 7 ls (v :: st) σ) := np_get k80 rfl
theorem e80_7 {ls : nv_Ls} {σ : nv_St} {x : Int32} : np_X 80 7 ls [.int x] σ = some (.inl (some (.int x)), σ) := np_reti k80 rfl rfl
-- 81 SpoonNavy.turnTo
theorem k81 : np_P.1 81 = np_c81 := rfl
theorem e81_0 (x : Nat) {l1 l2 : Option Value} {st : List Value} {σ : nv_St} : np_X 81 0 [some (.ref x), l1, l2] st σ = np_X 81 1 [some (.ref x), l1, l2] (.ref x :: st) σ := np_op k81 rfl rfl
theorem e81_0u  {l1 l2 : Option Value} {st : List Value} {σ : nv_St} : np_X 81 0 [some .null, l1, l2] st σ = np_X 81 1 [some .null, l1, l2] (.null :: st) σ := np_op k81 rfl rfl
theorem e81_1 {ls : nv_Ls} {st : List Value} {σ : nv_St} {a : Nat} : np_X 81 1 ls (.ref a :: st) σ = np_b (nv_fld σ 5 1 a) (fun v => np_X 81 4 ls (v :: st) σ) := np_get k81 rfl
theorem e81_4 (x : Nat) {l1 l2 : Option Value} {st : List Value} {σ : nv_St} : np_X 81 4 [some (.ref x), l1, l2] st σ = np_X 81 5 [some (.ref x), l1, l2] (.ref x :: st) σ := np_op k81 rfl rfl
theorem e81_4u  {l1 l2 : Option Value} {st : List Value} {σ : nv_St} : np_X 81 4 [some .null, l1, l2] st σ = np_X 81 5 [some .null, l1, l2] (.null :: st) σ := np_op k81 rfl rfl
theorem e81_5 {ls : nv_Ls} {st : List Value} {σ : nv_St} {a : Nat} : np_X 81 5 ls (.ref a :: st) σ = np_b (nv_fld σ 5 0 a) (fun v => np_X 81 8 ls (v :: st) σ) := np_get k81 rfl
theorem e81_8 {ls : nv_Ls} {st : List Value} {σ : nv_St} {a : Nat} {x0 : Nat} (h : st.length ≤ 4) (h0 : nv_isO σ 2 a = true) : np_X 81 8 ls (.ref x0 :: .ref a :: st) σ = np_aft 81 8 11 ls st (np_X 27 0 [some (.ref a), some (.ref x0), none] [] σ) := np_call k81 rfl (Nat.le_add_left 2 _) rfl rfl h rfl h0 rfl
theorem e81_11 (x : Nat) {l1 l2 : Option Value} {st : List Value} {σ : nv_St} : np_X 81 11 [some (.ref x), l1, l2] st σ = np_X 81 12 [some (.ref x), l1, l2] (.ref x :: st) σ := np_op k81 rfl rfl
theorem e81_11u  {l1 l2 : Option Value} {st : List Value} {σ : nv_St} : np_X 81 11 [some .null, l1, l2] st σ = np_X 81 12 [some .null, l1, l2] (.null :: st) σ := np_op k81 rfl rfl
theorem e81_12 (x : Nat) {l1 l2 : Option Value} {st : List Value} {σ : nv_St} : np_X 81 12 [some (.ref x), l1, l2] st σ = np_X 81 13 [some (.ref x), l1, l2] (.ref x :: st) σ := np_op k81 rfl rfl
theorem e81_12u  {l1 l2 : Option Value} {st : List Value} {σ : nv_St} : np_X 81 12 [some .null, l1, l2] st σ = np_X 81 13 [some .null, l1, l2] (.null :: st) σ := np_op k81 rfl rfl
theorem e81_13 {ls : nv_Ls} {st : List Value} {σ : nv_St} {a : Nat} : np_X 81 13 ls (.ref a :: st) σ = np_b (nv_fld σ 5 0 a) (fun v => np_X 81 16 ls (v :: st) σ) := np_get k81 rfl
theorem e81_16 (x : Int32) {l0 l2 : Option Value} {st : List Value} {σ : nv_St} : np_X 81 16 [l0, some (.int x), l2] st σ = np_X 81 17 [l0, some (.int x), l2] (.int x :: st) σ := np_op k81 rfl rfl
theorem e81_17 (x : Int32) {l0 l1 : Option Value} {st : List Value} {σ : nv_St} : np_X 81 17 [l0, l1, some (.int x)] st σ = np_X 81 18 [l0, l1, some (.int x)] (.int x :: st) σ := np_op k81 rfl rfl
theorem e81_18 {ls : nv_Ls} {st : List Value} {σ : nv_St} {a : Nat} {x0 : Int32} {x1 : Int32} (h : st.length ≤ 4) (h0 : nv_isO σ 2 a = true) : np_X 81 18 ls (.int x1 :: .int x0 :: .ref a :: st) σ = np_aft 81 18 21 ls st (np_X 47 0 [some (.ref a), some (.int x0), some (.int x1), none, none, none] [] σ) := np_call k81 rfl (Nat.le_add_left 3 _) rfl rfl h rfl h0 rfl
theorem e81_21 {ls : nv_Ls} {st : List Value} {σ : nv_St} {a : Nat} {x0 : Int32} (h : st.length ≤ 4) (h0 : nv_isO σ 5 a = true) : np_X 81 21 ls (.int x0 :: .ref a :: st) σ = np_aft 81 21 24 ls st (np_X 123 0 [some (.ref a), some (.int x0)] [] σ) := np_call k81 rfl (Nat.le_add_left 2 _) rfl rfl h rfl h0 rfl
theorem e81_24 {ls : nv_Ls} {σ : nv_St} {x : Int32} : np_X 81 24 ls [.int x] σ = some (.inl (some (.int x)), σ) := np_reti k81 rfl rfl
-- 82 SpoonNavy.sail
theorem k82 : np_P.1 82 = np_c82 := rfl
theorem e82_0 (x : Nat) {l1 l2 l3 : Option Value} {st : List Value} {σ : nv_St} : np_X 82 0 [some (.ref x), l1, l2, l3] st σ = np_X 82 1 [some (.ref x), l1, l2, l3] (.ref x :: st) σ := np_op k82 rfl rfl
theorem e82_0u  {l1 l2 l3 : Option Value} {st : List Value} {σ : nv_St} : np_X 82 0 [some .null, l1, l2, l3] st σ = np_X 82 1 [some .null, l1, l2, l3] (.null :: st) σ := np_op k82 rfl rfl
theorem e82_1 {ls : nv_Ls} {st : List Value} {σ : nv_St} {a : Nat} : np_X 82 1 ls (.ref a :: st) σ = np_b (nv_fld σ 5 1 a) (fun v => np_X 82 4 ls (v :: st) σ) := np_get k82 rfl
theorem e82_4 (x : Nat) {l1 l2 l3 : Option Value} {st : List Value} {σ : nv_St} : np_X 82 4 [some (.ref x), l1, l2, l3] st σ = np_X 82 5 [some (.ref x), l1, l2, l3] (.ref x :: st) σ := np_op k82 rfl rfl
theorem e82_4u  {l1 l2 l3 : Option Value} {st : List Value} {σ : nv_St} : np_X 82 4 [some .null, l1, l2, l3] st σ = np_X 82 5 [some .null, l1, l2, l3] (.null :: st) σ := np_op k82 rfl rfl
theorem e82_5 {ls : nv_Ls} {st : List Value} {σ : nv_St} {a : Nat} : np_X 82 5 ls (.ref a :: st) σ = np_b (nv_fld σ 5 0 a) (fun v => np_X 82 8 ls (v :: st) σ) := np_get k82 rfl
theorem e82_8 {ls : nv_Ls} {st : List Value} {σ : nv_St} {a : Nat} {x0 : Nat} (h : st.length ≤ 4) (h0 : nv_isO σ 2 a = true) : np_X 82 8 ls (.ref x0 :: .ref a :: st) σ = np_aft 82 8 11 ls st (np_X 27 0 [some (.ref a), some (.ref x0), none] [] σ) := np_call k82 rfl (Nat.le_add_left 2 _) rfl rfl h rfl h0 rfl
theorem e82_11 (x : Nat) {l1 l2 l3 : Option Value} {st : List Value} {σ : nv_St} : np_X 82 11 [some (.ref x), l1, l2, l3] st σ = np_X 82 12 [some (.ref x), l1, l2, l3] (.ref x :: st) σ := np_op k82 rfl rfl
theorem e82_11u  {l1 l2 l3 : Option Value} {st : List Value} {σ : nv_St} : np_X 82 11 [some .null, l1, l2, l3] st σ = np_X 82 12 [some .null, l1, l2, l3] (.null :: st) σ := np_op k82 rfl rfl
theorem e82_12 (x : Nat) {l1 l2 l3 : Option Value} {st : List Value} {σ : nv_St} : np_X 82 12 [some (.ref x), l1, l2, l3] st σ = np_X 82 13 [some (.ref x), l1, l2, l3] (.ref x :: st) σ := np_op k82 rfl rfl
theorem e82_12u  {l1 l2 l3 : Option Value} {st : List Value} {σ : nv_St} : np_X 82 12 [some .null, l1, l2, l3] st σ = np_X 82 13 [some .null, l1, l2, l3] (.null :: st) σ := np_op k82 rfl rfl
theorem e82_13 {ls : nv_Ls} {st : List Value} {σ : nv_St} {a : Nat} : np_X 82 13 ls (.ref a :: st) σ = np_b (nv_fld σ 5 0 a) (fun v => np_X 82 16 ls (v :: st) σ) := np_get k82 rfl
theorem e82_16 (x : Int32) {l0 l2 l3 : Option Value} {st : List Value} {σ : nv_St} : np_X 82 16 [l0, some (.int x), l2, l3] st σ = np_X 82 17 [l0, some (.int x), l2, l3] (.int x :: st) σ := np_op k82 rfl rfl
theorem e82_17 (x : Int32) {l0 l1 l3 : Option Value} {st : List Value} {σ : nv_St} : np_X 82 17 [l0, l1, some (.int x), l3] st σ = np_X 82 18 [l0, l1, some (.int x), l3] (.int x :: st) σ := np_op k82 rfl rfl
theorem e82_18 (x : Int32) {l0 l1 l2 : Option Value} {st : List Value} {σ : nv_St} : np_X 82 18 [l0, l1, l2, some (.int x)] st σ = np_X 82 19 [l0, l1, l2, some (.int x)] (.int x :: st) σ := np_op k82 rfl rfl
theorem e82_19 {ls : nv_Ls} {st : List Value} {σ : nv_St} {a : Nat} {x0 : Int32} {x1 : Int32} {x2 : Int32} (h : st.length ≤ 4) (h0 : nv_isO σ 2 a = true) : np_X 82 19 ls (.int x2 :: .int x1 :: .int x0 :: .ref a :: st) σ = np_aft 82 19 22 ls st (np_X 48 0 [some (.ref a), some (.int x0), some (.int x1), some (.int x2), none, none, none] [] σ) := np_call k82 rfl (Nat.le_add_left 4 _) rfl rfl h rfl h0 rfl
theorem e82_22 {ls : nv_Ls} {st : List Value} {σ : nv_St} {a : Nat} {x0 : Int32} (h : st.length ≤ 4) (h0 : nv_isO σ 5 a = true) : np_X 82 22 ls (.int x0 :: .ref a :: st) σ = np_aft 82 22 25 ls st (np_X 123 0 [some (.ref a), some (.int x0)] [] σ) := np_call k82 rfl (Nat.le_add_left 2 _) rfl rfl h rfl h0 rfl
theorem e82_25 {ls : nv_Ls} {σ : nv_St} {x : Int32} : np_X 82 25 ls [.int x] σ = some (.inl (some (.int x)), σ) := np_reti k82 rfl rfl
-- 83 SpoonNavy.fire
theorem k83 : np_P.1 83 = np_c83 := rfl
theorem e83_0 (x : Nat) {l1 l2 l3 : Option Value} {st : List Value} {σ : nv_St} : np_X 83 0 [some (.ref x), l1, l2, l3] st σ = np_X 83 1 [some (.ref x), l1, l2, l3] (.ref x :: st) σ := np_op k83 rfl rfl
theorem e83_0u  {l1 l2 l3 : Option Value} {st : List Value} {σ : nv_St} : np_X 83 0 [some .null, l1, l2, l3] st σ = np_X 83 1 [some .null, l1, l2, l3] (.null :: st) σ := np_op k83 rfl rfl
theorem e83_1 {ls : nv_Ls} {st : List Value} {σ : nv_St} {a : Nat} : np_X 83 1 ls (.ref a :: st) σ = np_b (nv_fld σ 5 1 a) (fun v => np_X 83 4 ls (v :: st) σ) := np_get k83 rfl
theorem e83_4 (x : Nat) {l1 l2 l3 : Option Value} {st : List Value} {σ : nv_St} : np_X 83 4 [some (.ref x), l1, l2, l3] st σ = np_X 83 5 [some (.ref x), l1, l2, l3] (.ref x :: st) σ := np_op k83 rfl rfl
theorem e83_4u  {l1 l2 l3 : Option Value} {st : List Value} {σ : nv_St} : np_X 83 4 [some .null, l1, l2, l3] st σ = np_X 83 5 [some .null, l1, l2, l3] (.null :: st) σ := np_op k83 rfl rfl
theorem e83_5 {ls : nv_Ls} {st : List Value} {σ : nv_St} {a : Nat} : np_X 83 5 ls (.ref a :: st) σ = np_b (nv_fld σ 5 0 a) (fun v => np_X 83 8 ls (v :: st) σ) := np_get k83 rfl
theorem e83_8 {ls : nv_Ls} {st : List Value} {σ : nv_St} {a : Nat} {x0 : Nat} (h : st.length ≤ 4) (h0 : nv_isO σ 2 a = true) : np_X 83 8 ls (.ref x0 :: .ref a :: st) σ = np_aft 83 8 11 ls st (np_X 27 0 [some (.ref a), some (.ref x0), none] [] σ) := np_call k83 rfl (Nat.le_add_left 2 _) rfl rfl h rfl h0 rfl
theorem e83_11 (x : Nat) {l1 l2 l3 : Option Value} {st : List Value} {σ : nv_St} : np_X 83 11 [some (.ref x), l1, l2, l3] st σ = np_X 83 12 [some (.ref x), l1, l2, l3] (.ref x :: st) σ := np_op k83 rfl rfl
theorem e83_11u  {l1 l2 l3 : Option Value} {st : List Value} {σ : nv_St} : np_X 83 11 [some .null, l1, l2, l3] st σ = np_X 83 12 [some .null, l1, l2, l3] (.null :: st) σ := np_op k83 rfl rfl
theorem e83_12 (x : Nat) {l1 l2 l3 : Option Value} {st : List Value} {σ : nv_St} : np_X 83 12 [some (.ref x), l1, l2, l3] st σ = np_X 83 13 [some (.ref x), l1, l2, l3] (.ref x :: st) σ := np_op k83 rfl rfl
theorem e83_12u  {l1 l2 l3 : Option Value} {st : List Value} {σ : nv_St} : np_X 83 12 [some .null, l1, l2, l3] st σ = np_X 83 13 [some .null, l1, l2, l3] (.null :: st) σ := np_op k83 rfl rfl
theorem e83_13 {ls : nv_Ls} {st : List Value} {σ : nv_St} {a : Nat} : np_X 83 13 ls (.ref a :: st) σ = np_b (nv_fld σ 5 0 a) (fun v => np_X 83 16 ls (v :: st) σ) := np_get k83 rfl
theorem e83_16 (x : Int32) {l0 l2 l3 : Option Value} {st : List Value} {σ : nv_St} : np_X 83 16 [l0, some (.int x), l2, l3] st σ = np_X 83 17 [l0, some (.int x), l2, l3] (.int x :: st) σ := np_op k83 rfl rfl
theorem e83_17 (x : Int32) {l0 l1 l3 : Option Value} {st : List Value} {σ : nv_St} : np_X 83 17 [l0, l1, some (.int x), l3] st σ = np_X 83 18 [l0, l1, some (.int x), l3] (.int x :: st) σ := np_op k83 rfl rfl
theorem e83_18 (x : Int32) {l0 l1 l2 : Option Value} {st : List Value} {σ : nv_St} : np_X 83 18 [l0, l1, l2, some (.int x)] st σ = np_X 83 19 [l0, l1, l2, some (.int x)] (.int x :: st) σ := np_op k83 rfl rfl
theorem e83_19 {ls : nv_Ls} {st : List Value} {σ : nv_St} {a : Nat} {x0 : Int32} {x1 : Int32} {x2 : Int32} (h : st.length ≤ 4) (h0 : nv_isO σ 2 a = true) : np_X 83 19 ls (.int x2 :: .int x1 :: .int x0 :: .ref a :: st) σ = np_aft 83 19 22 ls st (np_X 52 0 [some (.ref a), some (.int x0), some (.int x1), some (.int x2), none, none, none] [] σ) := np_call k83 rfl (Nat.le_add_left 4 _) rfl rfl h rfl h0 rfl
theorem e83_22 {ls : nv_Ls} {st : List Value} {σ : nv_St} {a : Nat} {x0 : Int32} (h : st.length ≤ 4) (h0 : nv_isO σ 5 a = true) : np_X 83 22 ls (.int x0 :: .ref a :: st) σ = np_aft 83 22 25 ls st (np_X 123 0 [some (.ref a), some (.int x0)] [] σ) := np_call k83 rfl (Nat.le_add_left 2 _) rfl rfl h rfl h0 rfl
theorem e83_25 {ls : nv_Ls} {σ : nv_St} {x : Int32} : np_X 83 25 ls [.int x] σ = some (.inl (some (.int x)), σ) := np_reti k83 rfl rfl
-- 84 SpoonNavy.load
theorem k84 : np_P.1 84 = np_c84 := rfl
theorem e84_0 (x : Nat) {l1 l2 : Option Value} {st : List Value} {σ : nv_St} : np_X 84 0 [some (.ref x), l1, l2] st σ = np_X 84 1 [some (.ref x), l1, l2] (.ref x :: st) σ := np_op k84 rfl rfl
theorem e84_0u  {l1 l2 : Option Value} {st : List Value} {σ : nv_St} : np_X 84 0 [some .null, l1, l2] st σ = np_X 84 1 [some .null, l1, l2] (.null :: st) σ := np_op k84 rfl rfl
theorem e84_1 {ls : nv_Ls} {st : List Value} {σ : nv_St} {a : Nat} : np_X 84 1 ls (.ref a :: st) σ = np_b (nv_fld σ 5 1 a) (fun v => np_X 84 4 ls (v :: st) σ) := np_get k84 rfl
theorem e84_4 (x : Nat) {l1 l2 : Option Value} {st : List Value} {σ : nv_St} : np_X 84 4 [some (.ref x), l1, l2] st σ = np_X 84 5 [some (.ref x), l1, l2] (.ref x :: st) σ := np_op k84 rfl rfl
theorem e84_4u  {l1 l2 : Option Value} {st : List Value} {σ : nv_St} : np_X 84 4 [some .null, l1, l2] st σ = np_X 84 5 [some .null, l1, l2] (.null :: st) σ := np_op k84 rfl rfl
theorem e84_5 {ls : nv_Ls} {st : List Value} {σ : nv_St} {a : Nat} : np_X 84 5 ls (.ref a :: st) σ = np_b (nv_fld σ 5 0 a) (fun v => np_X 84 8 ls (v :: st) σ) := np_get k84 rfl
theorem e84_8 {ls : nv_Ls} {st : List Value} {σ : nv_St} {a : Nat} {x0 : Nat} (h : st.length ≤ 4) (h0 : nv_isO σ 2 a = true) : np_X 84 8 ls (.ref x0 :: .ref a :: st) σ = np_aft 84 8 11 ls st (np_X 27 0 [some (.ref a), some (.ref x0), none] [] σ) := np_call k84 rfl (Nat.le_add_left 2 _) rfl rfl h rfl h0 rfl
theorem e84_11 (x : Nat) {l1 l2 : Option Value} {st : List Value} {σ : nv_St} : np_X 84 11 [some (.ref x), l1, l2] st σ = np_X 84 12 [some (.ref x), l1, l2] (.ref x :: st) σ := np_op k84 rfl rfl
theorem e84_11u  {l1 l2 : Option Value} {st : List Value} {σ : nv_St} : np_X 84 11 [some .null, l1, l2] st σ = np_X 84 12 [some .null, l1, l2] (.null :: st) σ := np_op k84 rfl rfl
theorem e84_12 (x : Nat) {l1 l2 : Option Value} {st : List Value} {σ : nv_St} : np_X 84 12 [some (.ref x), l1, l2] st σ = np_X 84 13 [some (.ref x), l1, l2] (.ref x :: st) σ := np_op k84 rfl rfl
theorem e84_12u  {l1 l2 : Option Value} {st : List Value} {σ : nv_St} : np_X 84 12 [some .null, l1, l2] st σ = np_X 84 13 [some .null, l1, l2] (.null :: st) σ := np_op k84 rfl rfl
theorem e84_13 {ls : nv_Ls} {st : List Value} {σ : nv_St} {a : Nat} : np_X 84 13 ls (.ref a :: st) σ = np_b (nv_fld σ 5 0 a) (fun v => np_X 84 16 ls (v :: st) σ) := np_get k84 rfl
theorem e84_16 (x : Int32) {l0 l2 : Option Value} {st : List Value} {σ : nv_St} : np_X 84 16 [l0, some (.int x), l2] st σ = np_X 84 17 [l0, some (.int x), l2] (.int x :: st) σ := np_op k84 rfl rfl
theorem e84_17 (x : Int32) {l0 l1 : Option Value} {st : List Value} {σ : nv_St} : np_X 84 17 [l0, l1, some (.int x)] st σ = np_X 84 18 [l0, l1, some (.int x)] (.int x :: st) σ := np_op k84 rfl rfl
theorem e84_18 {ls : nv_Ls} {st : List Value} {σ : nv_St} {a : Nat} {x0 : Int32} {x1 : Int32} (h : st.length ≤ 4) (h0 : nv_isO σ 2 a = true) : np_X 84 18 ls (.int x1 :: .int x0 :: .ref a :: st) σ = np_aft 84 18 21 ls st (np_X 54 0 [some (.ref a), some (.int x0), some (.int x1), none, none, none] [] σ) := np_call k84 rfl (Nat.le_add_left 3 _) rfl rfl h rfl h0 rfl
theorem e84_21 {ls : nv_Ls} {st : List Value} {σ : nv_St} {a : Nat} {x0 : Int32} (h : st.length ≤ 4) (h0 : nv_isO σ 5 a = true) : np_X 84 21 ls (.int x0 :: .ref a :: st) σ = np_aft 84 21 24 ls st (np_X 123 0 [some (.ref a), some (.int x0)] [] σ) := np_call k84 rfl (Nat.le_add_left 2 _) rfl rfl h rfl h0 rfl
theorem e84_24 {ls : nv_Ls} {σ : nv_St} {x : Int32} : np_X 84 24 ls [.int x] σ = some (.inl (some (.int x)), σ) := np_reti k84 rfl rfl
-- 85 SpoonNavy.spoonCount
theorem k85 : np_P.1 85 = np_c85 := rfl
theorem e85_0 (x : Nat) {st : List Value} {σ : nv_St} : np_X 85 0 [some (.ref x)] st σ = np_X 85 1 [some (.ref x)] (.ref x :: st) σ := np_op k85 rfl rfl
theorem e85_0u  {st : List Value} {σ : nv_St} : np_X 85 0 [some .null] st σ = np_X 85 1 [some .null] (.null :: st) σ := np_op k85 rfl rfl
theorem e85_1 {ls : nv_Ls} {st : List Value} {σ : nv_St} {a : Nat} : np_X 85 1 ls (.ref a :: st) σ = np_b (nv_fld σ 5 0 a) (fun v => np_X 85 4 ls (v :: st) σ) := np_get k85 rfl
theorem e85_4 {ls : nv_Ls} {st : List Value} {σ : nv_St} {a : Nat} : np_X 85 4 ls (.ref a :: st) σ = np_b (nv_fld σ 2 3 a) (fun v => np_X 85 7 ls (v :: st) σ) := np_get k85 rfl
theorem e85_7 {ls : nv_Ls} {σ : nv_St} {x : Int32} : np_X 85 7 ls [.int x] σ = some (.inl (some (.int x)), σ) := np_reti k85 rfl rfl
-- 86 SpoonNavy.fleetOf
theorem k86 : np_P.1 86 = np_c86 := rfl
theorem e86_0 (x : Nat) {l1 : Option Value} {st : List Value} {σ : nv_St} : np_X 86 0 [some (.ref x), l1] st σ = np_X 86 1 [some (.ref x), l1] (.ref x :: st) σ := np_op k86 rfl rfl
theorem e86_0u  {l1 : Option Value} {st : List Value} {σ : nv_St} : np_X 86 0 [some .null, l1] st σ = np_X 86 1 [some .null, l1] (.null :: st) σ := np_op k86 rfl rfl
theorem e86_1 (x : Int32) {l0 : Option Value} {st : List Value} {σ : nv_St} : np_X 86 1 [l0, some (.int x)] st σ = np_X 86 2 [l0, some (.int x)] (.int x :: st) σ := np_op k86 rfl rfl
theorem e86_2 {ls : nv_Ls} {st : List Value} {σ : nv_St} {a : Nat} {x0 : Int32} (h : st.length ≤ 4) (h0 : nv_isO σ 5 a = true) : np_X 86 2 ls (.int x0 :: .ref a :: st) σ = np_aft 86 2 5 ls st (np_X 127 0 [some (.ref a), some (.int x0), none] [] σ) := np_call k86 rfl (Nat.le_add_left 2 _) rfl rfl h rfl h0 rfl
theorem e86_5 {ls : nv_Ls} {st : List Value} {σ : nv_St} {a : Nat} : np_X 86 5 ls (.ref a :: st) σ = np_b (nv_fld σ 4 1 a) (fun v => np_X 86 8 ls (v :: st) σ) := np_get k86 rfl
theorem e86_8 {ls : nv_Ls} {σ : nv_St} {x : Int32} : np_X 86 8 ls [.int x] σ = some (.inl (some (.int x)), σ) := np_reti k86 rfl rfl
-- 87 SpoonNavy.xOf
theorem k87 : np_P.1 87 = np_c87 := rfl
theorem e87_0 (x : Nat) {l1 : Option Value} {st : List Value} {σ : nv_St} : np_X 87 0 [some (.ref x), l1] st σ = np_X 87 1 [some (.ref x), l1] (.ref x :: st) σ := np_op k87 rfl rfl
theorem e87_0u  {l1 : Option Value} {st : List Value} {σ : nv_St} : np_X 87 0 [some .null, l1] st σ = np_X 87 1 [some .null, l1] (.null :: st) σ := np_op k87 rfl rfl
theorem e87_1 (x : Int32) {l0 : Option Value} {st : List Value} {σ : nv_St} : np_X 87 1 [l0, some (.int x)] st σ = np_X 87 2 [l0, some (.int x)] (.int x :: st) σ := np_op k87 rfl rfl
theorem e87_2 {ls : nv_Ls} {st : List Value} {σ : nv_St} {a : Nat} {x0 : Int32} (h : st.length ≤ 4) (h0 : nv_isO σ 5 a = true) : np_X 87 2 ls (.int x0 :: .ref a :: st) σ = np_aft 87 2 5 ls st (np_X 128 0 [some (.ref a), some (.int x0), none] [] σ) := np_call k87 rfl (Nat.le_add_left 2 _) rfl rfl h rfl h0 rfl
theorem e87_5 {ls : nv_Ls} {st : List Value} {σ : nv_St} {a : Nat} : np_X 87 5 ls (.ref a :: st) σ = np_b (nv_fld σ 4 2 a) (fun v => np_X 87 8 ls (v :: st) σ) := np_get k87 rfl
theorem e87_8 {ls : nv_Ls} {σ : nv_St} {x : Int32} : np_X 87 8 ls [.int x] σ = some (.inl (some (.int x)), σ) := np_reti k87 rfl rfl
-- 88 SpoonNavy.yOf
theorem k88 : np_P.1 88 = np_c88 := rfl
theorem e88_0 (x : Nat) {l1 : Option Value} {st : List Value} {σ : nv_St} : np_X 88 0 [some (.ref x), l1] st σ = np_X 88 1 [some (.ref x), l1] (.ref x :: st) σ := np_op k88 rfl rfl
theorem e88_0u  {l1 : Option Value} {st : List Value} {σ : nv_St} : np_X 88 0 [some .null, l1] st σ = np_X 88 1 [some .null, l1] (.null :: st) σ := np_op k88 rfl rfl
theorem e88_1 (x : Int32) {l0 : Option Value} {st : List Value} {σ : nv_St} : np_X 88 1 [l0, some (.int x)] st σ = np_X 88 2 [l0, some (.int x)] (.int x :: st) σ := np_op k88 rfl rfl
theorem e88_2 {ls : nv_Ls} {st : List Value} {σ : nv_St} {a : Nat} {x0 : Int32} (h : st.length ≤ 4) (h0 : nv_isO σ 5 a = true) : np_X 88 2 ls (.int x0 :: .ref a :: st) σ = np_aft 88 2 5 ls st (np_X 128 0 [some (.ref a), some (.int x0), none] [] σ) := np_call k88 rfl (Nat.le_add_left 2 _) rfl rfl h rfl h0 rfl
theorem e88_5 {ls : nv_Ls} {st : List Value} {σ : nv_St} {a : Nat} : np_X 88 5 ls (.ref a :: st) σ = np_b (nv_fld σ 4 3 a) (fun v => np_X 88 8 ls (v :: st) σ) := np_get k88 rfl
theorem e88_8 {ls : nv_Ls} {σ : nv_St} {x : Int32} : np_X 88 8 ls [.int x] σ = some (.inl (some (.int x)), σ) := np_reti k88 rfl rfl
-- 89 SpoonNavy.bearingOf
theorem k89 : np_P.1 89 = np_c89 := rfl
theorem e89_0 (x : Nat) {l1 : Option Value} {st : List Value} {σ : nv_St} : np_X 89 0 [some (.ref x), l1] st σ = np_X 89 1 [some (.ref x), l1] (.ref x :: st) σ := np_op k89 rfl rfl
theorem e89_0u  {l1 : Option Value} {st : List Value} {σ : nv_St} : np_X 89 0 [some .null, l1] st σ = np_X 89 1 [some .null, l1] (.null :: st) σ := np_op k89 rfl rfl
theorem e89_1 (x : Int32) {l0 : Option Value} {st : List Value} {σ : nv_St} : np_X 89 1 [l0, some (.int x)] st σ = np_X 89 2 [l0, some (.int x)] (.int x :: st) σ := np_op k89 rfl rfl
theorem e89_2 {ls : nv_Ls} {st : List Value} {σ : nv_St} {a : Nat} {x0 : Int32} (h : st.length ≤ 4) (h0 : nv_isO σ 5 a = true) : np_X 89 2 ls (.int x0 :: .ref a :: st) σ = np_aft 89 2 5 ls st (np_X 127 0 [some (.ref a), some (.int x0), none] [] σ) := np_call k89 rfl (Nat.le_add_left 2 _) rfl rfl h rfl h0 rfl
theorem e89_5 {ls : nv_Ls} {st : List Value} {σ : nv_St} {a : Nat} : np_X 89 5 ls (.ref a :: st) σ = np_b (nv_fld σ 4 4 a) (fun v => np_X 89 8 ls (v :: st) σ) := np_get k89 rfl
theorem e89_8 {ls : nv_Ls} {σ : nv_St} {x : Int32} : np_X 89 8 ls [.int x] σ = some (.inl (some (.int x)), σ) := np_reti k89 rfl rfl
-- 90 SpoonNavy.cubesOf
theorem k90 : np_P.1 90 = np_c90 := rfl
theorem e90_0 (x : Nat) {l1 : Option Value} {st : List Value} {σ : nv_St} : np_X 90 0 [some (.ref x), l1] st σ = np_X 90 1 [some (.ref x), l1] (.ref x :: st) σ := np_op k90 rfl rfl
theorem e90_0u  {l1 : Option Value} {st : List Value} {σ : nv_St} : np_X 90 0 [some .null, l1] st σ = np_X 90 1 [some .null, l1] (.null :: st) σ := np_op k90 rfl rfl
theorem e90_1 (x : Int32) {l0 : Option Value} {st : List Value} {σ : nv_St} : np_X 90 1 [l0, some (.int x)] st σ = np_X 90 2 [l0, some (.int x)] (.int x :: st) σ := np_op k90 rfl rfl
theorem e90_2 {ls : nv_Ls} {st : List Value} {σ : nv_St} {a : Nat} {x0 : Int32} (h : st.length ≤ 4) (h0 : nv_isO σ 5 a = true) : np_X 90 2 ls (.int x0 :: .ref a :: st) σ = np_aft 90 2 5 ls st (np_X 127 0 [some (.ref a), some (.int x0), none] [] σ) := np_call k90 rfl (Nat.le_add_left 2 _) rfl rfl h rfl h0 rfl
theorem e90_5 {ls : nv_Ls} {st : List Value} {σ : nv_St} {a : Nat} : np_X 90 5 ls (.ref a :: st) σ = np_b (nv_fld σ 4 6 a) (fun v => np_X 90 8 ls (v :: st) σ) := np_get k90 rfl
theorem e90_8 {ls : nv_Ls} {σ : nv_St} {x : Int32} : np_X 90 8 ls [.int x] σ = some (.inl (some (.int x)), σ) := np_reti k90 rfl rfl
-- 91 SpoonNavy.hullOf
theorem k91 : np_P.1 91 = np_c91 := rfl
theorem e91_0 (x : Nat) {l1 : Option Value} {st : List Value} {σ : nv_St} : np_X 91 0 [some (.ref x), l1] st σ = np_X 91 1 [some (.ref x), l1] (.ref x :: st) σ := np_op k91 rfl rfl
theorem e91_0u  {l1 : Option Value} {st : List Value} {σ : nv_St} : np_X 91 0 [some .null, l1] st σ = np_X 91 1 [some .null, l1] (.null :: st) σ := np_op k91 rfl rfl
theorem e91_1 (x : Int32) {l0 : Option Value} {st : List Value} {σ : nv_St} : np_X 91 1 [l0, some (.int x)] st σ = np_X 91 2 [l0, some (.int x)] (.int x :: st) σ := np_op k91 rfl rfl
theorem e91_2 {ls : nv_Ls} {st : List Value} {σ : nv_St} {a : Nat} {x0 : Int32} (h : st.length ≤ 4) (h0 : nv_isO σ 5 a = true) : np_X 91 2 ls (.int x0 :: .ref a :: st) σ = np_aft 91 2 5 ls st (np_X 127 0 [some (.ref a), some (.int x0), none] [] σ) := np_call k91 rfl (Nat.le_add_left 2 _) rfl rfl h rfl h0 rfl
theorem e91_5 {ls : nv_Ls} {st : List Value} {σ : nv_St} {a : Nat} : np_X 91 5 ls (.ref a :: st) σ = np_b (nv_fld σ 4 5 a) (fun v => np_X 91 8 ls (v :: st) σ) := np_get k91 rfl
theorem e91_8 {ls : nv_Ls} {σ : nv_St} {x : Int32} : np_X 91 8 ls [.int x] σ = some (.inl (some (.int x)), σ) := np_reti k91 rfl rfl
-- 92 SpoonNavy.isSunk
theorem k92 : np_P.1 92 = np_c92 := rfl
theorem e92_0 (x : Nat) {l1 : Option Value} {st : List Value} {σ : nv_St} : np_X 92 0 [some (.ref x), l1] st σ = np_X 92 1 [some (.ref x), l1] (.ref x :: st) σ := np_op k92 rfl rfl
theorem e92_0u  {l1 : Option Value} {st : List Value} {σ : nv_St} : np_X 92 0 [some .null, l1] st σ = np_X 92 1 [some .null, l1] (.null :: st) σ := np_op k92 rfl rfl
theorem e92_1 (x : Int32) {l0 : Option Value} {st : List Value} {σ : nv_St} : np_X 92 1 [l0, some (.int x)] st σ = np_X 92 2 [l0, some (.int x)] (.int x :: st) σ := np_op k92 rfl rfl
theorem e92_2 {ls : nv_Ls} {st : List Value} {σ : nv_St} {a : Nat} {x0 : Int32} (h : st.length ≤ 4) (h0 : nv_isO σ 5 a = true) : np_X 92 2 ls (.int x0 :: .ref a :: st) σ = np_aft 92 2 5 ls st (np_X 127 0 [some (.ref a), some (.int x0), none] [] σ) := np_call k92 rfl (Nat.le_add_left 2 _) rfl rfl h rfl h0 rfl
theorem e92_5 {ls : nv_Ls} {st : List Value} {σ : nv_St} {a : Nat}  (h : st.length ≤ 4) (h0 : nv_isO σ 4 a = true) : np_X 92 5 ls (.ref a :: st) σ = np_aft 92 5 8 ls st (np_X 62 0 [some (.ref a)] [] σ) := np_call k92 rfl (Nat.le_add_left 1 _) rfl rfl h rfl h0 rfl
theorem e92_8 {ls : nv_Ls} {st : List Value} {σ : nv_St} {x : Int32} : np_X 92 8 ls (.int x :: st) σ = if x = 0 then np_X 92 11 ls st σ else np_X 92 15 ls st σ := np_br inferInstance k92 rfl rfl
theorem e92_11 {ls : nv_Ls} {st : List Value} {σ : nv_St} : np_X 92 11 ls st σ = np_X 92 12 ls (.int (1) :: st) σ := np_op k92 rfl rfl
theorem e92_12 {ls : nv_Ls} {st : List Value} {σ : nv_St} : np_X 92 12 ls st σ = np_X 92 16 ls st σ := np_op k92 rfl rfl
theorem e92_15 {ls : nv_Ls} {st : List Value} {σ : nv_St} : np_X 92 15 ls st σ = np_X 92 16 ls (.int (0) :: st) σ := np_op k92 rfl rfl
theorem e92_16 {ls : nv_Ls} {σ : nv_St} {x : Int32} (h : narrow .boolean (.int x) = .int x) : np_X 92 16 ls [.int x] σ = some (.inl (some (.int x)), σ) := np_reti k92 rfl h
-- 93 SpoonNavy.spoonAt
theorem k93 : np_P.1 93 = np_c93 := rfl
theorem e93_0 (x : Int32) {l0 l2 l3 : Option Value} {st : List Value} {σ : nv_St} : np_X 93 0 [l0, some (.int x), l2, l3] st σ = np_X 93 1 [l0, some (.int x), l2, l3] (.int x :: st) σ := np_op k93 rfl rfl
theorem e93_1 (x : Int32) {l0 l1 l3 : Option Value} {st : List Value} {σ : nv_St} : np_X 93 1 [l0, l1, some (.int x), l3] st σ = np_X 93 2 [l0, l1, some (.int x), l3] (.int x :: st) σ := np_op k93 rfl rfl
theorem e93_2 {ls : nv_Ls} {st : List Value} {σ : nv_St}  {x0 : Int32} {x1 : Int32} (h : st.length ≤ 4) : np_X 93 2 ls (.int x1 :: .int x0 :: st) σ = np_aft 93 2 5 ls st (np_X 131 0 [some (.int x0), some (.int x1)] [] σ) := np_call k93 rfl (Nat.le_add_left 2 _) rfl rfl h rfl rfl rfl
theorem e93_5 (x : Nat) {l1 l2 l3 : Option Value} {st : List Value} {σ : nv_St} : np_X 93 5 [some (.ref x), l1, l2, l3] st σ = np_X 93 6 [some (.ref x), l1, l2, l3] (.ref x :: st) σ := np_op k93 rfl rfl
theorem e93_5u  {l1 l2 l3 : Option Value} {st : List Value} {σ : nv_St} : np_X 93 5 [some .null, l1, l2, l3] st σ = np_X 93 6 [some .null, l1, l2, l3] (.null :: st) σ := np_op k93 rfl rfl
theorem e93_6 {ls : nv_Ls} {st : List Value} {σ : nv_St} {a : Nat} : np_X 93 6 ls (.ref a :: st) σ = np_b (nv_fld σ 5 0 a) (fun v => np_X 93 9 ls (v :: st) σ) := np_get k93 rfl
theorem e93_9 (x : Int32) {l0 l2 l3 : Option Value} {st : List Value} {σ : nv_St} : np_X 93 9 [l0, some (.int x), l2, l3] st σ = np_X 93 10 [l0, some (.int x), l2, l3] (.int x :: st) σ := np_op k93 rfl rfl
theorem e93_10 (x : Int32) {l0 l1 l3 : Option Value} {st : List Value} {σ : nv_St} : np_X 93 10 [l0, l1, some (.int x), l3] st σ = np_X 93 11 [l0, l1, some (.int x), l3] (.int x :: st) σ := np_op k93 rfl rfl
theorem e93_11 {ls : nv_Ls} {st : List Value} {σ : nv_St} {a : Nat} {x0 : Int32} {x1 : Int32} (h : st.length ≤ 4) (h0 : nv_isO σ 2 a = true) : np_X 93 11 ls (.int x1 :: .int x0 :: .ref a :: st) σ = np_aft 93 11 14 ls st (np_X 32 0 [some (.ref a), some (.int x0), some (.int x1), none, none, none, none] [] σ) := np_call k93 rfl (Nat.le_add_left 3 _) rfl rfl h rfl h0 rfl
theorem e93_14n (x : Nat) {l0 l1 l3 : Option Value} {st : List Value} {σ : nv_St} : np_X 93 14 [l0, l1, none, l3] (.ref x :: st) σ = np_X 93 15 [l0, l1, none, some (.ref x)] st σ := np_op k93 rfl rfl
theorem e93_14i (x : Nat) {z : Int32} {l0 l1 l3 : Option Value} {st : List Value} {σ : nv_St} : np_X 93 14 [l0, l1, some (.int z), l3] (.ref x :: st) σ = np_X 93 15 [l0, l1, some (.int z), some (.ref x)] st σ := np_op k93 rfl rfl
theorem e93_14r (x : Nat) {z : Nat} {l0 l1 l3 : Option Value} {st : List Value} {σ : nv_St} : np_X 93 14 [l0, l1, some (.ref z), l3] (.ref x :: st) σ = np_X 93 15 [l0, l1, some (.ref z), some (.ref x)] st σ := np_op k93 rfl rfl
theorem e93_14v (x : Nat) {l0 l1 l3 : Option Value} {st : List Value} {σ : nv_St} : np_X 93 14 [l0, l1, some .null, l3] (.ref x :: st) σ = np_X 93 15 [l0, l1, some .null, some (.ref x)] st σ := np_op k93 rfl rfl
theorem e93_14un  {l0 l1 l3 : Option Value} {st : List Value} {σ : nv_St} : np_X 93 14 [l0, l1, none, l3] (.null :: st) σ = np_X 93 15 [l0, l1, none, some .null] st σ := np_op k93 rfl rfl
theorem e93_14ui  {z : Int32} {l0 l1 l3 : Option Value} {st : List Value} {σ : nv_St} : np_X 93 14 [l0, l1, some (.int z), l3] (.null :: st) σ = np_X 93 15 [l0, l1, some (.int z), some .null] st σ := np_op k93 rfl rfl
theorem e93_14ur  {z : Nat} {l0 l1 l3 : Option Value} {st : List Value} {σ : nv_St} : np_X 93 14 [l0, l1, some (.ref z), l3] (.null :: st) σ = np_X 93 15 [l0, l1, some (.ref z), some .null] st σ := np_op k93 rfl rfl
theorem e93_14uv  {l0 l1 l3 : Option Value} {st : List Value} {σ : nv_St} : np_X 93 14 [l0, l1, some .null, l3] (.null :: st) σ = np_X 93 15 [l0, l1, some .null, some .null] st σ := np_op k93 rfl rfl
theorem e93_15 (x : Nat) {l0 l1 l2 : Option Value} {st : List Value} {σ : nv_St} : np_X 93 15 [l0, l1, l2, some (.ref x)] st σ = np_X 93 16 [l0, l1, l2, some (.ref x)] (.ref x :: st) σ := np_op k93 rfl rfl
theorem e93_15u  {l0 l1 l2 : Option Value} {st : List Value} {σ : nv_St} : np_X 93 15 [l0, l1, l2, some .null] st σ = np_X 93 16 [l0, l1, l2, some .null] (.null :: st) σ := np_op k93 rfl rfl
theorem e93_16 {ls : nv_Ls} {st : List Value} {σ : nv_St} {a : Nat} (h : a < 1000000) : np_X 93 16 ls (.ref a :: st) σ = np_X 93 29 ls st σ := np_ifnonnull k93 rfl h
theorem e93_16u {ls : nv_Ls} {st : List Value} {σ : nv_St} : np_X 93 16 ls (.null :: st) σ = np_X 93 19 ls st σ := np_op k93 rfl rfl
theorem e93_19 {ls : nv_Ls} {σ : nv_St} : np_X 93 19 ls [] σ = some (.inr "java/util/NoSuchElementException", nv_bump σ) := np_thr k93 rfl
theorem e93_29 (x : Nat) {l0 l1 l2 : Option Value} {st : List Value} {σ : nv_St} : np_X 93 29 [l0, l1, l2, some (.ref x)] st σ = np_X 93 30 [l0, l1, l2, some (.ref x)] (.ref x :: st) σ := np_op k93 rfl rfl
theorem e93_29u  {l0 l1 l2 : Option Value} {st : List Value} {σ : nv_St} : np_X 93 29 [l0, l1, l2, some .null] st σ = np_X 93 30 [l0, l1, l2, some .null] (.null :: st) σ := np_op k93 rfl rfl
theorem e93_30 {ls : nv_Ls} {st : List Value} {σ : nv_St} {a : Nat} : np_X 93 30 ls (.ref a :: st) σ = np_b (nv_fld σ 4 0 a) (fun v => np_X 93 33 ls (v :: st) σ) := np_get k93 rfl
theorem e93_33 {ls : nv_Ls} {σ : nv_St} {x : Int32} : np_X 93 33 ls [.int x] σ = some (.inl (some (.int x)), σ) := np_reti k93 rfl rfl
-- 94 SpoonNavy.knownX
theorem k94 : np_P.1 94 = np_c94 := rfl
theorem e94_0 (x : Nat) {l1 : Option Value} {st : List Value} {σ : nv_St} : np_X 94 0 [some (.ref x), l1] st σ = np_X 94 1 [some (.ref x), l1] (.ref x :: st) σ := np_op k94 rfl rfl
theorem e94_0u  {l1 : Option Value} {st : List Value} {σ : nv_St} : np_X 94 0 [some .null, l1] st σ = np_X 94 1 [some .null, l1] (.null :: st) σ := np_op k94 rfl rfl
theorem e94_1 (x : Int32) {l0 : Option Value} {st : List Value} {σ : nv_St} : np_X 94 1 [l0, some (.int x)] st σ = np_X 94 2 [l0, some (.int x)] (.int x :: st) σ := np_op k94 rfl rfl
theorem e94_2 {ls : nv_Ls} {st : List Value} {σ : nv_St} {a : Nat} {x0 : Int32} (h : st.length ≤ 4) (h0 : nv_isO σ 5 a = true) : np_X 94 2 ls (.int x0 :: .ref a :: st) σ = np_aft 94 2 5 ls st (np_X 128 0 [some (.ref a), some (.int x0), none] [] σ) := np_call k94 rfl (Nat.le_add_left 2 _) rfl rfl h rfl h0 rfl
theorem e94_5 {ls : nv_Ls} {st : List Value} {σ : nv_St} {a : Nat} : np_X 94 5 ls (.ref a :: st) σ = np_b (nv_fld σ 4 7 a) (fun v => np_X 94 8 ls (v :: st) σ) := np_get k94 rfl
theorem e94_8 {ls : nv_Ls} {σ : nv_St} {x : Int32} : np_X 94 8 ls [.int x] σ = some (.inl (some (.int x)), σ) := np_reti k94 rfl rfl
-- 95 SpoonNavy.knownY
theorem k95 : np_P.1 95 = np_c95 := rfl
theorem e95_0 (x : Nat) {l1 : Option Value} {st : List Value} {σ : nv_St} : np_X 95 0 [some (.ref x), l1] st σ = np_X 95 1 [some (.ref x), l1] (.ref x :: st) σ := np_op k95 rfl rfl
theorem e95_0u  {l1 : Option Value} {st : List Value} {σ : nv_St} : np_X 95 0 [some .null, l1] st σ = np_X 95 1 [some .null, l1] (.null :: st) σ := np_op k95 rfl rfl
theorem e95_1 (x : Int32) {l0 : Option Value} {st : List Value} {σ : nv_St} : np_X 95 1 [l0, some (.int x)] st σ = np_X 95 2 [l0, some (.int x)] (.int x :: st) σ := np_op k95 rfl rfl
theorem e95_2 {ls : nv_Ls} {st : List Value} {σ : nv_St} {a : Nat} {x0 : Int32} (h : st.length ≤ 4) (h0 : nv_isO σ 5 a = true) : np_X 95 2 ls (.int x0 :: .ref a :: st) σ = np_aft 95 2 5 ls st (np_X 128 0 [some (.ref a), some (.int x0), none] [] σ) := np_call k95 rfl (Nat.le_add_left 2 _) rfl rfl h rfl h0 rfl
theorem e95_5 {ls : nv_Ls} {st : List Value} {σ : nv_St} {a : Nat} : np_X 95 5 ls (.ref a :: st) σ = np_b (nv_fld σ 4 8 a) (fun v => np_X 95 8 ls (v :: st) σ) := np_get k95 rfl
theorem e95_8 {ls : nv_Ls} {σ : nv_St} {x : Int32} : np_X 95 8 ls [.int x] σ = some (.inl (some (.int x)), σ) := np_reti k95 rfl rfl
-- 96 SpoonNavy.isHidden
theorem k96 : np_P.1 96 = np_c96 := rfl
theorem e96_0 (x : Nat) {l1 l2 : Option Value} {st : List Value} {σ : nv_St} : np_X 96 0 [some (.ref x), l1, l2] st σ = np_X 96 1 [some (.ref x), l1, l2] (.ref x :: st) σ := np_op k96 rfl rfl
theorem e96_0u  {l1 l2 : Option Value} {st : List Value} {σ : nv_St} : np_X 96 0 [some .null, l1, l2] st σ = np_X 96 1 [some .null, l1, l2] (.null :: st) σ := np_op k96 rfl rfl
theorem e96_1 (x : Int32) {l0 l2 : Option Value} {st : List Value} {σ : nv_St} : np_X 96 1 [l0, some (.int x), l2] st σ = np_X 96 2 [l0, some (.int x), l2] (.int x :: st) σ := np_op k96 rfl rfl
theorem e96_2 {ls : nv_Ls} {st : List Value} {σ : nv_St} {a : Nat} {x0 : Int32} (h : st.length ≤ 4) (h0 : nv_isO σ 5 a = true) : np_X 96 2 ls (.int x0 :: .ref a :: st) σ = np_aft 96 2 5 ls st (np_X 127 0 [some (.ref a), some (.int x0), none] [] σ) := np_call k96 rfl (Nat.le_add_left 2 _) rfl rfl h rfl h0 rfl
theorem e96_5n (x : Nat) {l0 l2 : Option Value} {st : List Value} {σ : nv_St} : np_X 96 5 [l0, none, l2] (.ref x :: st) σ = np_X 96 6 [l0, none, some (.ref x)] st σ := np_op k96 rfl rfl
theorem e96_5i (x : Nat) {z : Int32} {l0 l2 : Option Value} {st : List Value} {σ : nv_St} : np_X 96 5 [l0, some (.int z), l2] (.ref x :: st) σ = np_X 96 6 [l0, some (.int z), some (.ref x)] st σ := np_op k96 rfl rfl
theorem e96_5r (x : Nat) {z : Nat} {l0 l2 : Option Value} {st : List Value} {σ : nv_St} : np_X 96 5 [l0, some (.ref z), l2] (.ref x :: st) σ = np_X 96 6 [l0, some (.ref z), some (.ref x)] st σ := np_op k96 rfl rfl
theorem e96_5v (x : Nat) {l0 l2 : Option Value} {st : List Value} {σ : nv_St} : np_X 96 5 [l0, some .null, l2] (.ref x :: st) σ = np_X 96 6 [l0, some .null, some (.ref x)] st σ := np_op k96 rfl rfl
theorem e96_5un  {l0 l2 : Option Value} {st : List Value} {σ : nv_St} : np_X 96 5 [l0, none, l2] (.null :: st) σ = np_X 96 6 [l0, none, some .null] st σ := np_op k96 rfl rfl
theorem e96_5ui  {z : Int32} {l0 l2 : Option Value} {st : List Value} {σ : nv_St} : np_X 96 5 [l0, some (.int z), l2] (.null :: st) σ = np_X 96 6 [l0, some (.int z), some .null] st σ := np_op k96 rfl rfl
theorem e96_5ur  {z : Nat} {l0 l2 : Option Value} {st : List Value} {σ : nv_St} : np_X 96 5 [l0, some (.ref z), l2] (.null :: st) σ = np_X 96 6 [l0, some (.ref z), some .null] st σ := np_op k96 rfl rfl
theorem e96_5uv  {l0 l2 : Option Value} {st : List Value} {σ : nv_St} : np_X 96 5 [l0, some .null, l2] (.null :: st) σ = np_X 96 6 [l0, some .null, some .null] st σ := np_op k96 rfl rfl
theorem e96_6 (x : Nat) {l0 l1 : Option Value} {st : List Value} {σ : nv_St} : np_X 96 6 [l0, l1, some (.ref x)] st σ = np_X 96 7 [l0, l1, some (.ref x)] (.ref x :: st) σ := np_op k96 rfl rfl
theorem e96_6u  {l0 l1 : Option Value} {st : List Value} {σ : nv_St} : np_X 96 6 [l0, l1, some .null] st σ = np_X 96 7 [l0, l1, some .null] (.null :: st) σ := np_op k96 rfl rfl
theorem e96_7 {ls : nv_Ls} {st : List Value} {σ : nv_St} {a : Nat}  (h : st.length ≤ 4) (h0 : nv_isO σ 4 a = true) : np_X 96 7 ls (.ref a :: st) σ = np_aft 96 7 10 ls st (np_X 62 0 [some (.ref a)] [] σ) := np_call k96 rfl (Nat.le_add_left 1 _) rfl rfl h rfl h0 rfl
theorem e96_10 {ls : nv_Ls} {st : List Value} {σ : nv_St} {x : Int32} : np_X 96 10 ls (.int x :: st) σ = if x = 0 then np_X 96 39 ls st σ else np_X 96 13 ls st σ := np_br inferInstance k96 rfl rfl
theorem e96_13 (x : Nat) {l0 l1 : Option Value} {st : List Value} {σ : nv_St} : np_X 96 13 [l0, l1, some (.ref x)] st σ = np_X 96 14 [l0, l1, some (.ref x)] (.ref x :: st) σ := np_op k96 rfl rfl
theorem e96_13u  {l0 l1 : Option Value} {st : List Value} {σ : nv_St} : np_X 96 13 [l0, l1, some .null] st σ = np_X 96 14 [l0, l1, some .null] (.null :: st) σ := np_op k96 rfl rfl
theorem e96_14 {ls : nv_Ls} {st : List Value} {σ : nv_St} {a : Nat} : np_X 96 14 ls (.ref a :: st) σ = np_b (nv_fld σ 4 7 a) (fun v => np_X 96 17 ls (v :: st) σ) := np_get k96 rfl
theorem e96_17 (x : Nat) {l0 l1 : Option Value} {st : List Value} {σ : nv_St} : np_X 96 17 [l0, l1, some (.ref x)] st σ = np_X 96 18 [l0, l1, some (.ref x)] (.ref x :: st) σ := np_op k96 rfl rfl
theorem e96_17u  {l0 l1 : Option Value} {st : List Value} {σ : nv_St} : np_X 96 17 [l0, l1, some .null] st σ = np_X 96 18 [l0, l1, some .null] (.null :: st) σ := np_op k96 rfl rfl
theorem e96_18 {ls : nv_Ls} {st : List Value} {σ : nv_St} {a : Nat} : np_X 96 18 ls (.ref a :: st) σ = np_b (nv_fld σ 4 2 a) (fun v => np_X 96 21 ls (v :: st) σ) := np_get k96 rfl
theorem e96_21 {ls : nv_Ls} {st : List Value} {σ : nv_St} {x y : Int32} : np_X 96 21 ls (.int y :: .int x :: st) σ = if x = y then np_X 96 24 ls st σ else np_X 96 35 ls st σ := np_br inferInstance k96 rfl rfl
theorem e96_24 (x : Nat) {l0 l1 : Option Value} {st : List Value} {σ : nv_St} : np_X 96 24 [l0, l1, some (.ref x)] st σ = np_X 96 25 [l0, l1, some (.ref x)] (.ref x :: st) σ := np_op k96 rfl rfl
theorem e96_24u  {l0 l1 : Option Value} {st : List Value} {σ : nv_St} : np_X 96 24 [l0, l1, some .null] st σ = np_X 96 25 [l0, l1, some .null] (.null :: st) σ := np_op k96 rfl rfl
theorem e96_25 {ls : nv_Ls} {st : List Value} {σ : nv_St} {a : Nat} : np_X 96 25 ls (.ref a :: st) σ = np_b (nv_fld σ 4 8 a) (fun v => np_X 96 28 ls (v :: st) σ) := np_get k96 rfl
theorem e96_28 (x : Nat) {l0 l1 : Option Value} {st : List Value} {σ : nv_St} : np_X 96 28 [l0, l1, some (.ref x)] st σ = np_X 96 29 [l0, l1, some (.ref x)] (.ref x :: st) σ := np_op k96 rfl rfl
theorem e96_28u  {l0 l1 : Option Value} {st : List Value} {σ : nv_St} : np_X 96 28 [l0, l1, some .null] st σ = np_X 96 29 [l0, l1, some .null] (.null :: st) σ := np_op k96 rfl rfl
theorem e96_29 {ls : nv_Ls} {st : List Value} {σ : nv_St} {a : Nat} : np_X 96 29 ls (.ref a :: st) σ = np_b (nv_fld σ 4 3 a) (fun v => np_X 96 32 ls (v :: st) σ) := np_get k96 rfl
theorem e96_32 {ls : nv_Ls} {st : List Value} {σ : nv_St} {x y : Int32} : np_X 96 32 ls (.int y :: .int x :: st) σ = if x = y then np_X 96 39 ls st σ else np_X 96 35 ls st σ := np_br inferInstance k96 rfl rfl
theorem e96_35 {ls : nv_Ls} {st : List Value} {σ : nv_St} : np_X 96 35 ls st σ = np_X 96 36 ls (.int (1) :: st) σ := np_op k96 rfl rfl
theorem e96_36 {ls : nv_Ls} {st : List Value} {σ : nv_St} : np_X 96 36 ls st σ = np_X 96 40 ls st σ := np_op k96 rfl rfl
theorem e96_39 {ls : nv_Ls} {st : List Value} {σ : nv_St} : np_X 96 39 ls st σ = np_X 96 40 ls (.int (0) :: st) σ := np_op k96 rfl rfl
theorem e96_40 {ls : nv_Ls} {σ : nv_St} {x : Int32} (h : narrow .boolean (.int x) = .int x) : np_X 96 40 ls [.int x] σ = some (.inl (some (.int x)), σ) := np_reti k96 rfl h
-- 97 SpoonNavy.floating
theorem k97 : np_P.1 97 = np_c97 := rfl
theorem e97_0 (x : Int32) {l0 : Option Value} {st : List Value} {σ : nv_St} : np_X 97 0 [l0, some (.int x)] st σ = np_X 97 1 [l0, some (.int x)] (.int x :: st) σ := np_op k97 rfl rfl
theorem e97_1 {ls : nv_Ls} {st : List Value} {σ : nv_St}  {x0 : Int32} (h : st.length ≤ 4) : np_X 97 1 ls (.int x0 :: st) σ = np_aft 97 1 4 ls st (np_X 130 0 [some (.int x0)] [] σ) := np_call k97 rfl (Nat.le_add_left 1 _) rfl rfl h rfl rfl rfl
theorem e97_4 (x : Nat) {l1 : Option Value} {st : List Value} {σ : nv_St} : np_X 97 4 [some (.ref x), l1] st σ = np_X 97 5 [some (.ref x), l1] (.ref x :: st) σ := np_op k97 rfl rfl
theorem e97_4u  {l1 : Option Value} {st : List Value} {σ : nv_St} : np_X 97 4 [some .null, l1] st σ = np_X 97 5 [some .null, l1] (.null :: st) σ := np_op k97 rfl rfl
theorem e97_5 {ls : nv_Ls} {st : List Value} {σ : nv_St} {a : Nat} : np_X 97 5 ls (.ref a :: st) σ = np_b (nv_fld σ 5 0 a) (fun v => np_X 97 8 ls (v :: st) σ) := np_get k97 rfl
theorem e97_8 (x : Int32) {l0 : Option Value} {st : List Value} {σ : nv_St} : np_X 97 8 [l0, some (.int x)] st σ = np_X 97 9 [l0, some (.int x)] (.int x :: st) σ := np_op k97 rfl rfl
theorem e97_9 {ls : nv_Ls} {st : List Value} {σ : nv_St} {a : Nat} {x0 : Int32} (h : st.length ≤ 4) (h0 : nv_isO σ 2 a = true) : np_X 97 9 ls (.int x0 :: .ref a :: st) σ = np_aft 97 9 12 ls st (np_X 29 0 [some (.ref a), some (.int x0)] [] σ) := np_call k97 rfl (Nat.le_add_left 2 _) rfl rfl h rfl h0 rfl
theorem e97_12 {ls : nv_Ls} {st : List Value} {σ : nv_St} {a : Nat} : np_X 97 12 ls (.ref a :: st) σ = np_b (nv_fld σ 0 1 a) (fun v => np_X 97 15 ls (v :: st) σ) := np_get k97 rfl
theorem e97_15 {ls : nv_Ls} {σ : nv_St} {x : Int32} : np_X 97 15 ls [.int x] σ = some (.inl (some (.int x)), σ) := np_reti k97 rfl rfl
-- 98 SpoonNavy.spoonAtRank
theorem k98 : np_P.1 98 = np_c98 := rfl
theorem e98_0 (x : Nat) {l1 l2 : Option Value} {st : List Value} {σ : nv_St} : np_X 98 0 [some (.ref x), l1, l2] st σ = np_X 98 1 [some (.ref x), l1, l2] (.ref x :: st) σ := np_op k98 rfl rfl
theorem e98_0u  {l1 l2 : Option Value} {st : List Value} {σ : nv_St} : np_X 98 0 [some .null, l1, l2] st σ = np_X 98 1 [some .null, l1, l2] (.null :: st) σ := np_op k98 rfl rfl
theorem e98_1 {ls : nv_Ls} {st : List Value} {σ : nv_St} {a : Nat} : np_X 98 1 ls (.ref a :: st) σ = np_b (nv_fld σ 5 0 a) (fun v => np_X 98 4 ls (v :: st) σ) := np_get k98 rfl
theorem e98_4 (x : Int32) {l0 l2 : Option Value} {st : List Value} {σ : nv_St} : np_X 98 4 [l0, some (.int x), l2] st σ = np_X 98 5 [l0, some (.int x), l2] (.int x :: st) σ := np_op k98 rfl rfl
theorem e98_5 {ls : nv_Ls} {st : List Value} {σ : nv_St} {a : Nat} {x0 : Int32} (h : st.length ≤ 4) (h0 : nv_isO σ 2 a = true) : np_X 98 5 ls (.int x0 :: .ref a :: st) σ = np_aft 98 5 8 ls st (np_X 33 0 [some (.ref a), some (.int x0), none, none, none, none] [] σ) := np_call k98 rfl (Nat.le_add_left 2 _) rfl rfl h rfl h0 rfl
theorem e98_8n (x : Nat) {l0 l2 : Option Value} {st : List Value} {σ : nv_St} : np_X 98 8 [l0, none, l2] (.ref x :: st) σ = np_X 98 9 [l0, none, some (.ref x)] st σ := np_op k98 rfl rfl
theorem e98_8i (x : Nat) {z : Int32} {l0 l2 : Option Value} {st : List Value} {σ : nv_St} : np_X 98 8 [l0, some (.int z), l2] (.ref x :: st) σ = np_X 98 9 [l0, some (.int z), some (.ref x)] st σ := np_op k98 rfl rfl
theorem e98_8r (x : Nat) {z : Nat} {l0 l2 : Option Value} {st : List Value} {σ : nv_St} : np_X 98 8 [l0, some (.ref z), l2] (.ref x :: st) σ = np_X 98 9 [l0, some (.ref z), some (.ref x)] st σ := np_op k98 rfl rfl
theorem e98_8v (x : Nat) {l0 l2 : Option Value} {st : List Value} {σ : nv_St} : np_X 98 8 [l0, some .null, l2] (.ref x :: st) σ = np_X 98 9 [l0, some .null, some (.ref x)] st σ := np_op k98 rfl rfl
theorem e98_8un  {l0 l2 : Option Value} {st : List Value} {σ : nv_St} : np_X 98 8 [l0, none, l2] (.null :: st) σ = np_X 98 9 [l0, none, some .null] st σ := np_op k98 rfl rfl
theorem e98_8ui  {z : Int32} {l0 l2 : Option Value} {st : List Value} {σ : nv_St} : np_X 98 8 [l0, some (.int z), l2] (.null :: st) σ = np_X 98 9 [l0, some (.int z), some .null] st σ := np_op k98 rfl rfl
theorem e98_8ur  {z : Nat} {l0 l2 : Option Value} {st : List Value} {σ : nv_St} : np_X 98 8 [l0, some (.ref z), l2] (.null :: st) σ = np_X 98 9 [l0, some (.ref z), some .null] st σ := np_op k98 rfl rfl
theorem e98_8uv  {l0 l2 : Option Value} {st : List Value} {σ : nv_St} : np_X 98 8 [l0, some .null, l2] (.null :: st) σ = np_X 98 9 [l0, some .null, some .null] st σ := np_op k98 rfl rfl
theorem e98_9 (x : Nat) {l0 l1 : Option Value} {st : List Value} {σ : nv_St} : np_X 98 9 [l0, l1, some (.ref x)] st σ = np_X 98 10 [l0, l1, some (.ref x)] (.ref x :: st) σ := np_op k98 rfl rfl
theorem e98_9u  {l0 l1 : Option Value} {st : List Value} {σ : nv_St} : np_X 98 9 [l0, l1, some .null] st σ = np_X 98 10 [l0, l1, some .null] (.null :: st) σ := np_op k98 rfl rfl
theorem e98_10 {ls : nv_Ls} {st : List Value} {σ : nv_St} {a : Nat} (h : a < 1000000) : np_X 98 10 ls (.ref a :: st) σ = np_X 98 23 ls st σ := np_ifnonnull k98 rfl h
theorem e98_10u {ls : nv_Ls} {st : List Value} {σ : nv_St} : np_X 98 10 ls (.null :: st) σ = np_X 98 13 ls st σ := np_op k98 rfl rfl
theorem e98_13 {ls : nv_Ls} {σ : nv_St} : np_X 98 13 ls [] σ = some (.inr "java/util/NoSuchElementException", nv_bump σ) := np_thr k98 rfl
theorem e98_23 (x : Nat) {l0 l1 : Option Value} {st : List Value} {σ : nv_St} : np_X 98 23 [l0, l1, some (.ref x)] st σ = np_X 98 24 [l0, l1, some (.ref x)] (.ref x :: st) σ := np_op k98 rfl rfl
theorem e98_23u  {l0 l1 : Option Value} {st : List Value} {σ : nv_St} : np_X 98 23 [l0, l1, some .null] st σ = np_X 98 24 [l0, l1, some .null] (.null :: st) σ := np_op k98 rfl rfl
theorem e98_24 {ls : nv_Ls} {st : List Value} {σ : nv_St} {a : Nat} : np_X 98 24 ls (.ref a :: st) σ = np_b (nv_fld σ 4 0 a) (fun v => np_X 98 27 ls (v :: st) σ) := np_get k98 rfl
theorem e98_27 {ls : nv_Ls} {σ : nv_St} {x : Int32} : np_X 98 27 ls [.int x] σ = some (.inl (some (.int x)), σ) := np_reti k98 rfl rfl
-- 99 SpoonNavy.distance
theorem k99 : np_P.1 99 = np_c99 := rfl
theorem e99_0 (x : Nat) {l1 l2 l3 l4 : Option Value} {st : List Value} {σ : nv_St} : np_X 99 0 [some (.ref x), l1, l2, l3, l4] st σ = np_X 99 1 [some (.ref x), l1, l2, l3, l4] (.ref x :: st) σ := np_op k99 rfl rfl
theorem e99_0u  {l1 l2 l3 l4 : Option Value} {st : List Value} {σ : nv_St} : np_X 99 0 [some .null, l1, l2, l3, l4] st σ = np_X 99 1 [some .null, l1, l2, l3, l4] (.null :: st) σ := np_op k99 rfl rfl
theorem e99_1 (x : Int32) {l0 l2 l3 l4 : Option Value} {st : List Value} {σ : nv_St} : np_X 99 1 [l0, some (.int x), l2, l3, l4] st σ = np_X 99 2 [l0, some (.int x), l2, l3, l4] (.int x :: st) σ := np_op k99 rfl rfl
theorem e99_2 {ls : nv_Ls} {st : List Value} {σ : nv_St} {a : Nat} {x0 : Int32} (h : st.length ≤ 4) (h0 : nv_isO σ 5 a = true) : np_X 99 2 ls (.int x0 :: .ref a :: st) σ = np_aft 99 2 5 ls st (np_X 127 0 [some (.ref a), some (.int x0), none] [] σ) := np_call k99 rfl (Nat.le_add_left 2 _) rfl rfl h rfl h0 rfl
theorem e99_5n (x : Nat) {l0 l1 l3 l4 : Option Value} {st : List Value} {σ : nv_St} : np_X 99 5 [l0, l1, none, l3, l4] (.ref x :: st) σ = np_X 99 6 [l0, l1, none, some (.ref x), l4] st σ := np_op k99 rfl rfl
theorem e99_5i (x : Nat) {z : Int32} {l0 l1 l3 l4 : Option Value} {st : List Value} {σ : nv_St} : np_X 99 5 [l0, l1, some (.int z), l3, l4] (.ref x :: st) σ = np_X 99 6 [l0, l1, some (.int z), some (.ref x), l4] st σ := np_op k99 rfl rfl
theorem e99_5r (x : Nat) {z : Nat} {l0 l1 l3 l4 : Option Value} {st : List Value} {σ : nv_St} : np_X 99 5 [l0, l1, some (.ref z), l3, l4] (.ref x :: st) σ = np_X 99 6 [l0, l1, some (.ref z), some (.ref x), l4] st σ := np_op k99 rfl rfl
theorem e99_5v (x : Nat) {l0 l1 l3 l4 : Option Value} {st : List Value} {σ : nv_St} : np_X 99 5 [l0, l1, some .null, l3, l4] (.ref x :: st) σ = np_X 99 6 [l0, l1, some .null, some (.ref x), l4] st σ := np_op k99 rfl rfl
theorem e99_5un  {l0 l1 l3 l4 : Option Value} {st : List Value} {σ : nv_St} : np_X 99 5 [l0, l1, none, l3, l4] (.null :: st) σ = np_X 99 6 [l0, l1, none, some .null, l4] st σ := np_op k99 rfl rfl
theorem e99_5ui  {z : Int32} {l0 l1 l3 l4 : Option Value} {st : List Value} {σ : nv_St} : np_X 99 5 [l0, l1, some (.int z), l3, l4] (.null :: st) σ = np_X 99 6 [l0, l1, some (.int z), some .null, l4] st σ := np_op k99 rfl rfl
theorem e99_5ur  {z : Nat} {l0 l1 l3 l4 : Option Value} {st : List Value} {σ : nv_St} : np_X 99 5 [l0, l1, some (.ref z), l3, l4] (.null :: st) σ = np_X 99 6 [l0, l1, some (.ref z), some .null, l4] st σ := np_op k99 rfl rfl
theorem e99_5uv  {l0 l1 l3 l4 : Option Value} {st : List Value} {σ : nv_St} : np_X 99 5 [l0, l1, some .null, l3, l4] (.null :: st) σ = np_X 99 6 [l0, l1, some .null, some .null, l4] st σ := np_op k99 rfl rfl
theorem e99_6 (x : Nat) {l1 l2 l3 l4 : Option Value} {st : List Value} {σ : nv_St} : np_X 99 6 [some (.ref x), l1, l2, l3, l4] st σ = np_X 99 7 [some (.ref x), l1, l2, l3, l4] (.ref x :: st) σ := np_op k99 rfl rfl
theorem e99_6u  {l1 l2 l3 l4 : Option Value} {st : List Value} {σ : nv_St} : np_X 99 6 [some .null, l1, l2, l3, l4] st σ = np_X 99 7 [some .null, l1, l2, l3, l4] (.null :: st) σ := np_op k99 rfl rfl
theorem e99_7 (x : Int32) {l0 l1 l3 l4 : Option Value} {st : List Value} {σ : nv_St} : np_X 99 7 [l0, l1, some (.int x), l3, l4] st σ = np_X 99 8 [l0, l1, some (.int x), l3, l4] (.int x :: st) σ := np_op k99 rfl rfl
theorem e99_8 {ls : nv_Ls} {st : List Value} {σ : nv_St} {a : Nat} {x0 : Int32} (h : st.length ≤ 4) (h0 : nv_isO σ 5 a = true) : np_X 99 8 ls (.int x0 :: .ref a :: st) σ = np_aft 99 8 11 ls st (np_X 127 0 [some (.ref a), some (.int x0), none] [] σ) := np_call k99 rfl (Nat.le_add_left 2 _) rfl rfl h rfl h0 rfl
theorem e99_11n (x : Nat) {l0 l1 l2 l4 : Option Value} {st : List Value} {σ : nv_St} : np_X 99 11 [l0, l1, l2, none, l4] (.ref x :: st) σ = np_X 99 13 [l0, l1, l2, none, some (.ref x)] st σ := np_op k99 rfl rfl
theorem e99_11i (x : Nat) {z : Int32} {l0 l1 l2 l4 : Option Value} {st : List Value} {σ : nv_St} : np_X 99 11 [l0, l1, l2, some (.int z), l4] (.ref x :: st) σ = np_X 99 13 [l0, l1, l2, some (.int z), some (.ref x)] st σ := np_op k99 rfl rfl
theorem e99_11r (x : Nat) {z : Nat} {l0 l1 l2 l4 : Option Value} {st : List Value} {σ : nv_St} : np_X 99 11 [l0, l1, l2, some (.ref z), l4] (.ref x :: st) σ = np_X 99 13 [l0, l1, l2, some (.ref z), some (.ref x)] st σ := np_op k99 rfl rfl
theorem e99_11v (x : Nat) {l0 l1 l2 l4 : Option Value} {st : List Value} {σ : nv_St} : np_X 99 11 [l0, l1, l2, some .null, l4] (.ref x :: st) σ = np_X 99 13 [l0, l1, l2, some .null, some (.ref x)] st σ := np_op k99 rfl rfl
theorem e99_11un  {l0 l1 l2 l4 : Option Value} {st : List Value} {σ : nv_St} : np_X 99 11 [l0, l1, l2, none, l4] (.null :: st) σ = np_X 99 13 [l0, l1, l2, none, some .null] st σ := np_op k99 rfl rfl
theorem e99_11ui  {z : Int32} {l0 l1 l2 l4 : Option Value} {st : List Value} {σ : nv_St} : np_X 99 11 [l0, l1, l2, some (.int z), l4] (.null :: st) σ = np_X 99 13 [l0, l1, l2, some (.int z), some .null] st σ := np_op k99 rfl rfl
theorem e99_11ur  {z : Nat} {l0 l1 l2 l4 : Option Value} {st : List Value} {σ : nv_St} : np_X 99 11 [l0, l1, l2, some (.ref z), l4] (.null :: st) σ = np_X 99 13 [l0, l1, l2, some (.ref z), some .null] st σ := np_op k99 rfl rfl
theorem e99_11uv  {l0 l1 l2 l4 : Option Value} {st : List Value} {σ : nv_St} : np_X 99 11 [l0, l1, l2, some .null, l4] (.null :: st) σ = np_X 99 13 [l0, l1, l2, some .null, some .null] st σ := np_op k99 rfl rfl
theorem e99_13 (x : Nat) {l0 l1 l2 l4 : Option Value} {st : List Value} {σ : nv_St} : np_X 99 13 [l0, l1, l2, some (.ref x), l4] st σ = np_X 99 14 [l0, l1, l2, some (.ref x), l4] (.ref x :: st) σ := np_op k99 rfl rfl
theorem e99_13u  {l0 l1 l2 l4 : Option Value} {st : List Value} {σ : nv_St} : np_X 99 13 [l0, l1, l2, some .null, l4] st σ = np_X 99 14 [l0, l1, l2, some .null, l4] (.null :: st) σ := np_op k99 rfl rfl
theorem e99_14 {ls : nv_Ls} {st : List Value} {σ : nv_St} {a : Nat}  (h : st.length ≤ 4) (h0 : nv_isO σ 4 a = true) : np_X 99 14 ls (.ref a :: st) σ = np_aft 99 14 17 ls st (np_X 62 0 [some (.ref a)] [] σ) := np_call k99 rfl (Nat.le_add_left 1 _) rfl rfl h rfl h0 rfl
theorem e99_17 {ls : nv_Ls} {st : List Value} {σ : nv_St} {x : Int32} : np_X 99 17 ls (.int x :: st) σ = if x = 0 then np_X 99 28 ls st σ else np_X 99 20 ls st σ := np_br inferInstance k99 rfl rfl
theorem e99_20 (x : Nat) {l0 l1 l2 l3 : Option Value} {st : List Value} {σ : nv_St} : np_X 99 20 [l0, l1, l2, l3, some (.ref x)] st σ = np_X 99 22 [l0, l1, l2, l3, some (.ref x)] (.ref x :: st) σ := np_op k99 rfl rfl
theorem e99_20u  {l0 l1 l2 l3 : Option Value} {st : List Value} {σ : nv_St} : np_X 99 20 [l0, l1, l2, l3, some .null] st σ = np_X 99 22 [l0, l1, l2, l3, some .null] (.null :: st) σ := np_op k99 rfl rfl
theorem e99_22 {ls : nv_Ls} {st : List Value} {σ : nv_St} {a : Nat}  (h : st.length ≤ 4) (h0 : nv_isO σ 4 a = true) : np_X 99 22 ls (.ref a :: st) σ = np_aft 99 22 25 ls st (np_X 62 0 [some (.ref a)] [] σ) := np_call k99 rfl (Nat.le_add_left 1 _) rfl rfl h rfl h0 rfl
theorem e99_25 {ls : nv_Ls} {st : List Value} {σ : nv_St} {x : Int32} : np_X 99 25 ls (.int x :: st) σ = if x = 0 then np_X 99 28 ls st σ else np_X 99 38 ls st σ := np_br inferInstance k99 rfl rfl
theorem e99_28 {ls : nv_Ls} {σ : nv_St} : np_X 99 28 ls [] σ = some (.inr "java/util/NoSuchElementException", nv_bump σ) := np_thr k99 rfl
theorem e99_38 (x : Nat) {l0 l1 l2 l4 : Option Value} {st : List Value} {σ : nv_St} : np_X 99 38 [l0, l1, l2, some (.ref x), l4] st σ = np_X 99 39 [l0, l1, l2, some (.ref x), l4] (.ref x :: st) σ := np_op k99 rfl rfl
theorem e99_38u  {l0 l1 l2 l4 : Option Value} {st : List Value} {σ : nv_St} : np_X 99 38 [l0, l1, l2, some .null, l4] st σ = np_X 99 39 [l0, l1, l2, some .null, l4] (.null :: st) σ := np_op k99 rfl rfl
theorem e99_39 (x : Nat) {l0 l1 l2 l3 : Option Value} {st : List Value} {σ : nv_St} : np_X 99 39 [l0, l1, l2, l3, some (.ref x)] st σ = np_X 99 41 [l0, l1, l2, l3, some (.ref x)] (.ref x :: st) σ := np_op k99 rfl rfl
theorem e99_39u  {l0 l1 l2 l3 : Option Value} {st : List Value} {σ : nv_St} : np_X 99 39 [l0, l1, l2, l3, some .null] st σ = np_X 99 41 [l0, l1, l2, l3, some .null] (.null :: st) σ := np_op k99 rfl rfl
theorem e99_41 {ls : nv_Ls} {st : List Value} {σ : nv_St} {a : Nat} : np_X 99 41 ls (.ref a :: st) σ = np_b (nv_fld σ 4 2 a) (fun v => np_X 99 44 ls (v :: st) σ) := np_get k99 rfl
theorem e99_44 (x : Nat) {l0 l1 l2 l3 : Option Value} {st : List Value} {σ : nv_St} : np_X 99 44 [l0, l1, l2, l3, some (.ref x)] st σ = np_X 99 46 [l0, l1, l2, l3, some (.ref x)] (.ref x :: st) σ := np_op k99 rfl rfl
theorem e99_44u  {l0 l1 l2 l3 : Option Value} {st : List Value} {σ : nv_St} : np_X 99 44 [l0, l1, l2, l3, some .null] st σ = np_X 99 46 [l0, l1, l2, l3, some .null] (.null :: st) σ := np_op k99 rfl rfl
theorem e99_46 {ls : nv_Ls} {st : List Value} {σ : nv_St} {a : Nat} : np_X 99 46 ls (.ref a :: st) σ = np_b (nv_fld σ 4 3 a) (fun v => np_X 99 49 ls (v :: st) σ) := np_get k99 rfl
theorem e99_49 {ls : nv_Ls} {st : List Value} {σ : nv_St} {a : Nat} {x0 : Int32} {x1 : Int32} (h : st.length ≤ 4) (h0 : nv_isO σ 4 a = true) : np_X 99 49 ls (.int x1 :: .int x0 :: .ref a :: st) σ = np_aft 99 49 52 ls st (np_X 65 0 [some (.ref a), some (.int x0), some (.int x1)] [] σ) := np_call k99 rfl (Nat.le_add_left 3 _) rfl rfl h rfl h0 rfl
theorem e99_52 {ls : nv_Ls} {σ : nv_St} {x : Int32} : np_X 99 52 ls [.int x] σ = some (.inl (some (.int x)), σ) := np_reti k99 rfl rfl
-- 100 SpoonNavy.directionTo
theorem k100 : np_P.1 100 = np_c100 := rfl
theorem e100_0 (x : Nat) {l1 l2 l3 l4 : Option Value} {st : List Value} {σ : nv_St} : np_X 100 0 [some (.ref x), l1, l2, l3, l4] st σ = np_X 100 1 [some (.ref x), l1, l2, l3, l4] (.ref x :: st) σ := np_op k100 rfl rfl
theorem e100_0u  {l1 l2 l3 l4 : Option Value} {st : List Value} {σ : nv_St} : np_X 100 0 [some .null, l1, l2, l3, l4] st σ = np_X 100 1 [some .null, l1, l2, l3, l4] (.null :: st) σ := np_op k100 rfl rfl
theorem e100_1 (x : Int32) {l0 l2 l3 l4 : Option Value} {st : List Value} {σ : nv_St} : np_X 100 1 [l0, some (.int x), l2, l3, l4] st σ = np_X 100 2 [l0, some (.int x), l2, l3, l4] (.int x :: st) σ := np_op k100 rfl rfl
theorem e100_2 {ls : nv_Ls} {st : List Value} {σ : nv_St} {a : Nat} {x0 : Int32} (h : st.length ≤ 4) (h0 : nv_isO σ 5 a = true) : np_X 100 2 ls (.int x0 :: .ref a :: st) σ = np_aft 100 2 5 ls st (np_X 127 0 [some (.ref a), some (.int x0), none] [] σ) := np_call k100 rfl (Nat.le_add_left 2 _) rfl rfl h rfl h0 rfl
theorem e100_5n (x : Nat) {l0 l1 l2 l4 : Option Value} {st : List Value} {σ : nv_St} : np_X 100 5 [l0, l1, l2, none, l4] (.ref x :: st) σ = np_X 100 7 [l0, l1, l2, none, some (.ref x)] st σ := np_op k100 rfl rfl
theorem e100_5i (x : Nat) {z : Int32} {l0 l1 l2 l4 : Option Value} {st : List Value} {σ : nv_St} : np_X 100 5 [l0, l1, l2, some (.int z), l4] (.ref x :: st) σ = np_X 100 7 [l0, l1, l2, some (.int z), some (.ref x)] st σ := np_op k100 rfl rfl
theorem e100_5r (x : Nat) {z : Nat} {l0 l1 l2 l4 : Option Value} {st : List Value} {σ : nv_St} : np_X 100 5 [l0, l1, l2, some (.ref z), l4] (.ref x :: st) σ = np_X 100 7 [l0, l1, l2, some (.ref z), some (.ref x)] st σ := np_op k100 rfl rfl
theorem e100_5v (x : Nat) {l0 l1 l2 l4 : Option Value} {st : List Value} {σ : nv_St} : np_X 100 5 [l0, l1, l2, some .null, l4] (.ref x :: st) σ = np_X 100 7 [l0, l1, l2, some .null, some (.ref x)] st σ := np_op k100 rfl rfl
theorem e100_5un  {l0 l1 l2 l4 : Option Value} {st : List Value} {σ : nv_St} : np_X 100 5 [l0, l1, l2, none, l4] (.null :: st) σ = np_X 100 7 [l0, l1, l2, none, some .null] st σ := np_op k100 rfl rfl
theorem e100_5ui  {z : Int32} {l0 l1 l2 l4 : Option Value} {st : List Value} {σ : nv_St} : np_X 100 5 [l0, l1, l2, some (.int z), l4] (.null :: st) σ = np_X 100 7 [l0, l1, l2, some (.int z), some .null] st σ := np_op k100 rfl rfl
theorem e100_5ur  {z : Nat} {l0 l1 l2 l4 : Option Value} {st : List Value} {σ : nv_St} : np_X 100 5 [l0, l1, l2, some (.ref z), l4] (.null :: st) σ = np_X 100 7 [l0, l1, l2, some (.ref z), some .null] st σ := np_op k100 rfl rfl
theorem e100_5uv  {l0 l1 l2 l4 : Option Value} {st : List Value} {σ : nv_St} : np_X 100 5 [l0, l1, l2, some .null, l4] (.null :: st) σ = np_X 100 7 [l0, l1, l2, some .null, some .null] st σ := np_op k100 rfl rfl
theorem e100_7 (x : Int32) {l0 l1 l3 l4 : Option Value} {st : List Value} {σ : nv_St} : np_X 100 7 [l0, l1, some (.int x), l3, l4] st σ = np_X 100 8 [l0, l1, some (.int x), l3, l4] (.int x :: st) σ := np_op k100 rfl rfl
theorem e100_8 (x : Int32) {l0 l1 l2 l4 : Option Value} {st : List Value} {σ : nv_St} : np_X 100 8 [l0, l1, l2, some (.int x), l4] st σ = np_X 100 9 [l0, l1, l2, some (.int x), l4] (.int x :: st) σ := np_op k100 rfl rfl
theorem e100_9 {ls : nv_Ls} {st : List Value} {σ : nv_St}  {x0 : Int32} {x1 : Int32} (h : st.length ≤ 4) : np_X 100 9 ls (.int x1 :: .int x0 :: st) σ = np_aft 100 9 12 ls st (np_X 131 0 [some (.int x0), some (.int x1)] [] σ) := np_call k100 rfl (Nat.le_add_left 2 _) rfl rfl h rfl rfl rfl
theorem e100_12 (x : Nat) {l0 l1 l2 l3 : Option Value} {st : List Value} {σ : nv_St} : np_X 100 12 [l0, l1, l2, l3, some (.ref x)] st σ = np_X 100 14 [l0, l1, l2, l3, some (.ref x)] (.ref x :: st) σ := np_op k100 rfl rfl
theorem e100_12u  {l0 l1 l2 l3 : Option Value} {st : List Value} {σ : nv_St} : np_X 100 12 [l0, l1, l2, l3, some .null] st σ = np_X 100 14 [l0, l1, l2, l3, some .null] (.null :: st) σ := np_op k100 rfl rfl
theorem e100_14 {ls : nv_Ls} {st : List Value} {σ : nv_St} {a : Nat}  (h : st.length ≤ 4) (h0 : nv_isO σ 4 a = true) : np_X 100 14 ls (.ref a :: st) σ = np_aft 100 14 17 ls st (np_X 62 0 [some (.ref a)] [] σ) := np_call k100 rfl (Nat.le_add_left 1 _) rfl rfl h rfl h0 rfl
theorem e100_17 {ls : nv_Ls} {st : List Value} {σ : nv_St} {x : Int32} : np_X 100 17 ls (.int x :: st) σ = if x = 0 then np_X 100 30 ls st σ else np_X 100 20 ls st σ := np_br inferInstance k100 rfl rfl
theorem e100_20 (x : Nat) {l0 l1 l2 l3 : Option Value} {st : List Value} {σ : nv_St} : np_X 100 20 [l0, l1, l2, l3, some (.ref x)] st σ = np_X 100 22 [l0, l1, l2, l3, some (.ref x)] (.ref x :: st) σ := np_op k100 rfl rfl
theorem e100_20u  {l0 l1 l2 l3 : Option Value} {st : List Value} {σ : nv_St} : np_X 100 20 [l0, l1, l2, l3, some .null] st σ = np_X 100 22 [l0, l1, l2, l3, some .null] (.null :: st) σ := np_op k100 rfl rfl
theorem e100_22 (x : Int32) {l0 l1 l3 l4 : Option Value} {st : List Value} {σ : nv_St} : np_X 100 22 [l0, l1, some (.int x), l3, l4] st σ = np_X 100 23 [l0, l1, some (.int x), l3, l4] (.int x :: st) σ := np_op k100 rfl rfl
theorem e100_23 (x : Int32) {l0 l1 l2 l4 : Option Value} {st : List Value} {σ : nv_St} : np_X 100 23 [l0, l1, l2, some (.int x), l4] st σ = np_X 100 24 [l0, l1, l2, some (.int x), l4] (.int x :: st) σ := np_op k100 rfl rfl
theorem e100_24 {ls : nv_Ls} {st : List Value} {σ : nv_St} {a : Nat} {x0 : Int32} {x1 : Int32} (h : st.length ≤ 4) (h0 : nv_isO σ 4 a = true) : np_X 100 24 ls (.int x1 :: .int x0 :: .ref a :: st) σ = np_aft 100 24 27 ls st (np_X 64 0 [some (.ref a), some (.int x0), some (.int x1)] [] σ) := np_call k100 rfl (Nat.le_add_left 3 _) rfl rfl h rfl h0 rfl
theorem e100_27 {ls : nv_Ls} {st : List Value} {σ : nv_St} {x : Int32} : np_X 100 27 ls (.int x :: st) σ = if x = 0 then np_X 100 40 ls st σ else np_X 100 30 ls st σ := np_br inferInstance k100 rfl rfl
theorem e100_30 {ls : nv_Ls} {σ : nv_St} : np_X 100 30 ls [] σ = some (.inr "java/util/NoSuchElementException", nv_bump σ) := np_thr k100 rfl
theorem e100_40 (x : Int32) {l0 l1 l3 l4 : Option Value} {st : List Value} {σ : nv_St} : np_X 100 40 [l0, l1, some (.int x), l3, l4] st σ = np_X 100 41 [l0, l1, some (.int x), l3, l4] (.int x :: st) σ := np_op k100 rfl rfl
theorem e100_41 (x : Nat) {l0 l1 l2 l3 : Option Value} {st : List Value} {σ : nv_St} : np_X 100 41 [l0, l1, l2, l3, some (.ref x)] st σ = np_X 100 43 [l0, l1, l2, l3, some (.ref x)] (.ref x :: st) σ := np_op k100 rfl rfl
theorem e100_41u  {l0 l1 l2 l3 : Option Value} {st : List Value} {σ : nv_St} : np_X 100 41 [l0, l1, l2, l3, some .null] st σ = np_X 100 43 [l0, l1, l2, l3, some .null] (.null :: st) σ := np_op k100 rfl rfl
theorem e100_43 {ls : nv_Ls} {st : List Value} {σ : nv_St} {a : Nat} : np_X 100 43 ls (.ref a :: st) σ = np_b (nv_fld σ 4 2 a) (fun v => np_X 100 46 ls (v :: st) σ) := np_get k100 rfl
theorem e100_46 {ls : nv_Ls} {st : List Value} {σ : nv_St} {x y : Int32} : np_X 100 46 ls (.int y :: .int x :: st) σ = np_X 100 47 ls (.int (x - y) :: st) σ := np_op k100 rfl rfl
theorem e100_47 (x : Int32) {l0 l1 l2 l4 : Option Value} {st : List Value} {σ : nv_St} : np_X 100 47 [l0, l1, l2, some (.int x), l4] st σ = np_X 100 48 [l0, l1, l2, some (.int x), l4] (.int x :: st) σ := np_op k100 rfl rfl
theorem e100_48 (x : Nat) {l0 l1 l2 l3 : Option Value} {st : List Value} {σ : nv_St} : np_X 100 48 [l0, l1, l2, l3, some (.ref x)] st σ = np_X 100 50 [l0, l1, l2, l3, some (.ref x)] (.ref x :: st) σ := np_op k100 rfl rfl
theorem e100_48u  {l0 l1 l2 l3 : Option Value} {st : List Value} {σ : nv_St} : np_X 100 48 [l0, l1, l2, l3, some .null] st σ = np_X 100 50 [l0, l1, l2, l3, some .null] (.null :: st) σ := np_op k100 rfl rfl
theorem e100_50 {ls : nv_Ls} {st : List Value} {σ : nv_St} {a : Nat} : np_X 100 50 ls (.ref a :: st) σ = np_b (nv_fld σ 4 3 a) (fun v => np_X 100 53 ls (v :: st) σ) := np_get k100 rfl
theorem e100_53 {ls : nv_Ls} {st : List Value} {σ : nv_St} {x y : Int32} : np_X 100 53 ls (.int y :: .int x :: st) σ = np_X 100 54 ls (.int (x - y) :: st) σ := np_op k100 rfl rfl
theorem e100_54 {ls : nv_Ls} {st : List Value} {σ : nv_St}  {x0 : Int32} {x1 : Int32} (h : st.length ≤ 4) : np_X 100 54 ls (.int x1 :: .int x0 :: st) σ = np_aft 100 54 57 ls st (np_X 138 0 [some (.int x0), some (.int x1), none, none] [] σ) := np_call k100 rfl (Nat.le_add_left 2 _) rfl rfl h rfl rfl rfl
theorem e100_57 {ls : nv_Ls} {σ : nv_St} {x : Int32} : np_X 100 57 ls [.int x] σ = some (.inl (some (.int x)), σ) := np_reti k100 rfl rfl
-- 101 SpoonNavy.isInReach
theorem k101 : np_P.1 101 = np_c101 := rfl
theorem e101_0 (x : Nat) {l1 l2 l3 l4 : Option Value} {st : List Value} {σ : nv_St} : np_X 101 0 [some (.ref x), l1, l2, l3, l4] st σ = np_X 101 1 [some (.ref x), l1, l2, l3, l4] (.ref x :: st) σ := np_op k101 rfl rfl
theorem e101_0u  {l1 l2 l3 l4 : Option Value} {st : List Value} {σ : nv_St} : np_X 101 0 [some .null, l1, l2, l3, l4] st σ = np_X 101 1 [some .null, l1, l2, l3, l4] (.null :: st) σ := np_op k101 rfl rfl
theorem e101_1 (x : Int32) {l0 l2 l3 l4 : Option Value} {st : List Value} {σ : nv_St} : np_X 101 1 [l0, some (.int x), l2, l3, l4] st σ = np_X 101 2 [l0, some (.int x), l2, l3, l4] (.int x :: st) σ := np_op k101 rfl rfl
theorem e101_2 {ls : nv_Ls} {st : List Value} {σ : nv_St} {a : Nat} {x0 : Int32} (h : st.length ≤ 4) (h0 : nv_isO σ 5 a = true) : np_X 101 2 ls (.int x0 :: .ref a :: st) σ = np_aft 101 2 5 ls st (np_X 127 0 [some (.ref a), some (.int x0), none] [] σ) := np_call k101 rfl (Nat.le_add_left 2 _) rfl rfl h rfl h0 rfl
theorem e101_5n (x : Nat) {l0 l1 l2 l4 : Option Value} {st : List Value} {σ : nv_St} : np_X 101 5 [l0, l1, l2, none, l4] (.ref x :: st) σ = np_X 101 7 [l0, l1, l2, none, some (.ref x)] st σ := np_op k101 rfl rfl
theorem e101_5i (x : Nat) {z : Int32} {l0 l1 l2 l4 : Option Value} {st : List Value} {σ : nv_St} : np_X 101 5 [l0, l1, l2, some (.int z), l4] (.ref x :: st) σ = np_X 101 7 [l0, l1, l2, some (.int z), some (.ref x)] st σ := np_op k101 rfl rfl
theorem e101_5r (x : Nat) {z : Nat} {l0 l1 l2 l4 : Option Value} {st : List Value} {σ : nv_St} : np_X 101 5 [l0, l1, l2, some (.ref z), l4] (.ref x :: st) σ = np_X 101 7 [l0, l1, l2, some (.ref z), some (.ref x)] st σ := np_op k101 rfl rfl
theorem e101_5v (x : Nat) {l0 l1 l2 l4 : Option Value} {st : List Value} {σ : nv_St} : np_X 101 5 [l0, l1, l2, some .null, l4] (.ref x :: st) σ = np_X 101 7 [l0, l1, l2, some .null, some (.ref x)] st σ := np_op k101 rfl rfl
theorem e101_5un  {l0 l1 l2 l4 : Option Value} {st : List Value} {σ : nv_St} : np_X 101 5 [l0, l1, l2, none, l4] (.null :: st) σ = np_X 101 7 [l0, l1, l2, none, some .null] st σ := np_op k101 rfl rfl
theorem e101_5ui  {z : Int32} {l0 l1 l2 l4 : Option Value} {st : List Value} {σ : nv_St} : np_X 101 5 [l0, l1, l2, some (.int z), l4] (.null :: st) σ = np_X 101 7 [l0, l1, l2, some (.int z), some .null] st σ := np_op k101 rfl rfl
theorem e101_5ur  {z : Nat} {l0 l1 l2 l4 : Option Value} {st : List Value} {σ : nv_St} : np_X 101 5 [l0, l1, l2, some (.ref z), l4] (.null :: st) σ = np_X 101 7 [l0, l1, l2, some (.ref z), some .null] st σ := np_op k101 rfl rfl
theorem e101_5uv  {l0 l1 l2 l4 : Option Value} {st : List Value} {σ : nv_St} : np_X 101 5 [l0, l1, l2, some .null, l4] (.null :: st) σ = np_X 101 7 [l0, l1, l2, some .null, some .null] st σ := np_op k101 rfl rfl
theorem e101_7 (x : Int32) {l0 l1 l3 l4 : Option Value} {st : List Value} {σ : nv_St} : np_X 101 7 [l0, l1, some (.int x), l3, l4] st σ = np_X 101 8 [l0, l1, some (.int x), l3, l4] (.int x :: st) σ := np_op k101 rfl rfl
theorem e101_8 (x : Int32) {l0 l1 l2 l4 : Option Value} {st : List Value} {σ : nv_St} : np_X 101 8 [l0, l1, l2, some (.int x), l4] st σ = np_X 101 9 [l0, l1, l2, some (.int x), l4] (.int x :: st) σ := np_op k101 rfl rfl
theorem e101_9 {ls : nv_Ls} {st : List Value} {σ : nv_St}  {x0 : Int32} {x1 : Int32} (h : st.length ≤ 4) : np_X 101 9 ls (.int x1 :: .int x0 :: st) σ = np_aft 101 9 12 ls st (np_X 131 0 [some (.int x0), some (.int x1)] [] σ) := np_call k101 rfl (Nat.le_add_left 2 _) rfl rfl h rfl rfl rfl
theorem e101_12 (x : Nat) {l0 l1 l2 l3 : Option Value} {st : List Value} {σ : nv_St} : np_X 101 12 [l0, l1, l2, l3, some (.ref x)] st σ = np_X 101 14 [l0, l1, l2, l3, some (.ref x)] (.ref x :: st) σ := np_op k101 rfl rfl
theorem e101_12u  {l0 l1 l2 l3 : Option Value} {st : List Value} {σ : nv_St} : np_X 101 12 [l0, l1, l2, l3, some .null] st σ = np_X 101 14 [l0, l1, l2, l3, some .null] (.null :: st) σ := np_op k101 rfl rfl
theorem e101_14 (x : Int32) {l0 l1 l3 l4 : Option Value} {st : List Value} {σ : nv_St} : np_X 101 14 [l0, l1, some (.int x), l3, l4] st σ = np_X 101 15 [l0, l1, some (.int x), l3, l4] (.int x :: st) σ := np_op k101 rfl rfl
theorem e101_15 (x : Int32) {l0 l1 l2 l4 : Option Value} {st : List Value} {σ : nv_St} : np_X 101 15 [l0, l1, l2, some (.int x), l4] st σ = np_X 101 16 [l0, l1, l2, some (.int x), l4] (.int x :: st) σ := np_op k101 rfl rfl
theorem e101_16 {ls : nv_Ls} {st : List Value} {σ : nv_St} {a : Nat} {x0 : Int32} {x1 : Int32} (h : st.length ≤ 4) (h0 : nv_isO σ 4 a = true) : np_X 101 16 ls (.int x1 :: .int x0 :: .ref a :: st) σ = np_aft 101 16 19 ls st (np_X 67 0 [some (.ref a), some (.int x0), some (.int x1)] [] σ) := np_call k101 rfl (Nat.le_add_left 3 _) rfl rfl h rfl h0 rfl
theorem e101_19 {ls : nv_Ls} {σ : nv_St} {x : Int32} (h : narrow .boolean (.int x) = .int x) : np_X 101 19 ls [.int x] σ = some (.inl (some (.int x)), σ) := np_reti k101 rfl h
-- 102 SpoonNavy.targetCount
theorem k102 : np_P.1 102 = np_c102 := rfl
theorem e102_0 (x : Nat) {l1 : Option Value} {st : List Value} {σ : nv_St} : np_X 102 0 [some (.ref x), l1] st σ = np_X 102 1 [some (.ref x), l1] (.ref x :: st) σ := np_op k102 rfl rfl
theorem e102_0u  {l1 : Option Value} {st : List Value} {σ : nv_St} : np_X 102 0 [some .null, l1] st σ = np_X 102 1 [some .null, l1] (.null :: st) σ := np_op k102 rfl rfl
theorem e102_1 {ls : nv_Ls} {st : List Value} {σ : nv_St} {a : Nat} : np_X 102 1 ls (.ref a :: st) σ = np_b (nv_fld σ 5 0 a) (fun v => np_X 102 4 ls (v :: st) σ) := np_get k102 rfl
theorem e102_4 (x : Nat) {l1 : Option Value} {st : List Value} {σ : nv_St} : np_X 102 4 [some (.ref x), l1] st σ = np_X 102 5 [some (.ref x), l1] (.ref x :: st) σ := np_op k102 rfl rfl
theorem e102_4u  {l1 : Option Value} {st : List Value} {σ : nv_St} : np_X 102 4 [some .null, l1] st σ = np_X 102 5 [some .null, l1] (.null :: st) σ := np_op k102 rfl rfl
theorem e102_5 (x : Int32) {l0 : Option Value} {st : List Value} {σ : nv_St} : np_X 102 5 [l0, some (.int x)] st σ = np_X 102 6 [l0, some (.int x)] (.int x :: st) σ := np_op k102 rfl rfl
theorem e102_6 {ls : nv_Ls} {st : List Value} {σ : nv_St} {a : Nat} {x0 : Int32} (h : st.length ≤ 4) (h0 : nv_isO σ 5 a = true) : np_X 102 6 ls (.int x0 :: .ref a :: st) σ = np_aft 102 6 9 ls st (np_X 127 0 [some (.ref a), some (.int x0), none] [] σ) := np_call k102 rfl (Nat.le_add_left 2 _) rfl rfl h rfl h0 rfl
theorem e102_9 {ls : nv_Ls} {st : List Value} {σ : nv_St} {a : Nat} {x0 : Nat} (h : st.length ≤ 4) (h0 : nv_isO σ 2 a = true) : np_X 102 9 ls (.ref x0 :: .ref a :: st) σ = np_aft 102 9 12 ls st (np_X 35 0 [some (.ref a), some (.ref x0), none, none, none, none, none] [] σ) := np_call k102 rfl (Nat.le_add_left 2 _) rfl rfl h rfl h0 rfl
theorem e102_12 {ls : nv_Ls} {σ : nv_St} {x : Int32} : np_X 102 12 ls [.int x] σ = some (.inl (some (.int x)), σ) := np_reti k102 rfl rfl
-- 103 SpoonNavy.targetCountByCells
theorem k103 : np_P.1 103 = np_c103 := rfl
theorem e103_0 (x : Nat) {l1 : Option Value} {st : List Value} {σ : nv_St} : np_X 103 0 [some (.ref x), l1] st σ = np_X 103 1 [some (.ref x), l1] (.ref x :: st) σ := np_op k103 rfl rfl
theorem e103_0u  {l1 : Option Value} {st : List Value} {σ : nv_St} : np_X 103 0 [some .null, l1] st σ = np_X 103 1 [some .null, l1] (.null :: st) σ := np_op k103 rfl rfl
theorem e103_1 {ls : nv_Ls} {st : List Value} {σ : nv_St} {a : Nat} : np_X 103 1 ls (.ref a :: st) σ = np_b (nv_fld σ 5 0 a) (fun v => np_X 103 4 ls (v :: st) σ) := np_get k103 rfl
theorem e103_4 (x : Nat) {l1 : Option Value} {st : List Value} {σ : nv_St} : np_X 103 4 [some (.ref x), l1] st σ = np_X 103 5 [some (.ref x), l1] (.ref x :: st) σ := np_op k103 rfl rfl
theorem e103_4u  {l1 : Option Value} {st : List Value} {σ : nv_St} : np_X 103 4 [some .null, l1] st σ = np_X 103 5 [some .null, l1] (.null :: st) σ := np_op k103 rfl rfl
theorem e103_5 (x : Int32) {l0 : Option Value} {st : List Value} {σ : nv_St} : np_X 103 5 [l0, some (.int x)] st σ = np_X 103 6 [l0, some (.int x)] (.int x :: st) σ := np_op k103 rfl rfl
theorem e103_6 {ls : nv_Ls} {st : List Value} {σ : nv_St} {a : Nat} {x0 : Int32} (h : st.length ≤ 4) (h0 : nv_isO σ 5 a = true) : np_X 103 6 ls (.int x0 :: .ref a :: st) σ = np_aft 103 6 9 ls st (np_X 127 0 [some (.ref a), some (.int x0), none] [] σ) := np_call k103 rfl (Nat.le_add_left 2 _) rfl rfl h rfl h0 rfl
theorem e103_9 {ls : nv_Ls} {st : List Value} {σ : nv_St} {a : Nat} {x0 : Nat} (h : st.length ≤ 4) (h0 : nv_isO σ 2 a = true) : np_X 103 9 ls (.ref x0 :: .ref a :: st) σ = np_aft 103 9 12 ls st (np_X 36 0 [some (.ref a), some (.ref x0), none, none, none] [] σ) := np_call k103 rfl (Nat.le_add_left 2 _) rfl rfl h rfl h0 rfl
theorem e103_12 {ls : nv_Ls} {σ : nv_St} {x : Int32} : np_X 103 12 ls [.int x] σ = some (.inl (some (.int x)), σ) := np_reti k103 rfl rfl
-- 104 SpoonNavy.cellsAhead
theorem k104 : np_P.1 104 = np_c104 := rfl
theorem e104_0 (x : Nat) {l1 : Option Value} {st : List Value} {σ : nv_St} : np_X 104 0 [some (.ref x), l1] st σ = np_X 104 1 [some (.ref x), l1] (.ref x :: st) σ := np_op k104 rfl rfl
theorem e104_0u  {l1 : Option Value} {st : List Value} {σ : nv_St} : np_X 104 0 [some .null, l1] st σ = np_X 104 1 [some .null, l1] (.null :: st) σ := np_op k104 rfl rfl
theorem e104_1 {ls : nv_Ls} {st : List Value} {σ : nv_St} {a : Nat} : np_X 104 1 ls (.ref a :: st) σ = np_b (nv_fld σ 5 0 a) (fun v => np_X 104 4 ls (v :: st) σ) := np_get k104 rfl
theorem e104_4 (x : Nat) {l1 : Option Value} {st : List Value} {σ : nv_St} : np_X 104 4 [some (.ref x), l1] st σ = np_X 104 5 [some (.ref x), l1] (.ref x :: st) σ := np_op k104 rfl rfl
theorem e104_4u  {l1 : Option Value} {st : List Value} {σ : nv_St} : np_X 104 4 [some .null, l1] st σ = np_X 104 5 [some .null, l1] (.null :: st) σ := np_op k104 rfl rfl
theorem e104_5 (x : Int32) {l0 : Option Value} {st : List Value} {σ : nv_St} : np_X 104 5 [l0, some (.int x)] st σ = np_X 104 6 [l0, some (.int x)] (.int x :: st) σ := np_op k104 rfl rfl
theorem e104_6 {ls : nv_Ls} {st : List Value} {σ : nv_St} {a : Nat} {x0 : Int32} (h : st.length ≤ 4) (h0 : nv_isO σ 5 a = true) : np_X 104 6 ls (.int x0 :: .ref a :: st) σ = np_aft 104 6 9 ls st (np_X 128 0 [some (.ref a), some (.int x0), none] [] σ) := np_call k104 rfl (Nat.le_add_left 2 _) rfl rfl h rfl h0 rfl
theorem e104_9 {ls : nv_Ls} {st : List Value} {σ : nv_St} {a : Nat} {x0 : Nat} (h : st.length ≤ 4) (h0 : nv_isO σ 2 a = true) : np_X 104 9 ls (.ref x0 :: .ref a :: st) σ = np_aft 104 9 12 ls st (np_X 38 0 [some (.ref a), some (.ref x0), none, none, none] [] σ) := np_call k104 rfl (Nat.le_add_left 2 _) rfl rfl h rfl h0 rfl
theorem e104_12 {ls : nv_Ls} {σ : nv_St} {x : Int32} : np_X 104 12 ls [.int x] σ = some (.inl (some (.int x)), σ) := np_reti k104 rfl rfl
-- 105 SpoonNavy.potOf
theorem k105 : np_P.1 105 = np_c105 := rfl
theorem e105_0 (x : Int32) {l0 : Option Value} {st : List Value} {σ : nv_St} : np_X 105 0 [l0, some (.int x)] st σ = np_X 105 1 [l0, some (.int x)] (.int x :: st) σ := np_op k105 rfl rfl
theorem e105_1 {ls : nv_Ls} {st : List Value} {σ : nv_St}  {x0 : Int32} (h : st.length ≤ 4) : np_X 105 1 ls (.int x0 :: st) σ = np_aft 105 1 4 ls st (np_X 130 0 [some (.int x0)] [] σ) := np_call k105 rfl (Nat.le_add_left 1 _) rfl rfl h rfl rfl rfl
theorem e105_4 (x : Nat) {l1 : Option Value} {st : List Value} {σ : nv_St} : np_X 105 4 [some (.ref x), l1] st σ = np_X 105 5 [some (.ref x), l1] (.ref x :: st) σ := np_op k105 rfl rfl
theorem e105_4u  {l1 : Option Value} {st : List Value} {σ : nv_St} : np_X 105 4 [some .null, l1] st σ = np_X 105 5 [some .null, l1] (.null :: st) σ := np_op k105 rfl rfl
theorem e105_5 {ls : nv_Ls} {st : List Value} {σ : nv_St} {a : Nat} : np_X 105 5 ls (.ref a :: st) σ = np_b (nv_fld σ 5 0 a) (fun v => np_X 105 8 ls (v :: st) σ) := np_get k105 rfl
theorem e105_8 (x : Int32) {l0 : Option Value} {st : List Value} {σ : nv_St} : np_X 105 8 [l0, some (.int x)] st σ = np_X 105 9 [l0, some (.int x)] (.int x :: st) σ := np_op k105 rfl rfl
theorem e105_9 {ls : nv_Ls} {st : List Value} {σ : nv_St} {a : Nat} {x0 : Int32} (h : st.length ≤ 4) (h0 : nv_isO σ 2 a = true) : np_X 105 9 ls (.int x0 :: .ref a :: st) σ = np_aft 105 9 12 ls st (np_X 29 0 [some (.ref a), some (.int x0)] [] σ) := np_call k105 rfl (Nat.le_add_left 2 _) rfl rfl h rfl h0 rfl
theorem e105_12 {ls : nv_Ls} {st : List Value} {σ : nv_St} {a : Nat} : np_X 105 12 ls (.ref a :: st) σ = np_b (nv_fld σ 0 2 a) (fun v => np_X 105 15 ls (v :: st) σ) := np_get k105 rfl
theorem e105_15 {ls : nv_Ls} {σ : nv_St} {x : Int32} : np_X 105 15 ls [.int x] σ = some (.inl (some (.int x)), σ) := np_reti k105 rfl rfl
-- 106 SpoonNavy.fleetCubes
theorem k106 : np_P.1 106 = np_c106 := rfl
theorem e106_0 (x : Int32) {l0 : Option Value} {st : List Value} {σ : nv_St} : np_X 106 0 [l0, some (.int x)] st σ = np_X 106 1 [l0, some (.int x)] (.int x :: st) σ := np_op k106 rfl rfl
theorem e106_1 {ls : nv_Ls} {st : List Value} {σ : nv_St}  {x0 : Int32} (h : st.length ≤ 4) : np_X 106 1 ls (.int x0 :: st) σ = np_aft 106 1 4 ls st (np_X 130 0 [some (.int x0)] [] σ) := np_call k106 rfl (Nat.le_add_left 1 _) rfl rfl h rfl rfl rfl
theorem e106_4 (x : Nat) {l1 : Option Value} {st : List Value} {σ : nv_St} : np_X 106 4 [some (.ref x), l1] st σ = np_X 106 5 [some (.ref x), l1] (.ref x :: st) σ := np_op k106 rfl rfl
theorem e106_4u  {l1 : Option Value} {st : List Value} {σ : nv_St} : np_X 106 4 [some .null, l1] st σ = np_X 106 5 [some .null, l1] (.null :: st) σ := np_op k106 rfl rfl
theorem e106_5 {ls : nv_Ls} {st : List Value} {σ : nv_St} {a : Nat} : np_X 106 5 ls (.ref a :: st) σ = np_b (nv_fld σ 5 0 a) (fun v => np_X 106 8 ls (v :: st) σ) := np_get k106 rfl
theorem e106_8 (x : Int32) {l0 : Option Value} {st : List Value} {σ : nv_St} : np_X 106 8 [l0, some (.int x)] st σ = np_X 106 9 [l0, some (.int x)] (.int x :: st) σ := np_op k106 rfl rfl
theorem e106_9 {ls : nv_Ls} {st : List Value} {σ : nv_St} {a : Nat} {x0 : Int32} (h : st.length ≤ 4) (h0 : nv_isO σ 2 a = true) : np_X 106 9 ls (.int x0 :: .ref a :: st) σ = np_aft 106 9 12 ls st (np_X 40 0 [some (.ref a), some (.int x0), none, none, none, none, none] [] σ) := np_call k106 rfl (Nat.le_add_left 2 _) rfl rfl h rfl h0 rfl
theorem e106_12 {ls : nv_Ls} {σ : nv_St} {x : Int32} : np_X 106 12 ls [.int x] σ = some (.inl (some (.int x)), σ) := np_reti k106 rfl rfl
-- 107 SpoonNavy.fleetCubesByAccount
theorem k107 : np_P.1 107 = np_c107 := rfl
theorem e107_0 (x : Int32) {l0 : Option Value} {st : List Value} {σ : nv_St} : np_X 107 0 [l0, some (.int x)] st σ = np_X 107 1 [l0, some (.int x)] (.int x :: st) σ := np_op k107 rfl rfl
theorem e107_1 {ls : nv_Ls} {st : List Value} {σ : nv_St}  {x0 : Int32} (h : st.length ≤ 4) : np_X 107 1 ls (.int x0 :: st) σ = np_aft 107 1 4 ls st (np_X 130 0 [some (.int x0)] [] σ) := np_call k107 rfl (Nat.le_add_left 1 _) rfl rfl h rfl rfl rfl
theorem e107_4 (x : Nat) {l1 : Option Value} {st : List Value} {σ : nv_St} : np_X 107 4 [some (.ref x), l1] st σ = np_X 107 5 [some (.ref x), l1] (.ref x :: st) σ := np_op k107 rfl rfl
theorem e107_4u  {l1 : Option Value} {st : List Value} {σ : nv_St} : np_X 107 4 [some .null, l1] st σ = np_X 107 5 [some .null, l1] (.null :: st) σ := np_op k107 rfl rfl
theorem e107_5 {ls : nv_Ls} {st : List Value} {σ : nv_St} {a : Nat} : np_X 107 5 ls (.ref a :: st) σ = np_b (nv_fld σ 5 0 a) (fun v => np_X 107 8 ls (v :: st) σ) := np_get k107 rfl
theorem e107_8 (x : Int32) {l0 : Option Value} {st : List Value} {σ : nv_St} : np_X 107 8 [l0, some (.int x)] st σ = np_X 107 9 [l0, some (.int x)] (.int x :: st) σ := np_op k107 rfl rfl
theorem e107_9 {ls : nv_Ls} {st : List Value} {σ : nv_St} {a : Nat} {x0 : Int32} (h : st.length ≤ 4) (h0 : nv_isO σ 2 a = true) : np_X 107 9 ls (.int x0 :: .ref a :: st) σ = np_aft 107 9 12 ls st (np_X 29 0 [some (.ref a), some (.int x0)] [] σ) := np_call k107 rfl (Nat.le_add_left 2 _) rfl rfl h rfl h0 rfl
theorem e107_12 {ls : nv_Ls} {st : List Value} {σ : nv_St} {a : Nat}  (h : st.length ≤ 4) (h0 : nv_isO σ 0 a = true) : np_X 107 12 ls (.ref a :: st) σ = np_aft 107 12 15 ls st (np_X 10 0 [some (.ref a)] [] σ) := np_call k107 rfl (Nat.le_add_left 1 _) rfl rfl h rfl h0 rfl
theorem e107_15 {ls : nv_Ls} {σ : nv_St} {x : Int32} : np_X 107 15 ls [.int x] σ = some (.inl (some (.int x)), σ) := np_reti k107 rfl rfl
-- 108 SpoonNavy.shotCount
theorem k108 : np_P.1 108 = np_c108 := rfl
theorem e108_0 (x : Nat) {st : List Value} {σ : nv_St} : np_X 108 0 [some (.ref x)] st σ = np_X 108 1 [some (.ref x)] (.ref x :: st) σ := np_op k108 rfl rfl
theorem e108_0u  {st : List Value} {σ : nv_St} : np_X 108 0 [some .null] st σ = np_X 108 1 [some .null] (.null :: st) σ := np_op k108 rfl rfl
theorem e108_1 {ls : nv_Ls} {st : List Value} {σ : nv_St} {a : Nat} : np_X 108 1 ls (.ref a :: st) σ = np_b (nv_fld σ 5 0 a) (fun v => np_X 108 4 ls (v :: st) σ) := np_get k108 rfl
theorem e108_4 {ls : nv_Ls} {st : List Value} {σ : nv_St} {a : Nat} : np_X 108 4 ls (.ref a :: st) σ = np_b (nv_fld σ 2 8 a) (fun v => np_X 108 7 ls (v :: st) σ) := np_get k108 rfl
theorem e108_7 {ls : nv_Ls} {σ : nv_St} {x : Int32} : np_X 108 7 ls [.int x] σ = some (.inl (some (.int x)), σ) := np_reti k108 rfl rfl
-- 109 SpoonNavy.hitCount
theorem k109 : np_P.1 109 = np_c109 := rfl
theorem e109_0 (x : Nat) {st : List Value} {σ : nv_St} : np_X 109 0 [some (.ref x)] st σ = np_X 109 1 [some (.ref x)] (.ref x :: st) σ := np_op k109 rfl rfl
theorem e109_0u  {st : List Value} {σ : nv_St} : np_X 109 0 [some .null] st σ = np_X 109 1 [some .null] (.null :: st) σ := np_op k109 rfl rfl
theorem e109_1 {ls : nv_Ls} {st : List Value} {σ : nv_St} {a : Nat} : np_X 109 1 ls (.ref a :: st) σ = np_b (nv_fld σ 5 0 a) (fun v => np_X 109 4 ls (v :: st) σ) := np_get k109 rfl
theorem e109_4 {ls : nv_Ls} {st : List Value} {σ : nv_St} {a : Nat} : np_X 109 4 ls (.ref a :: st) σ = np_b (nv_fld σ 2 9 a) (fun v => np_X 109 7 ls (v :: st) σ) := np_get k109 rfl
theorem e109_7 {ls : nv_Ls} {σ : nv_St} {x : Int32} : np_X 109 7 ls [.int x] σ = some (.inl (some (.int x)), σ) := np_reti k109 rfl rfl
-- 110 SpoonNavy.cellsSailed
theorem k110 : np_P.1 110 = np_c110 := rfl
theorem e110_0 (x : Nat) {st : List Value} {σ : nv_St} : np_X 110 0 [some (.ref x)] st σ = np_X 110 1 [some (.ref x)] (.ref x :: st) σ := np_op k110 rfl rfl
theorem e110_0u  {st : List Value} {σ : nv_St} : np_X 110 0 [some .null] st σ = np_X 110 1 [some .null] (.null :: st) σ := np_op k110 rfl rfl
theorem e110_1 {ls : nv_Ls} {st : List Value} {σ : nv_St} {a : Nat} : np_X 110 1 ls (.ref a :: st) σ = np_b (nv_fld σ 5 0 a) (fun v => np_X 110 4 ls (v :: st) σ) := np_get k110 rfl
theorem e110_4 {ls : nv_Ls} {st : List Value} {σ : nv_St} {a : Nat} : np_X 110 4 ls (.ref a :: st) σ = np_b (nv_fld σ 2 10 a) (fun v => np_X 110 7 ls (v :: st) σ) := np_get k110 rfl
theorem e110_7 {ls : nv_Ls} {σ : nv_St} {x : Int64} : np_X 110 7 ls [.long x] σ = some (.inl (some (.long x)), σ) := np_ret k110 rfl rfl
-- 111 SpoonNavy.secretCount
theorem k111 : np_P.1 111 = np_c111 := rfl
theorem e111_0 (x : Nat) {st : List Value} {σ : nv_St} : np_X 111 0 [some (.ref x)] st σ = np_X 111 1 [some (.ref x)] (.ref x :: st) σ := np_op k111 rfl rfl
theorem e111_0u  {st : List Value} {σ : nv_St} : np_X 111 0 [some .null] st σ = np_X 111 1 [some .null] (.null :: st) σ := np_op k111 rfl rfl
theorem e111_1 {ls : nv_Ls} {st : List Value} {σ : nv_St} {a : Nat} : np_X 111 1 ls (.ref a :: st) σ = np_b (nv_fld σ 5 0 a) (fun v => np_X 111 4 ls (v :: st) σ) := np_get k111 rfl
theorem e111_4 {ls : nv_Ls} {st : List Value} {σ : nv_St} {a : Nat} : np_X 111 4 ls (.ref a :: st) σ = np_b (nv_fld σ 2 11 a) (fun v => np_X 111 7 ls (v :: st) σ) := np_get k111 rfl
theorem e111_7 {ls : nv_Ls} {σ : nv_St} {x : Int32} : np_X 111 7 ls [.int x] σ = some (.inl (some (.int x)), σ) := np_reti k111 rfl rfl
-- 112 SpoonNavy.append
theorem k112 : np_P.1 112 = np_c112 := rfl
theorem e112_0 (x : Int32) {l0 : Option Value} {st : List Value} {σ : nv_St} : np_X 112 0 [l0, some (.int x)] st σ = np_X 112 1 [l0, some (.int x)] (.int x :: st) σ := np_op k112 rfl rfl
theorem e112_1 {ls : nv_Ls} {st : List Value} {σ : nv_St} : np_X 112 1 ls st σ = np_X 112 3 ls (.int (32) :: st) σ := np_op k112 rfl rfl
theorem e112_3 {ls : nv_Ls} {st : List Value} {σ : nv_St} {x y : Int32} : np_X 112 3 ls (.int y :: .int x :: st) σ = if x < y then np_X 112 12 ls st σ else np_X 112 6 ls st σ := np_br inferInstance k112 rfl rfl
theorem e112_6 (x : Int32) {l0 : Option Value} {st : List Value} {σ : nv_St} : np_X 112 6 [l0, some (.int x)] st σ = np_X 112 7 [l0, some (.int x)] (.int x :: st) σ := np_op k112 rfl rfl
theorem e112_7 {ls : nv_Ls} {st : List Value} {σ : nv_St} : np_X 112 7 ls st σ = np_X 112 9 ls (.int (126) :: st) σ := np_op k112 rfl rfl
theorem e112_9 {ls : nv_Ls} {st : List Value} {σ : nv_St} {x y : Int32} : np_X 112 9 ls (.int y :: .int x :: st) σ = if y < x then np_X 112 12 ls st σ else np_X 112 22 ls st σ := np_br inferInstance k112 rfl rfl
theorem e112_12 {ls : nv_Ls} {σ : nv_St} : np_X 112 12 ls [] σ = some (.inr "java/lang/IllegalArgumentException", nv_bump σ) := np_thr k112 rfl
theorem e112_22 (x : Nat) {l1 : Option Value} {st : List Value} {σ : nv_St} : np_X 112 22 [some (.ref x), l1] st σ = np_X 112 23 [some (.ref x), l1] (.ref x :: st) σ := np_op k112 rfl rfl
theorem e112_22u  {l1 : Option Value} {st : List Value} {σ : nv_St} : np_X 112 22 [some .null, l1] st σ = np_X 112 23 [some .null, l1] (.null :: st) σ := np_op k112 rfl rfl
theorem e112_23 {ls : nv_Ls} {st : List Value} {σ : nv_St} {a : Nat} : np_X 112 23 ls (.ref a :: st) σ = np_b (nv_fld σ 5 4 a) (fun v => np_X 112 26 ls (v :: st) σ) := np_get k112 rfl
theorem e112_26 {ls : nv_Ls} {st : List Value} {σ : nv_St} {a : Nat}  (h : st.length ≤ 4) (h0 : nv_isO σ 1 a = true) : np_X 112 26 ls (.ref a :: st) σ = np_aft 112 26 29 ls st (np_X 12 0 [some (.ref a)] [] σ) := np_call k112 rfl (Nat.le_add_left 1 _) rfl rfl h rfl h0 rfl
theorem e112_29 {ls : nv_Ls} {st : List Value} {σ : nv_St} {x : Int32} : np_X 112 29 ls (.int x :: st) σ = if x = 0 then np_X 112 42 ls st σ else np_X 112 32 ls st σ := np_br inferInstance k112 rfl rfl
theorem e112_32 {ls : nv_Ls} {σ : nv_St} : np_X 112 32 ls [] σ = some (.inr "java/lang/IllegalStateException", nv_bump σ) := np_thr k112 rfl
theorem e112_42 (x : Nat) {l1 : Option Value} {st : List Value} {σ : nv_St} : np_X 112 42 [some (.ref x), l1] st σ = np_X 112 43 [some (.ref x), l1] (.ref x :: st) σ := np_op k112 rfl rfl
theorem e112_42u  {l1 : Option Value} {st : List Value} {σ : nv_St} : np_X 112 42 [some .null, l1] st σ = np_X 112 43 [some .null, l1] (.null :: st) σ := np_op k112 rfl rfl
theorem e112_43 {ls : nv_Ls} {st : List Value} {σ : nv_St} {a : Nat} : np_X 112 43 ls (.ref a :: st) σ = np_b (nv_fld σ 5 4 a) (fun v => np_X 112 46 ls (v :: st) σ) := np_get k112 rfl
theorem e112_46 (x : Int32) {l0 : Option Value} {st : List Value} {σ : nv_St} : np_X 112 46 [l0, some (.int x)] st σ = np_X 112 47 [l0, some (.int x)] (.int x :: st) σ := np_op k112 rfl rfl
theorem e112_47 {ls : nv_Ls} {st : List Value} {σ : nv_St} {a : Nat} {x0 : Int32} (h : st.length ≤ 4) (h0 : nv_isO σ 1 a = true) : np_X 112 47 ls (.int x0 :: .ref a :: st) σ = np_aft 112 47 50 ls st (np_X 13 0 [some (.ref a), some (.int x0)] [] σ) := np_call k112 rfl (Nat.le_add_left 2 _) rfl rfl h rfl h0 rfl
theorem e112_50 {ls : nv_Ls} {σ : nv_St} {x : Int32} : np_X 112 50 ls [.int x] σ = some (.inl (some (.int x)), σ) := np_reti k112 rfl rfl
-- 113 SpoonNavy.run
theorem k113 : np_P.1 113 = np_c113 := rfl
theorem e113_0 (x : Nat) {l1 l2 : Option Value} {st : List Value} {σ : nv_St} : np_X 113 0 [some (.ref x), l1, l2] st σ = np_X 113 1 [some (.ref x), l1, l2] (.ref x :: st) σ := np_op k113 rfl rfl
theorem e113_0u  {l1 l2 : Option Value} {st : List Value} {σ : nv_St} : np_X 113 0 [some .null, l1, l2] st σ = np_X 113 1 [some .null, l1, l2] (.null :: st) σ := np_op k113 rfl rfl
theorem e113_1 {ls : nv_Ls} {st : List Value} {σ : nv_St} {a : Nat} : np_X 113 1 ls (.ref a :: st) σ = np_b (nv_fld σ 5 4 a) (fun v => np_X 113 4 ls (v :: st) σ) := np_get k113 rfl
theorem e113_4 {ls : nv_Ls} {st : List Value} {σ : nv_St} {a : Nat}  (h : st.length ≤ 4) (h0 : nv_isO σ 1 a = true) : np_X 113 4 ls (.ref a :: st) σ = np_aft 113 4 7 ls st (np_X 16 0 [some (.ref a), none] [] σ) := np_call k113 rfl (Nat.le_add_left 1 _) rfl rfl h rfl h0 rfl
theorem e113_7n (x : Int32) {l1 l2 : Option Value} {st : List Value} {σ : nv_St} : np_X 113 7 [none, l1, l2] (.int x :: st) σ = np_X 113 8 [none, some (.int x), l2] st σ := np_op k113 rfl rfl
theorem e113_7i (x : Int32) {z : Int32} {l1 l2 : Option Value} {st : List Value} {σ : nv_St} : np_X 113 7 [some (.int z), l1, l2] (.int x :: st) σ = np_X 113 8 [some (.int z), some (.int x), l2] st σ := np_op k113 rfl rfl
theorem e113_7r (x : Int32) {z : Nat} {l1 l2 : Option Value} {st : List Value} {σ : nv_St} : np_X 113 7 [some (.ref z), l1, l2] (.int x :: st) σ = np_X 113 8 [some (.ref z), some (.int x), l2] st σ := np_op k113 rfl rfl
theorem e113_7v (x : Int32) {l1 l2 : Option Value} {st : List Value} {σ : nv_St} : np_X 113 7 [some .null, l1, l2] (.int x :: st) σ = np_X 113 8 [some .null, some (.int x), l2] st σ := np_op k113 rfl rfl
theorem e113_8 (x : Int32) {l0 l2 : Option Value} {st : List Value} {σ : nv_St} : np_X 113 8 [l0, some (.int x), l2] st σ = np_X 113 9 [l0, some (.int x), l2] (.int x :: st) σ := np_op k113 rfl rfl
theorem e113_9 {ls : nv_Ls} {st : List Value} {σ : nv_St} : np_X 113 9 ls st σ = np_X 113 10 ls (.int (-1) :: st) σ := np_op k113 rfl rfl
theorem e113_10 {ls : nv_Ls} {st : List Value} {σ : nv_St} {x y : Int32} : np_X 113 10 ls (.int y :: .int x :: st) σ = if x = y then np_X 113 13 ls st σ else np_X 113 42 ls st σ := np_br inferInstance k113 rfl rfl
theorem e113_13 (x : Nat) {l1 l2 : Option Value} {st : List Value} {σ : nv_St} : np_X 113 13 [some (.ref x), l1, l2] st σ = np_X 113 14 [some (.ref x), l1, l2] (.ref x :: st) σ := np_op k113 rfl rfl
theorem e113_13u  {l1 l2 : Option Value} {st : List Value} {σ : nv_St} : np_X 113 13 [some .null, l1, l2] st σ = np_X 113 14 [some .null, l1, l2] (.null :: st) σ := np_op k113 rfl rfl
theorem e113_14 (x : Nat) {l1 l2 : Option Value} {st : List Value} {σ : nv_St} : np_X 113 14 [some (.ref x), l1, l2] st σ = np_X 113 15 [some (.ref x), l1, l2] (.ref x :: st) σ := np_op k113 rfl rfl
theorem e113_14u  {l1 l2 : Option Value} {st : List Value} {σ : nv_St} : np_X 113 14 [some .null, l1, l2] st σ = np_X 113 15 [some .null, l1, l2] (.null :: st) σ := np_op k113 rfl rfl
theorem e113_15 {ls : nv_Ls} {st : List Value} {σ : nv_St} {a : Nat} : np_X 113 15 ls (.ref a :: st) σ = np_b (nv_fld σ 5 4 a) (fun v => np_X 113 18 ls (v :: st) σ) := np_get k113 rfl
theorem e113_18 {ls : nv_Ls} {st : List Value} {σ : nv_St} {a : Nat} : np_X 113 18 ls (.ref a :: st) σ = np_b (nv_fld σ 1 3 a) (fun v => np_X 113 21 ls (v :: st) σ) := np_get k113 rfl
theorem e113_21 {ls : nv_Ls} {st : List Value} {σ : nv_St} {a : Nat} {v : Value} : np_X 113 21 ls (v :: .ref a :: st) σ = np_b (nv_sto σ 5 9 .int a v) (fun σ' => np_X 113 24 ls st σ') := np_put k113 rfl
theorem e113_24 (x : Nat) {l1 l2 : Option Value} {st : List Value} {σ : nv_St} : np_X 113 24 [some (.ref x), l1, l2] st σ = np_X 113 25 [some (.ref x), l1, l2] (.ref x :: st) σ := np_op k113 rfl rfl
theorem e113_24u  {l1 l2 : Option Value} {st : List Value} {σ : nv_St} : np_X 113 24 [some .null, l1, l2] st σ = np_X 113 25 [some .null, l1, l2] (.null :: st) σ := np_op k113 rfl rfl
theorem e113_25 {ls : nv_Ls} {st : List Value} {σ : nv_St} {a : Nat} : np_X 113 25 ls (.ref a :: st) σ = np_b (nv_fld σ 5 4 a) (fun v => np_X 113 28 ls (v :: st) σ) := np_get k113 rfl
theorem e113_28 {ls : nv_Ls} {st : List Value} {σ : nv_St} {a : Nat}  (h : st.length ≤ 4) (h0 : nv_isO σ 1 a = true) : np_X 113 28 ls (.ref a :: st) σ = np_aft 113 28 31 ls st (np_X 14 0 [some (.ref a)] [] σ) := np_call k113 rfl (Nat.le_add_left 1 _) rfl rfl h rfl h0 rfl
theorem e113_31 {ls : nv_Ls} {σ : nv_St} : np_X 113 31 ls [] σ = some (.inr "java/lang/IllegalArgumentException", nv_bump σ) := np_thr k113 rfl
theorem e113_42 (x : Nat) {l1 l2 : Option Value} {st : List Value} {σ : nv_St} : np_X 113 42 [some (.ref x), l1, l2] st σ = np_X 113 43 [some (.ref x), l1, l2] (.ref x :: st) σ := np_op k113 rfl rfl
theorem e113_42u  {l1 l2 : Option Value} {st : List Value} {σ : nv_St} : np_X 113 42 [some .null, l1, l2] st σ = np_X 113 43 [some .null, l1, l2] (.null :: st) σ := np_op k113 rfl rfl
theorem e113_43 {ls : nv_Ls} {st : List Value} {σ : nv_St} {a : Nat} : np_X 113 43 ls (.ref a :: st) σ = np_b (nv_fld σ 5 1 a) (fun v => np_X 113 46 ls (v :: st) σ) := np_get k113 rfl
theorem e113_46 (x : Nat) {l1 l2 : Option Value} {st : List Value} {σ : nv_St} : np_X 113 46 [some (.ref x), l1, l2] st σ = np_X 113 47 [some (.ref x), l1, l2] (.ref x :: st) σ := np_op k113 rfl rfl
theorem e113_46u  {l1 l2 : Option Value} {st : List Value} {σ : nv_St} : np_X 113 46 [some .null, l1, l2] st σ = np_X 113 47 [some .null, l1, l2] (.null :: st) σ := np_op k113 rfl rfl
theorem e113_47 {ls : nv_Ls} {st : List Value} {σ : nv_St} {a : Nat} : np_X 113 47 ls (.ref a :: st) σ = np_b (nv_fld σ 5 0 a) (fun v => np_X 113 50 ls (v :: st) σ) := np_get k113 rfl
theorem e113_50 {ls : nv_Ls} {st : List Value} {σ : nv_St} {a : Nat} {x0 : Nat} (h : st.length ≤ 4) (h0 : nv_isO σ 2 a = true) : np_X 113 50 ls (.ref x0 :: .ref a :: st) σ = np_aft 113 50 53 ls st (np_X 27 0 [some (.ref a), some (.ref x0), none] [] σ) := np_call k113 rfl (Nat.le_add_left 2 _) rfl rfl h rfl h0 rfl
theorem e113_53 (x : Nat) {l1 l2 : Option Value} {st : List Value} {σ : nv_St} : np_X 113 53 [some (.ref x), l1, l2] st σ = np_X 113 54 [some (.ref x), l1, l2] (.ref x :: st) σ := np_op k113 rfl rfl
theorem e113_53u  {l1 l2 : Option Value} {st : List Value} {σ : nv_St} : np_X 113 53 [some .null, l1, l2] st σ = np_X 113 54 [some .null, l1, l2] (.null :: st) σ := np_op k113 rfl rfl
theorem e113_54 (x : Int32) {l0 l2 : Option Value} {st : List Value} {σ : nv_St} : np_X 113 54 [l0, some (.int x), l2] st σ = np_X 113 55 [l0, some (.int x), l2] (.int x :: st) σ := np_op k113 rfl rfl
theorem e113_55 {ls : nv_Ls} {st : List Value} {σ : nv_St} {a : Nat} {x0 : Int32} (h : st.length ≤ 4) (h0 : nv_isO σ 5 a = true) : np_X 113 55 ls (.int x0 :: .ref a :: st) σ = np_aft 113 55 58 ls st (np_X 125 0 [some (.ref a), some (.int x0), none, none] [] σ) := np_call k113 rfl (Nat.le_add_left 2 _) rfl rfl h rfl h0 rfl
theorem e113_58n (x : Int32) {l0 l2 : Option Value} {st : List Value} {σ : nv_St} : np_X 113 58 [l0, none, l2] (.int x :: st) σ = np_X 113 59 [l0, none, some (.int x)] st σ := np_op k113 rfl rfl
theorem e113_58i (x : Int32) {z : Int32} {l0 l2 : Option Value} {st : List Value} {σ : nv_St} : np_X 113 58 [l0, some (.int z), l2] (.int x :: st) σ = np_X 113 59 [l0, some (.int z), some (.int x)] st σ := np_op k113 rfl rfl
theorem e113_58r (x : Int32) {z : Nat} {l0 l2 : Option Value} {st : List Value} {σ : nv_St} : np_X 113 58 [l0, some (.ref z), l2] (.int x :: st) σ = np_X 113 59 [l0, some (.ref z), some (.int x)] st σ := np_op k113 rfl rfl
theorem e113_58v (x : Int32) {l0 l2 : Option Value} {st : List Value} {σ : nv_St} : np_X 113 58 [l0, some .null, l2] (.int x :: st) σ = np_X 113 59 [l0, some .null, some (.int x)] st σ := np_op k113 rfl rfl
theorem e113_59 (x : Nat) {l1 l2 : Option Value} {st : List Value} {σ : nv_St} : np_X 113 59 [some (.ref x), l1, l2] st σ = np_X 113 60 [some (.ref x), l1, l2] (.ref x :: st) σ := np_op k113 rfl rfl
theorem e113_59u  {l1 l2 : Option Value} {st : List Value} {σ : nv_St} : np_X 113 59 [some .null, l1, l2] st σ = np_X 113 60 [some .null, l1, l2] (.null :: st) σ := np_op k113 rfl rfl
theorem e113_60 {ls : nv_Ls} {st : List Value} {σ : nv_St} {a : Nat} : np_X 113 60 ls (.ref a :: st) σ = np_b (nv_fld σ 5 4 a) (fun v => np_X 113 63 ls (v :: st) σ) := np_get k113 rfl
theorem e113_63 {ls : nv_Ls} {st : List Value} {σ : nv_St} {a : Nat}  (h : st.length ≤ 4) (h0 : nv_isO σ 1 a = true) : np_X 113 63 ls (.ref a :: st) σ = np_aft 113 63 66 ls st (np_X 14 0 [some (.ref a)] [] σ) := np_call k113 rfl (Nat.le_add_left 1 _) rfl rfl h rfl h0 rfl
theorem e113_66 (x : Int32) {l0 l1 : Option Value} {st : List Value} {σ : nv_St} : np_X 113 66 [l0, l1, some (.int x)] st σ = np_X 113 67 [l0, l1, some (.int x)] (.int x :: st) σ := np_op k113 rfl rfl
theorem e113_67 {ls : nv_Ls} {st : List Value} {σ : nv_St} : np_X 113 67 ls st σ = np_X 113 68 ls (.int (-1) :: st) σ := np_op k113 rfl rfl
theorem e113_68 {ls : nv_Ls} {st : List Value} {σ : nv_St} {x y : Int32} : np_X 113 68 ls (.int y :: .int x :: st) σ = if x = y then np_X 113 98 ls st σ else np_X 113 71 ls st σ := np_br inferInstance k113 rfl rfl
theorem e113_71 (x : Nat) {l1 l2 : Option Value} {st : List Value} {σ : nv_St} : np_X 113 71 [some (.ref x), l1, l2] st σ = np_X 113 72 [some (.ref x), l1, l2] (.ref x :: st) σ := np_op k113 rfl rfl
theorem e113_71u  {l1 l2 : Option Value} {st : List Value} {σ : nv_St} : np_X 113 71 [some .null, l1, l2] st σ = np_X 113 72 [some .null, l1, l2] (.null :: st) σ := np_op k113 rfl rfl
theorem e113_72 (x : Int32) {l0 l1 : Option Value} {st : List Value} {σ : nv_St} : np_X 113 72 [l0, l1, some (.int x)] st σ = np_X 113 73 [l0, l1, some (.int x)] (.int x :: st) σ := np_op k113 rfl rfl
theorem e113_73 {ls : nv_Ls} {st : List Value} {σ : nv_St} {a : Nat} {v : Value} : np_X 113 73 ls (v :: .ref a :: st) σ = np_b (nv_sto σ 5 10 .int a v) (fun σ' => np_X 113 76 ls st σ') := np_put k113 rfl
theorem e113_76 (x : Nat) {l1 l2 : Option Value} {st : List Value} {σ : nv_St} : np_X 113 76 [some (.ref x), l1, l2] st σ = np_X 113 77 [some (.ref x), l1, l2] (.ref x :: st) σ := np_op k113 rfl rfl
theorem e113_76u  {l1 l2 : Option Value} {st : List Value} {σ : nv_St} : np_X 113 76 [some .null, l1, l2] st σ = np_X 113 77 [some .null, l1, l2] (.null :: st) σ := np_op k113 rfl rfl
theorem e113_77 {ls : nv_Ls} {st : List Value} {σ : nv_St} {a : Nat} : np_X 113 77 ls (.ref a :: st) σ = np_b (nv_fld σ 5 0 a) (fun v => np_X 113 80 ls (v :: st) σ) := np_get k113 rfl
theorem e113_80 (x : Nat) {l1 l2 : Option Value} {st : List Value} {σ : nv_St} : np_X 113 80 [some (.ref x), l1, l2] st σ = np_X 113 81 [some (.ref x), l1, l2] (.ref x :: st) σ := np_op k113 rfl rfl
theorem e113_80u  {l1 l2 : Option Value} {st : List Value} {σ : nv_St} : np_X 113 80 [some .null, l1, l2] st σ = np_X 113 81 [some .null, l1, l2] (.null :: st) σ := np_op k113 rfl rfl
theorem e113_81 {ls : nv_Ls} {st : List Value} {σ : nv_St} {a : Nat} : np_X 113 81 ls (.ref a :: st) σ = np_b (nv_fld σ 5 1 a) (fun v => np_X 113 84 ls (v :: st) σ) := np_get k113 rfl
theorem e113_84 {ls : nv_Ls} {st : List Value} {σ : nv_St} {a : Nat} {x0 : Nat} (h : st.length ≤ 4) (h0 : nv_isO σ 2 a = true) : np_X 113 84 ls (.ref x0 :: .ref a :: st) σ = np_aft 113 84 87 ls st (np_X 27 0 [some (.ref a), some (.ref x0), none] [] σ) := np_call k113 rfl (Nat.le_add_left 2 _) rfl rfl h rfl h0 rfl
theorem e113_87 {ls : nv_Ls} {σ : nv_St} : np_X 113 87 ls [] σ = some (.inr "java/lang/IllegalStateException", nv_bump σ) := np_thr k113 rfl
theorem e113_98 (x : Nat) {l1 l2 : Option Value} {st : List Value} {σ : nv_St} : np_X 113 98 [some (.ref x), l1, l2] st σ = np_X 113 99 [some (.ref x), l1, l2] (.ref x :: st) σ := np_op k113 rfl rfl
theorem e113_98u  {l1 l2 : Option Value} {st : List Value} {σ : nv_St} : np_X 113 98 [some .null, l1, l2] st σ = np_X 113 99 [some .null, l1, l2] (.null :: st) σ := np_op k113 rfl rfl
theorem e113_99 {ls : nv_Ls} {st : List Value} {σ : nv_St} {a : Nat} : np_X 113 99 ls (.ref a :: st) σ = np_b (nv_fld σ 5 3 a) (fun v => np_X 113 102 ls (v :: st) σ) := np_get k113 rfl
theorem e113_102 (x : Nat) {l1 l2 : Option Value} {st : List Value} {σ : nv_St} : np_X 113 102 [some (.ref x), l1, l2] st σ = np_X 113 103 [some (.ref x), l1, l2] (.ref x :: st) σ := np_op k113 rfl rfl
theorem e113_102u  {l1 l2 : Option Value} {st : List Value} {σ : nv_St} : np_X 113 102 [some .null, l1, l2] st σ = np_X 113 103 [some .null, l1, l2] (.null :: st) σ := np_op k113 rfl rfl
theorem e113_103 {ls : nv_Ls} {st : List Value} {σ : nv_St} {a : Nat} : np_X 113 103 ls (.ref a :: st) σ = np_b (nv_fld σ 5 1 a) (fun v => np_X 113 106 ls (v :: st) σ) := np_get k113 rfl
theorem e113_106 {ls : nv_Ls} {st : List Value} {σ : nv_St} {a : Nat} {x0 : Nat} (h : st.length ≤ 4) (h0 : nv_isO σ 3 a = true) : np_X 113 106 ls (.ref x0 :: .ref a :: st) σ = np_aft 113 106 109 ls st (np_X 57 0 [some (.ref a), some (.ref x0)] [] σ) := np_call k113 rfl (Nat.le_add_left 2 _) rfl rfl h rfl h0 rfl
theorem e113_109 (x : Int32) {l0 l2 : Option Value} {st : List Value} {σ : nv_St} : np_X 113 109 [l0, some (.int x), l2] st σ = np_X 113 110 [l0, some (.int x), l2] (.int x :: st) σ := np_op k113 rfl rfl
theorem e113_110 {ls : nv_Ls} {σ : nv_St} {x : Int32} : np_X 113 110 ls [.int x] σ = some (.inl (some (.int x)), σ) := np_reti k113 rfl rfl
-- 114 SpoonNavy.failedCommand
theorem k114 : np_P.1 114 = np_c114 := rfl
theorem e114_0 (x : Nat) {st : List Value} {σ : nv_St} : np_X 114 0 [some (.ref x)] st σ = np_X 114 1 [some (.ref x)] (.ref x :: st) σ := np_op k114 rfl rfl
theorem e114_0u  {st : List Value} {σ : nv_St} : np_X 114 0 [some .null] st σ = np_X 114 1 [some .null] (.null :: st) σ := np_op k114 rfl rfl
theorem e114_1 {ls : nv_Ls} {st : List Value} {σ : nv_St} {a : Nat} : np_X 114 1 ls (.ref a :: st) σ = np_b (nv_fld σ 5 10 a) (fun v => np_X 114 4 ls (v :: st) σ) := np_get k114 rfl
theorem e114_4 {ls : nv_Ls} {st : List Value} {σ : nv_St} : np_X 114 4 ls st σ = np_X 114 5 ls (.int (-1) :: st) σ := np_op k114 rfl rfl
theorem e114_5 {ls : nv_Ls} {st : List Value} {σ : nv_St} {x y : Int32} : np_X 114 5 ls (.int y :: .int x :: st) σ = if x = y then np_X 114 8 ls st σ else np_X 114 19 ls st σ := np_br inferInstance k114 rfl rfl
theorem e114_8 {ls : nv_Ls} {σ : nv_St} : np_X 114 8 ls [] σ = some (.inr "java/util/NoSuchElementException", nv_bump σ) := np_thr k114 rfl
theorem e114_19 (x : Nat) {st : List Value} {σ : nv_St} : np_X 114 19 [some (.ref x)] st σ = np_X 114 20 [some (.ref x)] (.ref x :: st) σ := np_op k114 rfl rfl
theorem e114_19u  {st : List Value} {σ : nv_St} : np_X 114 19 [some .null] st σ = np_X 114 20 [some .null] (.null :: st) σ := np_op k114 rfl rfl
theorem e114_20 {ls : nv_Ls} {st : List Value} {σ : nv_St} {a : Nat} : np_X 114 20 ls (.ref a :: st) σ = np_b (nv_fld σ 5 10 a) (fun v => np_X 114 23 ls (v :: st) σ) := np_get k114 rfl
theorem e114_23 {ls : nv_Ls} {σ : nv_St} {x : Int32} : np_X 114 23 ls [.int x] σ = some (.inl (some (.int x)), σ) := np_reti k114 rfl rfl
-- 115 SpoonNavy.describeRow
theorem k115 : np_P.1 115 = np_c115 := rfl
theorem e115_0 {ls : nv_Ls} {st : List Value} {σ : nv_St} : np_X 115 0 ls st σ = np_X 115 1 ls (.int (0) :: st) σ := np_op k115 rfl rfl
theorem e115_1 (x : Int32) {l0 l2 l3 : Option Value} {st : List Value} {σ : nv_St} : np_X 115 1 [l0, some (.int x), l2, l3] st σ = np_X 115 2 [l0, some (.int x), l2, l3] (.int x :: st) σ := np_op k115 rfl rfl
theorem e115_2 {ls : nv_Ls} {st : List Value} {σ : nv_St}  {x0 : Int32} {x1 : Int32} (h : st.length ≤ 4) : np_X 115 2 ls (.int x1 :: .int x0 :: st) σ = np_aft 115 2 5 ls st (np_X 131 0 [some (.int x0), some (.int x1)] [] σ) := np_call k115 rfl (Nat.le_add_left 2 _) rfl rfl h rfl rfl rfl
theorem e115_5 {ls : nv_Ls} {st : List Value} {σ : nv_St} : np_X 115 5 ls st σ = np_X 115 6 ls (.int (0) :: st) σ := np_op k115 rfl rfl
theorem e115_6n (x : Int32) {l0 l2 l3 : Option Value} {st : List Value} {σ : nv_St} : np_X 115 6 [l0, none, l2, l3] (.int x :: st) σ = np_X 115 7 [l0, none, some (.int x), l3] st σ := np_op k115 rfl rfl
theorem e115_6i (x : Int32) {z : Int32} {l0 l2 l3 : Option Value} {st : List Value} {σ : nv_St} : np_X 115 6 [l0, some (.int z), l2, l3] (.int x :: st) σ = np_X 115 7 [l0, some (.int z), some (.int x), l3] st σ := np_op k115 rfl rfl
theorem e115_6r (x : Int32) {z : Nat} {l0 l2 l3 : Option Value} {st : List Value} {σ : nv_St} : np_X 115 6 [l0, some (.ref z), l2, l3] (.int x :: st) σ = np_X 115 7 [l0, some (.ref z), some (.int x), l3] st σ := np_op k115 rfl rfl
theorem e115_6v (x : Int32) {l0 l2 l3 : Option Value} {st : List Value} {σ : nv_St} : np_X 115 6 [l0, some .null, l2, l3] (.int x :: st) σ = np_X 115 7 [l0, some .null, some (.int x), l3] st σ := np_op k115 rfl rfl
theorem e115_7 (x : Int32) {l0 l1 l3 : Option Value} {st : List Value} {σ : nv_St} : np_X 115 7 [l0, l1, some (.int x), l3] st σ = np_X 115 8 [l0, l1, some (.int x), l3] (.int x :: st) σ := np_op k115 rfl rfl
theorem e115_8 (x : Nat) {l1 l2 l3 : Option Value} {st : List Value} {σ : nv_St} : np_X 115 8 [some (.ref x), l1, l2, l3] st σ = np_X 115 9 [some (.ref x), l1, l2, l3] (.ref x :: st) σ := np_op k115 rfl rfl
theorem e115_8u  {l1 l2 l3 : Option Value} {st : List Value} {σ : nv_St} : np_X 115 8 [some .null, l1, l2, l3] st σ = np_X 115 9 [some .null, l1, l2, l3] (.null :: st) σ := np_op k115 rfl rfl
theorem e115_9 {ls : nv_Ls} {st : List Value} {σ : nv_St} {a : Nat} : np_X 115 9 ls (.ref a :: st) σ = np_b (nv_fld σ 5 5 a) (fun v => np_X 115 12 ls (v :: st) σ) := np_get k115 rfl
theorem e115_12 {ls : nv_Ls} {st : List Value} {σ : nv_St} {a : Nat} : np_X 115 12 ls (.ref a :: st) σ = np_b (nv_len σ 0 a) (fun m => np_X 115 13 ls (.int (Int32.ofNat m) :: st) σ) := np_alen k115 rfl
theorem e115_13 {ls : nv_Ls} {st : List Value} {σ : nv_St} {x y : Int32} : np_X 115 13 ls (.int y :: .int x :: st) σ = if x < y then np_X 115 16 ls st σ else np_X 115 51 ls st σ := np_br inferInstance k115 rfl rfl
theorem e115_16 (x : Nat) {l1 l2 l3 : Option Value} {st : List Value} {σ : nv_St} : np_X 115 16 [some (.ref x), l1, l2, l3] st σ = np_X 115 17 [some (.ref x), l1, l2, l3] (.ref x :: st) σ := np_op k115 rfl rfl
theorem e115_16u  {l1 l2 l3 : Option Value} {st : List Value} {σ : nv_St} : np_X 115 16 [some .null, l1, l2, l3] st σ = np_X 115 17 [some .null, l1, l2, l3] (.null :: st) σ := np_op k115 rfl rfl
theorem e115_17 {ls : nv_Ls} {st : List Value} {σ : nv_St} {a : Nat} : np_X 115 17 ls (.ref a :: st) σ = np_b (nv_fld σ 5 0 a) (fun v => np_X 115 20 ls (v :: st) σ) := np_get k115 rfl
theorem e115_20 (x : Int32) {l0 l1 l3 : Option Value} {st : List Value} {σ : nv_St} : np_X 115 20 [l0, l1, some (.int x), l3] st σ = np_X 115 21 [l0, l1, some (.int x), l3] (.int x :: st) σ := np_op k115 rfl rfl
theorem e115_21 (x : Int32) {l0 l2 l3 : Option Value} {st : List Value} {σ : nv_St} : np_X 115 21 [l0, some (.int x), l2, l3] st σ = np_X 115 22 [l0, some (.int x), l2, l3] (.int x :: st) σ := np_op k115 rfl rfl
theorem e115_22 {ls : nv_Ls} {st : List Value} {σ : nv_St} {a : Nat} {x0 : Int32} {x1 : Int32} (h : st.length ≤ 4) (h0 : nv_isO σ 2 a = true) : np_X 115 22 ls (.int x1 :: .int x0 :: .ref a :: st) σ = np_aft 115 22 25 ls st (np_X 32 0 [some (.ref a), some (.int x0), some (.int x1), none, none, none, none] [] σ) := np_call k115 rfl (Nat.le_add_left 3 _) rfl rfl h rfl h0 rfl
theorem e115_25n (x : Nat) {l0 l1 l3 : Option Value} {st : List Value} {σ : nv_St} : np_X 115 25 [l0, l1, none, l3] (.ref x :: st) σ = np_X 115 26 [l0, l1, none, some (.ref x)] st σ := np_op k115 rfl rfl
theorem e115_25i (x : Nat) {z : Int32} {l0 l1 l3 : Option Value} {st : List Value} {σ : nv_St} : np_X 115 25 [l0, l1, some (.int z), l3] (.ref x :: st) σ = np_X 115 26 [l0, l1, some (.int z), some (.ref x)] st σ := np_op k115 rfl rfl
theorem e115_25r (x : Nat) {z : Nat} {l0 l1 l3 : Option Value} {st : List Value} {σ : nv_St} : np_X 115 25 [l0, l1, some (.ref z), l3] (.ref x :: st) σ = np_X 115 26 [l0, l1, some (.ref z), some (.ref x)] st σ := np_op k115 rfl rfl
theorem e115_25v (x : Nat) {l0 l1 l3 : Option Value} {st : List Value} {σ : nv_St} : np_X 115 25 [l0, l1, some .null, l3] (.ref x :: st) σ = np_X 115 26 [l0, l1, some .null, some (.ref x)] st σ := np_op k115 rfl rfl
theorem e115_25un  {l0 l1 l3 : Option Value} {st : List Value} {σ : nv_St} : np_X 115 25 [l0, l1, none, l3] (.null :: st) σ = np_X 115 26 [l0, l1, none, some .null] st σ := np_op k115 rfl rfl
theorem e115_25ui  {z : Int32} {l0 l1 l3 : Option Value} {st : List Value} {σ : nv_St} : np_X 115 25 [l0, l1, some (.int z), l3] (.null :: st) σ = np_X 115 26 [l0, l1, some (.int z), some .null] st σ := np_op k115 rfl rfl
theorem e115_25ur  {z : Nat} {l0 l1 l3 : Option Value} {st : List Value} {σ : nv_St} : np_X 115 25 [l0, l1, some (.ref z), l3] (.null :: st) σ = np_X 115 26 [l0, l1, some (.ref z), some .null] st σ := np_op k115 rfl rfl
theorem e115_25uv  {l0 l1 l3 : Option Value} {st : List Value} {σ : nv_St} : np_X 115 25 [l0, l1, some .null, l3] (.null :: st) σ = np_X 115 26 [l0, l1, some .null, some .null] st σ := np_op k115 rfl rfl
theorem e115_26 (x : Nat) {l1 l2 l3 : Option Value} {st : List Value} {σ : nv_St} : np_X 115 26 [some (.ref x), l1, l2, l3] st σ = np_X 115 27 [some (.ref x), l1, l2, l3] (.ref x :: st) σ := np_op k115 rfl rfl
theorem e115_26u  {l1 l2 l3 : Option Value} {st : List Value} {σ : nv_St} : np_X 115 26 [some .null, l1, l2, l3] st σ = np_X 115 27 [some .null, l1, l2, l3] (.null :: st) σ := np_op k115 rfl rfl
theorem e115_27 {ls : nv_Ls} {st : List Value} {σ : nv_St} {a : Nat} : np_X 115 27 ls (.ref a :: st) σ = np_b (nv_fld σ 5 5 a) (fun v => np_X 115 30 ls (v :: st) σ) := np_get k115 rfl
theorem e115_30 (x : Int32) {l0 l1 l3 : Option Value} {st : List Value} {σ : nv_St} : np_X 115 30 [l0, l1, some (.int x), l3] st σ = np_X 115 31 [l0, l1, some (.int x), l3] (.int x :: st) σ := np_op k115 rfl rfl
theorem e115_31 (x : Nat) {l0 l1 l2 : Option Value} {st : List Value} {σ : nv_St} : np_X 115 31 [l0, l1, l2, some (.ref x)] st σ = np_X 115 32 [l0, l1, l2, some (.ref x)] (.ref x :: st) σ := np_op k115 rfl rfl
theorem e115_31u  {l0 l1 l2 : Option Value} {st : List Value} {σ : nv_St} : np_X 115 31 [l0, l1, l2, some .null] st σ = np_X 115 32 [l0, l1, l2, some .null] (.null :: st) σ := np_op k115 rfl rfl
theorem e115_32 {ls : nv_Ls} {st : List Value} {σ : nv_St} {a : Nat} (h : a < 1000000) : np_X 115 32 ls (.ref a :: st) σ = np_X 115 40 ls st σ := np_ifnonnull k115 rfl h
theorem e115_32u {ls : nv_Ls} {st : List Value} {σ : nv_St} : np_X 115 32 ls (.null :: st) σ = np_X 115 35 ls st σ := np_op k115 rfl rfl
theorem e115_35 {ls : nv_Ls} {st : List Value} {σ : nv_St} : np_X 115 35 ls st σ = np_X 115 37 ls (.int (46) :: st) σ := np_op k115 rfl rfl
theorem e115_37 {ls : nv_Ls} {st : List Value} {σ : nv_St} : np_X 115 37 ls st σ = np_X 115 44 ls st σ := np_op k115 rfl rfl
theorem e115_40 (x : Nat) {l0 l1 l2 : Option Value} {st : List Value} {σ : nv_St} : np_X 115 40 [l0, l1, l2, some (.ref x)] st σ = np_X 115 41 [l0, l1, l2, some (.ref x)] (.ref x :: st) σ := np_op k115 rfl rfl
theorem e115_40u  {l0 l1 l2 : Option Value} {st : List Value} {σ : nv_St} : np_X 115 40 [l0, l1, l2, some .null] st σ = np_X 115 41 [l0, l1, l2, some .null] (.null :: st) σ := np_op k115 rfl rfl
theorem e115_41 {ls : nv_Ls} {st : List Value} {σ : nv_St} {a : Nat}  (h : st.length ≤ 4) (h0 : nv_isO σ 4 a = true) : np_X 115 41 ls (.ref a :: st) σ = np_aft 115 41 44 ls st (np_X 70 0 [some (.ref a)] [] σ) := np_call k115 rfl (Nat.le_add_left 1 _) rfl rfl h rfl h0 rfl
theorem e115_44 {ls : nv_Ls} {st : List Value} {σ : nv_St} {a : Nat} {x v : Int32} : np_X 115 44 ls (.int v :: .int x :: .ref a :: st) σ = np_b (nv_wri σ 0 a x (vp_nar .char v)) (fun σ' => np_X 115 45 ls st σ') := np_cast k115 rfl
theorem e115_45n (x : Int32) {l0 l3 : Option Value} {st : List Value} {σ : nv_St} : np_X 115 45 [l0, none, some (.int x), l3] st σ = np_X 115 48 [l0, none, some (.int (x + (1))), l3] st σ := np_op k115 rfl rfl
theorem e115_45i (x : Int32) {z : Int32} {l0 l3 : Option Value} {st : List Value} {σ : nv_St} : np_X 115 45 [l0, some (.int z), some (.int x), l3] st σ = np_X 115 48 [l0, some (.int z), some (.int (x + (1))), l3] st σ := np_op k115 rfl rfl
theorem e115_45r (x : Int32) {z : Nat} {l0 l3 : Option Value} {st : List Value} {σ : nv_St} : np_X 115 45 [l0, some (.ref z), some (.int x), l3] st σ = np_X 115 48 [l0, some (.ref z), some (.int (x + (1))), l3] st σ := np_op k115 rfl rfl
theorem e115_45v (x : Int32) {l0 l3 : Option Value} {st : List Value} {σ : nv_St} : np_X 115 45 [l0, some .null, some (.int x), l3] st σ = np_X 115 48 [l0, some .null, some (.int (x + (1))), l3] st σ := np_op k115 rfl rfl
theorem e115_48 {ls : nv_Ls} {st : List Value} {σ : nv_St} : np_X 115 48 ls st σ = np_X 115 7 ls st σ := np_op k115 rfl rfl
theorem e115_51 (x : Nat) {l1 l2 l3 : Option Value} {st : List Value} {σ : nv_St} : np_X 115 51 [some (.ref x), l1, l2, l3] st σ = np_X 115 52 [some (.ref x), l1, l2, l3] (.ref x :: st) σ := np_op k115 rfl rfl
theorem e115_51u  {l1 l2 l3 : Option Value} {st : List Value} {σ : nv_St} : np_X 115 51 [some .null, l1, l2, l3] st σ = np_X 115 52 [some .null, l1, l2, l3] (.null :: st) σ := np_op k115 rfl rfl
theorem e115_52 (x : Nat) {l1 l2 l3 : Option Value} {st : List Value} {σ : nv_St} : np_X 115 52 [some (.ref x), l1, l2, l3] st σ = np_X 115 53 [some (.ref x), l1, l2, l3] (.ref x :: st) σ := np_op k115 rfl rfl
theorem e115_52u  {l1 l2 l3 : Option Value} {st : List Value} {σ : nv_St} : np_X 115 52 [some .null, l1, l2, l3] st σ = np_X 115 53 [some .null, l1, l2, l3] (.null :: st) σ := np_op k115 rfl rfl
theorem e115_53 {ls : nv_Ls} {st : List Value} {σ : nv_St} {a : Nat} : np_X 115 53 ls (.ref a :: st) σ = np_b (nv_fld σ 5 5 a) (fun v => np_X 115 56 ls (v :: st) σ) := np_get k115 rfl
theorem e115_56 {ls : nv_Ls} {st : List Value} {σ : nv_St} {a : Nat} : np_X 115 56 ls (.ref a :: st) σ = np_b (nv_len σ 0 a) (fun m => np_X 115 57 ls (.int (Int32.ofNat m) :: st) σ) := np_alen k115 rfl
theorem e115_57 {ls : nv_Ls} {st : List Value} {σ : nv_St} {a : Nat} {v : Value} : np_X 115 57 ls (v :: .ref a :: st) σ = np_b (nv_sto σ 5 6 .int a v) (fun σ' => np_X 115 60 ls st σ') := np_put k115 rfl
theorem e115_60 (x : Nat) {l1 l2 l3 : Option Value} {st : List Value} {σ : nv_St} : np_X 115 60 [some (.ref x), l1, l2, l3] st σ = np_X 115 61 [some (.ref x), l1, l2, l3] (.ref x :: st) σ := np_op k115 rfl rfl
theorem e115_60u  {l1 l2 l3 : Option Value} {st : List Value} {σ : nv_St} : np_X 115 60 [some .null, l1, l2, l3] st σ = np_X 115 61 [some .null, l1, l2, l3] (.null :: st) σ := np_op k115 rfl rfl
theorem e115_61 {ls : nv_Ls} {st : List Value} {σ : nv_St} {a : Nat} : np_X 115 61 ls (.ref a :: st) σ = np_b (nv_fld σ 5 6 a) (fun v => np_X 115 64 ls (v :: st) σ) := np_get k115 rfl
theorem e115_64 {ls : nv_Ls} {σ : nv_St} {x : Int32} : np_X 115 64 ls [.int x] σ = some (.inl (some (.int x)), σ) := np_reti k115 rfl rfl
-- 116 SpoonNavy.lineAt
theorem k116 : np_P.1 116 = np_c116 := rfl
theorem e116_0 (x : Int32) {l0 : Option Value} {st : List Value} {σ : nv_St} : np_X 116 0 [l0, some (.int x)] st σ = np_X 116 1 [l0, some (.int x)] (.int x :: st) σ := np_op k116 rfl rfl
theorem e116_1 {ls : nv_Ls} {st : List Value} {σ : nv_St} {x : Int32} : np_X 116 1 ls (.int x :: st) σ = if x < 0 then np_X 116 21 ls st σ else np_X 116 4 ls st σ := np_br inferInstance k116 rfl rfl
theorem e116_4 (x : Int32) {l0 : Option Value} {st : List Value} {σ : nv_St} : np_X 116 4 [l0, some (.int x)] st σ = np_X 116 5 [l0, some (.int x)] (.int x :: st) σ := np_op k116 rfl rfl
theorem e116_5 (x : Nat) {l1 : Option Value} {st : List Value} {σ : nv_St} : np_X 116 5 [some (.ref x), l1] st σ = np_X 116 6 [some (.ref x), l1] (.ref x :: st) σ := np_op k116 rfl rfl
theorem e116_5u  {l1 : Option Value} {st : List Value} {σ : nv_St} : np_X 116 5 [some .null, l1] st σ = np_X 116 6 [some .null, l1] (.null :: st) σ := np_op k116 rfl rfl
theorem e116_6 {ls : nv_Ls} {st : List Value} {σ : nv_St} {a : Nat} : np_X 116 6 ls (.ref a :: st) σ = np_b (nv_fld σ 5 6 a) (fun v => np_X 116 9 ls (v :: st) σ) := np_get k116 rfl
theorem e116_9 {ls : nv_Ls} {st : List Value} {σ : nv_St} {x y : Int32} : np_X 116 9 ls (.int y :: .int x :: st) σ = if x < y then np_X 116 12 ls st σ else np_X 116 21 ls st σ := np_br inferInstance k116 rfl rfl
theorem e116_12 (x : Int32) {l0 : Option Value} {st : List Value} {σ : nv_St} : np_X 116 12 [l0, some (.int x)] st σ = np_X 116 13 [l0, some (.int x)] (.int x :: st) σ := np_op k116 rfl rfl
theorem e116_13 (x : Nat) {l1 : Option Value} {st : List Value} {σ : nv_St} : np_X 116 13 [some (.ref x), l1] st σ = np_X 116 14 [some (.ref x), l1] (.ref x :: st) σ := np_op k116 rfl rfl
theorem e116_13u  {l1 : Option Value} {st : List Value} {σ : nv_St} : np_X 116 13 [some .null, l1] st σ = np_X 116 14 [some .null, l1] (.null :: st) σ := np_op k116 rfl rfl
theorem e116_14 {ls : nv_Ls} {st : List Value} {σ : nv_St} {a : Nat} : np_X 116 14 ls (.ref a :: st) σ = np_b (nv_fld σ 5 5 a) (fun v => np_X 116 17 ls (v :: st) σ) := np_get k116 rfl
theorem e116_17 {ls : nv_Ls} {st : List Value} {σ : nv_St} {a : Nat} : np_X 116 17 ls (.ref a :: st) σ = np_b (nv_len σ 0 a) (fun m => np_X 116 18 ls (.int (Int32.ofNat m) :: st) σ) := np_alen k116 rfl
theorem e116_18 {ls : nv_Ls} {st : List Value} {σ : nv_St} {x y : Int32} : np_X 116 18 ls (.int y :: .int x :: st) σ = if x < y then np_X 116 32 ls st σ else np_X 116 21 ls st σ := np_br inferInstance k116 rfl rfl
theorem e116_21 {ls : nv_Ls} {σ : nv_St} : np_X 116 21 ls [] σ = some (.inr "java/lang/IndexOutOfBoundsException", nv_bump σ) := np_thr k116 rfl
theorem e116_32 (x : Nat) {l1 : Option Value} {st : List Value} {σ : nv_St} : np_X 116 32 [some (.ref x), l1] st σ = np_X 116 33 [some (.ref x), l1] (.ref x :: st) σ := np_op k116 rfl rfl
theorem e116_32u  {l1 : Option Value} {st : List Value} {σ : nv_St} : np_X 116 32 [some .null, l1] st σ = np_X 116 33 [some .null, l1] (.null :: st) σ := np_op k116 rfl rfl
theorem e116_33 {ls : nv_Ls} {st : List Value} {σ : nv_St} {a : Nat} : np_X 116 33 ls (.ref a :: st) σ = np_b (nv_fld σ 5 5 a) (fun v => np_X 116 36 ls (v :: st) σ) := np_get k116 rfl
theorem e116_36 (x : Int32) {l0 : Option Value} {st : List Value} {σ : nv_St} : np_X 116 36 [l0, some (.int x)] st σ = np_X 116 37 [l0, some (.int x)] (.int x :: st) σ := np_op k116 rfl rfl
theorem e116_37 {ls : nv_Ls} {st : List Value} {σ : nv_St} {a : Nat} {x : Int32} : np_X 116 37 ls (.int x :: .ref a :: st) σ = np_b (nv_rdi σ 0 a x) (fun v => np_X 116 38 ls (.int v :: st) σ) := np_aldi k116 rfl
theorem e116_38 {ls : nv_Ls} {σ : nv_St} {x : Int32} (h : narrow .char (.int x) = .int x) : np_X 116 38 ls [.int x] σ = some (.inl (some (.int x)), σ) := np_reti k116 rfl h
-- 117 SpoonNavy.hitShare
theorem k117 : np_P.1 117 = np_c117 := rfl
theorem e117_0 (x : Nat) {st : List Value} {σ : nv_St} : np_X 117 0 [some (.ref x)] st σ = np_X 117 1 [some (.ref x)] (.ref x :: st) σ := np_op k117 rfl rfl
theorem e117_0u  {st : List Value} {σ : nv_St} : np_X 117 0 [some .null] st σ = np_X 117 1 [some .null] (.null :: st) σ := np_op k117 rfl rfl
theorem e117_1 {ls : nv_Ls} {st : List Value} {σ : nv_St} {a : Nat} : np_X 117 1 ls (.ref a :: st) σ = np_b (nv_fld σ 5 0 a) (fun v => np_X 117 4 ls (v :: st) σ) := np_get k117 rfl
theorem e117_4 {ls : nv_Ls} {st : List Value} {σ : nv_St} {a : Nat} : np_X 117 4 ls (.ref a :: st) σ = np_b (nv_fld σ 2 8 a) (fun v => np_X 117 7 ls (v :: st) σ) := np_get k117 rfl
theorem e117_7 {ls : nv_Ls} {st : List Value} {σ : nv_St} {x : Int32} : np_X 117 7 ls (.int x :: st) σ = if x = 0 then np_X 117 10 ls st σ else np_X 117 21 ls st σ := np_br inferInstance k117 rfl rfl
theorem e117_10 {ls : nv_Ls} {σ : nv_St} : np_X 117 10 ls [] σ = some (.inr "java/lang/ArithmeticException", nv_bump σ) := np_thr k117 rfl
theorem e117_21 (x : Nat) {st : List Value} {σ : nv_St} : np_X 117 21 [some (.ref x)] st σ = np_X 117 22 [some (.ref x)] (.ref x :: st) σ := np_op k117 rfl rfl
theorem e117_21u  {st : List Value} {σ : nv_St} : np_X 117 21 [some .null] st σ = np_X 117 22 [some .null] (.null :: st) σ := np_op k117 rfl rfl
theorem e117_22 {ls : nv_Ls} {st : List Value} {σ : nv_St} {a : Nat} : np_X 117 22 ls (.ref a :: st) σ = np_b (nv_fld σ 5 0 a) (fun v => np_X 117 25 ls (v :: st) σ) := np_get k117 rfl
theorem e117_25 {ls : nv_Ls} {st : List Value} {σ : nv_St} {a : Nat} : np_X 117 25 ls (.ref a :: st) σ = np_b (nv_fld σ 2 9 a) (fun v => np_X 117 28 ls (v :: st) σ) := np_get k117 rfl
theorem e117_28 {ls : nv_Ls} {st : List Value} {σ : nv_St} {x : Int32} : np_X 117 28 ls (.int x :: st) σ = np_X 117 29 ls (.float (FP.i2f x) :: st) σ := np_op k117 rfl rfl
theorem e117_29 (x : Nat) {st : List Value} {σ : nv_St} : np_X 117 29 [some (.ref x)] st σ = np_X 117 30 [some (.ref x)] (.ref x :: st) σ := np_op k117 rfl rfl
theorem e117_29u  {st : List Value} {σ : nv_St} : np_X 117 29 [some .null] st σ = np_X 117 30 [some .null] (.null :: st) σ := np_op k117 rfl rfl
theorem e117_30 {ls : nv_Ls} {st : List Value} {σ : nv_St} {a : Nat} : np_X 117 30 ls (.ref a :: st) σ = np_b (nv_fld σ 5 0 a) (fun v => np_X 117 33 ls (v :: st) σ) := np_get k117 rfl
theorem e117_33 {ls : nv_Ls} {st : List Value} {σ : nv_St} {a : Nat} : np_X 117 33 ls (.ref a :: st) σ = np_b (nv_fld σ 2 8 a) (fun v => np_X 117 36 ls (v :: st) σ) := np_get k117 rfl
theorem e117_36 {ls : nv_Ls} {st : List Value} {σ : nv_St} {x : Int32} : np_X 117 36 ls (.int x :: st) σ = np_X 117 37 ls (.float (FP.i2f x) :: st) σ := np_op k117 rfl rfl
theorem e117_37 {ls : nv_Ls} {st : List Value} {σ : nv_St} {x y : UInt32} (h : FP.fdiv x y &&& 0x7fffffff ≤ 0x7f800000) : np_X 117 37 ls (.float y :: .float x :: st) σ = np_X 117 38 ls (.float (FP.fdiv x y) :: st) σ := np_fdiv k117 rfl h
theorem e117_38 {ls : nv_Ls} {σ : nv_St} {x : UInt32} : np_X 117 38 ls [.float x] σ = some (.inl (some (.float x)), σ) := np_ret k117 rfl rfl
-- 118 SpoonNavy.meanCubes
theorem k118 : np_P.1 118 = np_c118 := rfl
theorem e118_0 (x : Int32) {l0 l2 : Option Value} {st : List Value} {σ : nv_St} : np_X 118 0 [l0, some (.int x), l2] st σ = np_X 118 1 [l0, some (.int x), l2] (.int x :: st) σ := np_op k118 rfl rfl
theorem e118_1 {ls : nv_Ls} {st : List Value} {σ : nv_St}  {x0 : Int32} (h : st.length ≤ 4) : np_X 118 1 ls (.int x0 :: st) σ = np_aft 118 1 4 ls st (np_X 130 0 [some (.int x0)] [] σ) := np_call k118 rfl (Nat.le_add_left 1 _) rfl rfl h rfl rfl rfl
theorem e118_4 (x : Nat) {l1 l2 : Option Value} {st : List Value} {σ : nv_St} : np_X 118 4 [some (.ref x), l1, l2] st σ = np_X 118 5 [some (.ref x), l1, l2] (.ref x :: st) σ := np_op k118 rfl rfl
theorem e118_4u  {l1 l2 : Option Value} {st : List Value} {σ : nv_St} : np_X 118 4 [some .null, l1, l2] st σ = np_X 118 5 [some .null, l1, l2] (.null :: st) σ := np_op k118 rfl rfl
theorem e118_5 {ls : nv_Ls} {st : List Value} {σ : nv_St} {a : Nat} : np_X 118 5 ls (.ref a :: st) σ = np_b (nv_fld σ 5 0 a) (fun v => np_X 118 8 ls (v :: st) σ) := np_get k118 rfl
theorem e118_8 (x : Int32) {l0 l2 : Option Value} {st : List Value} {σ : nv_St} : np_X 118 8 [l0, some (.int x), l2] st σ = np_X 118 9 [l0, some (.int x), l2] (.int x :: st) σ := np_op k118 rfl rfl
theorem e118_9 {ls : nv_Ls} {st : List Value} {σ : nv_St} {a : Nat} {x0 : Int32} (h : st.length ≤ 4) (h0 : nv_isO σ 2 a = true) : np_X 118 9 ls (.int x0 :: .ref a :: st) σ = np_aft 118 9 12 ls st (np_X 29 0 [some (.ref a), some (.int x0)] [] σ) := np_call k118 rfl (Nat.le_add_left 2 _) rfl rfl h rfl h0 rfl
theorem e118_12 {ls : nv_Ls} {st : List Value} {σ : nv_St} {a : Nat} : np_X 118 12 ls (.ref a :: st) σ = np_b (nv_fld σ 0 1 a) (fun v => np_X 118 15 ls (v :: st) σ) := np_get k118 rfl
theorem e118_15n (x : Int32) {l0 l2 : Option Value} {st : List Value} {σ : nv_St} : np_X 118 15 [l0, none, l2] (.int x :: st) σ = np_X 118 16 [l0, none, some (.int x)] st σ := np_op k118 rfl rfl
theorem e118_15i (x : Int32) {z : Int32} {l0 l2 : Option Value} {st : List Value} {σ : nv_St} : np_X 118 15 [l0, some (.int z), l2] (.int x :: st) σ = np_X 118 16 [l0, some (.int z), some (.int x)] st σ := np_op k118 rfl rfl
theorem e118_15r (x : Int32) {z : Nat} {l0 l2 : Option Value} {st : List Value} {σ : nv_St} : np_X 118 15 [l0, some (.ref z), l2] (.int x :: st) σ = np_X 118 16 [l0, some (.ref z), some (.int x)] st σ := np_op k118 rfl rfl
theorem e118_15v (x : Int32) {l0 l2 : Option Value} {st : List Value} {σ : nv_St} : np_X 118 15 [l0, some .null, l2] (.int x :: st) σ = np_X 118 16 [l0, some .null, some (.int x)] st σ := np_op k118 rfl rfl
theorem e118_16 (x : Int32) {l0 l1 : Option Value} {st : List Value} {σ : nv_St} : np_X 118 16 [l0, l1, some (.int x)] st σ = np_X 118 17 [l0, l1, some (.int x)] (.int x :: st) σ := np_op k118 rfl rfl
theorem e118_17 {ls : nv_Ls} {st : List Value} {σ : nv_St} {x : Int32} : np_X 118 17 ls (.int x :: st) σ = if x = 0 then np_X 118 20 ls st σ else np_X 118 31 ls st σ := np_br inferInstance k118 rfl rfl
theorem e118_20 {ls : nv_Ls} {σ : nv_St} : np_X 118 20 ls [] σ = some (.inr "java/lang/ArithmeticException", nv_bump σ) := np_thr k118 rfl
theorem e118_31 (x : Nat) {l1 l2 : Option Value} {st : List Value} {σ : nv_St} : np_X 118 31 [some (.ref x), l1, l2] st σ = np_X 118 32 [some (.ref x), l1, l2] (.ref x :: st) σ := np_op k118 rfl rfl
theorem e118_31u  {l1 l2 : Option Value} {st : List Value} {σ : nv_St} : np_X 118 31 [some .null, l1, l2] st σ = np_X 118 32 [some .null, l1, l2] (.null :: st) σ := np_op k118 rfl rfl
theorem e118_32 {ls : nv_Ls} {st : List Value} {σ : nv_St} {a : Nat} : np_X 118 32 ls (.ref a :: st) σ = np_b (nv_fld σ 5 0 a) (fun v => np_X 118 35 ls (v :: st) σ) := np_get k118 rfl
theorem e118_35 (x : Int32) {l0 l2 : Option Value} {st : List Value} {σ : nv_St} : np_X 118 35 [l0, some (.int x), l2] st σ = np_X 118 36 [l0, some (.int x), l2] (.int x :: st) σ := np_op k118 rfl rfl
theorem e118_36 {ls : nv_Ls} {st : List Value} {σ : nv_St} {a : Nat} {x0 : Int32} (h : st.length ≤ 4) (h0 : nv_isO σ 2 a = true) : np_X 118 36 ls (.int x0 :: .ref a :: st) σ = np_aft 118 36 39 ls st (np_X 40 0 [some (.ref a), some (.int x0), none, none, none, none, none] [] σ) := np_call k118 rfl (Nat.le_add_left 2 _) rfl rfl h rfl h0 rfl
theorem e118_39 {ls : nv_Ls} {st : List Value} {σ : nv_St} {x : Int32} : np_X 118 39 ls (.int x :: st) σ = np_X 118 40 ls (.double (FP.i2d x) :: st) σ := np_op k118 rfl rfl
theorem e118_40 (x : Int32) {l0 l1 : Option Value} {st : List Value} {σ : nv_St} : np_X 118 40 [l0, l1, some (.int x)] st σ = np_X 118 41 [l0, l1, some (.int x)] (.int x :: st) σ := np_op k118 rfl rfl
theorem e118_41 {ls : nv_Ls} {st : List Value} {σ : nv_St} {x : Int32} : np_X 118 41 ls (.int x :: st) σ = np_X 118 42 ls (.double (FP.i2d x) :: st) σ := np_op k118 rfl rfl
theorem e118_42 {ls : nv_Ls} {st : List Value} {σ : nv_St} {x y : UInt64} (h : FP.ddiv x y &&& 0x7fffffffffffffff ≤ 0x7ff0000000000000) : np_X 118 42 ls (.double y :: .double x :: st) σ = np_X 118 43 ls (.double (FP.ddiv x y) :: st) σ := np_ddiv k118 rfl h
theorem e118_43 {ls : nv_Ls} {σ : nv_St} {x : UInt64} : np_X 118 43 ls [.double x] σ = some (.inl (some (.double x)), σ) := np_ret k118 rfl rfl
-- 119 SpoonNavy.isConsistent
theorem k119 : np_P.1 119 = np_c119 := rfl
theorem e119_0 (x : Nat) {st : List Value} {σ : nv_St} : np_X 119 0 [some (.ref x)] st σ = np_X 119 1 [some (.ref x)] (.ref x :: st) σ := np_op k119 rfl rfl
theorem e119_0u  {st : List Value} {σ : nv_St} : np_X 119 0 [some .null] st σ = np_X 119 1 [some .null] (.null :: st) σ := np_op k119 rfl rfl
theorem e119_1 {ls : nv_Ls} {st : List Value} {σ : nv_St} {a : Nat} : np_X 119 1 ls (.ref a :: st) σ = np_b (nv_fld σ 5 0 a) (fun v => np_X 119 4 ls (v :: st) σ) := np_get k119 rfl
theorem e119_4 {ls : nv_Ls} {st : List Value} {σ : nv_St} {a : Nat}  (h : st.length ≤ 4) (h0 : nv_isO σ 2 a = true) : np_X 119 4 ls (.ref a :: st) σ = np_aft 119 4 7 ls st (np_X 41 0 [some (.ref a), none, none, none, none] [] σ) := np_call k119 rfl (Nat.le_add_left 1 _) rfl rfl h rfl h0 rfl
theorem e119_7 {ls : nv_Ls} {st : List Value} {σ : nv_St} {x : Int32} : np_X 119 7 ls (.int x :: st) σ = if x = 0 then np_X 119 34 ls st σ else np_X 119 10 ls st σ := np_br inferInstance k119 rfl rfl
theorem e119_10 (x : Nat) {st : List Value} {σ : nv_St} : np_X 119 10 [some (.ref x)] st σ = np_X 119 11 [some (.ref x)] (.ref x :: st) σ := np_op k119 rfl rfl
theorem e119_10u  {st : List Value} {σ : nv_St} : np_X 119 10 [some .null] st σ = np_X 119 11 [some .null] (.null :: st) σ := np_op k119 rfl rfl
theorem e119_11 {ls : nv_Ls} {st : List Value} {σ : nv_St} {a : Nat} : np_X 119 11 ls (.ref a :: st) σ = np_b (nv_fld σ 5 0 a) (fun v => np_X 119 14 ls (v :: st) σ) := np_get k119 rfl
theorem e119_14 {ls : nv_Ls} {st : List Value} {σ : nv_St} {a : Nat}  (h : st.length ≤ 4) (h0 : nv_isO σ 2 a = true) : np_X 119 14 ls (.ref a :: st) σ = np_aft 119 14 17 ls st (np_X 42 0 [some (.ref a)] [] σ) := np_call k119 rfl (Nat.le_add_left 1 _) rfl rfl h rfl h0 rfl
theorem e119_17 {ls : nv_Ls} {st : List Value} {σ : nv_St} {x : Int32} : np_X 119 17 ls (.int x :: st) σ = if x = 0 then np_X 119 34 ls st σ else np_X 119 20 ls st σ := np_br inferInstance k119 rfl rfl
theorem e119_20 (x : Nat) {st : List Value} {σ : nv_St} : np_X 119 20 [some (.ref x)] st σ = np_X 119 21 [some (.ref x)] (.ref x :: st) σ := np_op k119 rfl rfl
theorem e119_20u  {st : List Value} {σ : nv_St} : np_X 119 20 [some .null] st σ = np_X 119 21 [some .null] (.null :: st) σ := np_op k119 rfl rfl
theorem e119_21 {ls : nv_Ls} {st : List Value} {σ : nv_St} {a : Nat} : np_X 119 21 ls (.ref a :: st) σ = np_b (nv_fld σ 5 0 a) (fun v => np_X 119 24 ls (v :: st) σ) := np_get k119 rfl
theorem e119_24 {ls : nv_Ls} {st : List Value} {σ : nv_St} {a : Nat}  (h : st.length ≤ 4) (h0 : nv_isO σ 2 a = true) : np_X 119 24 ls (.ref a :: st) σ = np_aft 119 24 27 ls st (np_X 43 0 [some (.ref a), none, none, none, none, none] [] σ) := np_call k119 rfl (Nat.le_add_left 1 _) rfl rfl h rfl h0 rfl
theorem e119_27 {ls : nv_Ls} {st : List Value} {σ : nv_St} {x : Int32} : np_X 119 27 ls (.int x :: st) σ = if x = 0 then np_X 119 34 ls st σ else np_X 119 30 ls st σ := np_br inferInstance k119 rfl rfl
theorem e119_30 {ls : nv_Ls} {st : List Value} {σ : nv_St} : np_X 119 30 ls st σ = np_X 119 31 ls (.int (1) :: st) σ := np_op k119 rfl rfl
theorem e119_31 {ls : nv_Ls} {st : List Value} {σ : nv_St} : np_X 119 31 ls st σ = np_X 119 35 ls st σ := np_op k119 rfl rfl
theorem e119_34 {ls : nv_Ls} {st : List Value} {σ : nv_St} : np_X 119 34 ls st σ = np_X 119 35 ls (.int (0) :: st) σ := np_op k119 rfl rfl
theorem e119_35 {ls : nv_Ls} {σ : nv_St} {x : Int32} (h : narrow .boolean (.int x) = .int x) : np_X 119 35 ls [.int x] σ = some (.inl (some (.int x)), σ) := np_reti k119 rfl h
-- 120 SpoonNavy.undo
theorem k120 : np_P.1 120 = np_c120 := rfl
theorem e120_0 (x : Nat) {st : List Value} {σ : nv_St} : np_X 120 0 [some (.ref x)] st σ = np_X 120 1 [some (.ref x)] (.ref x :: st) σ := np_op k120 rfl rfl
theorem e120_0u  {st : List Value} {σ : nv_St} : np_X 120 0 [some .null] st σ = np_X 120 1 [some .null] (.null :: st) σ := np_op k120 rfl rfl
theorem e120_1 {ls : nv_Ls} {st : List Value} {σ : nv_St} {a : Nat} : np_X 120 1 ls (.ref a :: st) σ = np_b (nv_fld σ 5 3 a) (fun v => np_X 120 4 ls (v :: st) σ) := np_get k120 rfl
theorem e120_4 (x : Nat) {st : List Value} {σ : nv_St} : np_X 120 4 [some (.ref x)] st σ = np_X 120 5 [some (.ref x)] (.ref x :: st) σ := np_op k120 rfl rfl
theorem e120_4u  {st : List Value} {σ : nv_St} : np_X 120 4 [some .null] st σ = np_X 120 5 [some .null] (.null :: st) σ := np_op k120 rfl rfl
theorem e120_5 {ls : nv_Ls} {st : List Value} {σ : nv_St} {a : Nat} : np_X 120 5 ls (.ref a :: st) σ = np_b (nv_fld σ 5 0 a) (fun v => np_X 120 8 ls (v :: st) σ) := np_get k120 rfl
theorem e120_8 {ls : nv_Ls} {st : List Value} {σ : nv_St} {a : Nat} {x0 : Nat} (h : st.length ≤ 4) (h0 : nv_isO σ 3 a = true) : np_X 120 8 ls (.ref x0 :: .ref a :: st) σ = np_aft 120 8 11 ls st (np_X 58 0 [some (.ref a), some (.ref x0), none] [] σ) := np_call k120 rfl (Nat.le_add_left 2 _) rfl rfl h rfl h0 rfl
theorem e120_11 {ls : nv_Ls} {st : List Value} {σ : nv_St} {x : Int32} : np_X 120 11 ls (.int x :: st) σ = if x = 0 then np_X 120 14 ls st σ else np_X 120 25 ls st σ := np_br inferInstance k120 rfl rfl
theorem e120_14 {ls : nv_Ls} {σ : nv_St} : np_X 120 14 ls [] σ = some (.inr "java/lang/IllegalStateException", nv_bump σ) := np_thr k120 rfl
theorem e120_25 (x : Nat) {st : List Value} {σ : nv_St} : np_X 120 25 [some (.ref x)] st σ = np_X 120 26 [some (.ref x)] (.ref x :: st) σ := np_op k120 rfl rfl
theorem e120_25u  {st : List Value} {σ : nv_St} : np_X 120 25 [some .null] st σ = np_X 120 26 [some .null] (.null :: st) σ := np_op k120 rfl rfl
theorem e120_26 {ls : nv_Ls} {st : List Value} {σ : nv_St} {a : Nat} : np_X 120 26 ls (.ref a :: st) σ = np_b (nv_fld σ 5 3 a) (fun v => np_X 120 29 ls (v :: st) σ) := np_get k120 rfl
theorem e120_29 {ls : nv_Ls} {st : List Value} {σ : nv_St} {a : Nat} : np_X 120 29 ls (.ref a :: st) σ = np_b (nv_fld σ 3 2 a) (fun v => np_X 120 32 ls (v :: st) σ) := np_get k120 rfl
theorem e120_32 {ls : nv_Ls} {σ : nv_St} {x : Int32} : np_X 120 32 ls [.int x] σ = some (.inl (some (.int x)), σ) := np_reti k120 rfl rfl
-- 121 SpoonNavy.save
theorem k121 : np_P.1 121 = np_c121 := rfl
theorem e121_0 (x : Nat) {st : List Value} {σ : nv_St} : np_X 121 0 [some (.ref x)] st σ = np_X 121 1 [some (.ref x)] (.ref x :: st) σ := np_op k121 rfl rfl
theorem e121_0u  {st : List Value} {σ : nv_St} : np_X 121 0 [some .null] st σ = np_X 121 1 [some .null] (.null :: st) σ := np_op k121 rfl rfl
theorem e121_1 {ls : nv_Ls} {st : List Value} {σ : nv_St} {a : Nat} : np_X 121 1 ls (.ref a :: st) σ = np_b (nv_fld σ 5 2 a) (fun v => np_X 121 4 ls (v :: st) σ) := np_get k121 rfl
theorem e121_4 (x : Nat) {st : List Value} {σ : nv_St} : np_X 121 4 [some (.ref x)] st σ = np_X 121 5 [some (.ref x)] (.ref x :: st) σ := np_op k121 rfl rfl
theorem e121_4u  {st : List Value} {σ : nv_St} : np_X 121 4 [some .null] st σ = np_X 121 5 [some .null] (.null :: st) σ := np_op k121 rfl rfl
theorem e121_5 {ls : nv_Ls} {st : List Value} {σ : nv_St} {a : Nat} : np_X 121 5 ls (.ref a :: st) σ = np_b (nv_fld σ 5 0 a) (fun v => np_X 121 8 ls (v :: st) σ) := np_get k121 rfl
theorem e121_8 {ls : nv_Ls} {st : List Value} {σ : nv_St} {a : Nat} {x0 : Nat} (h : st.length ≤ 4) (h0 : nv_isO σ 2 a = true) : np_X 121 8 ls (.ref x0 :: .ref a :: st) σ = np_aft 121 8 11 ls st (np_X 27 0 [some (.ref a), some (.ref x0), none] [] σ) := np_call k121 rfl (Nat.le_add_left 2 _) rfl rfl h rfl h0 rfl
theorem e121_11 (x : Nat) {st : List Value} {σ : nv_St} : np_X 121 11 [some (.ref x)] st σ = np_X 121 12 [some (.ref x)] (.ref x :: st) σ := np_op k121 rfl rfl
theorem e121_11u  {st : List Value} {σ : nv_St} : np_X 121 11 [some .null] st σ = np_X 121 12 [some .null] (.null :: st) σ := np_op k121 rfl rfl
theorem e121_12 {ls : nv_Ls} {st : List Value} {σ : nv_St} : np_X 121 12 ls st σ = np_X 121 13 ls (.int (1) :: st) σ := np_op k121 rfl rfl
theorem e121_13 {ls : nv_Ls} {st : List Value} {σ : nv_St} {a : Nat} {v : Value} : np_X 121 13 ls (v :: .ref a :: st) σ = np_b (nv_sto σ 5 7 .boolean a v) (fun σ' => np_X 121 16 ls st σ') := np_put k121 rfl
theorem e121_16 (x : Nat) {st : List Value} {σ : nv_St} : np_X 121 16 [some (.ref x)] st σ = np_X 121 17 [some (.ref x)] (.ref x :: st) σ := np_op k121 rfl rfl
theorem e121_16u  {st : List Value} {σ : nv_St} : np_X 121 16 [some .null] st σ = np_X 121 17 [some .null] (.null :: st) σ := np_op k121 rfl rfl
theorem e121_17 {ls : nv_Ls} {st : List Value} {σ : nv_St} {a : Nat} : np_X 121 17 ls (.ref a :: st) σ = np_b (nv_fld σ 5 0 a) (fun v => np_X 121 20 ls (v :: st) σ) := np_get k121 rfl
theorem e121_20 {ls : nv_Ls} {st : List Value} {σ : nv_St} {a : Nat} : np_X 121 20 ls (.ref a :: st) σ = np_b (nv_fld σ 2 3 a) (fun v => np_X 121 23 ls (v :: st) σ) := np_get k121 rfl
theorem e121_23 {ls : nv_Ls} {σ : nv_St} {x : Int32} : np_X 121 23 ls [.int x] σ = some (.inl (some (.int x)), σ) := np_reti k121 rfl rfl
-- 122 SpoonNavy.restore
theorem k122 : np_P.1 122 = np_c122 := rfl
theorem e122_0 (x : Nat) {st : List Value} {σ : nv_St} : np_X 122 0 [some (.ref x)] st σ = np_X 122 1 [some (.ref x)] (.ref x :: st) σ := np_op k122 rfl rfl
theorem e122_0u  {st : List Value} {σ : nv_St} : np_X 122 0 [some .null] st σ = np_X 122 1 [some .null] (.null :: st) σ := np_op k122 rfl rfl
theorem e122_1 {ls : nv_Ls} {st : List Value} {σ : nv_St} {a : Nat} : np_X 122 1 ls (.ref a :: st) σ = np_b (nv_fld σ 5 7 a) (fun v => np_X 122 4 ls (v :: st) σ) := np_get k122 rfl
theorem e122_4 {ls : nv_Ls} {st : List Value} {σ : nv_St} {x : Int32} : np_X 122 4 ls (.int x :: st) σ = if x = 0 then np_X 122 7 ls st σ else np_X 122 18 ls st σ := np_br inferInstance k122 rfl rfl
theorem e122_7 {ls : nv_Ls} {σ : nv_St} : np_X 122 7 ls [] σ = some (.inr "java/lang/IllegalStateException", nv_bump σ) := np_thr k122 rfl
theorem e122_18 (x : Nat) {st : List Value} {σ : nv_St} : np_X 122 18 [some (.ref x)] st σ = np_X 122 19 [some (.ref x)] (.ref x :: st) σ := np_op k122 rfl rfl
theorem e122_18u  {st : List Value} {σ : nv_St} : np_X 122 18 [some .null] st σ = np_X 122 19 [some .null] (.null :: st) σ := np_op k122 rfl rfl
theorem e122_19 {ls : nv_Ls} {st : List Value} {σ : nv_St} {a : Nat} : np_X 122 19 ls (.ref a :: st) σ = np_b (nv_fld σ 5 0 a) (fun v => np_X 122 22 ls (v :: st) σ) := np_get k122 rfl
theorem e122_22 (x : Nat) {st : List Value} {σ : nv_St} : np_X 122 22 [some (.ref x)] st σ = np_X 122 23 [some (.ref x)] (.ref x :: st) σ := np_op k122 rfl rfl
theorem e122_22u  {st : List Value} {σ : nv_St} : np_X 122 22 [some .null] st σ = np_X 122 23 [some .null] (.null :: st) σ := np_op k122 rfl rfl
theorem e122_23 {ls : nv_Ls} {st : List Value} {σ : nv_St} {a : Nat} : np_X 122 23 ls (.ref a :: st) σ = np_b (nv_fld σ 5 2 a) (fun v => np_X 122 26 ls (v :: st) σ) := np_get k122 rfl
theorem e122_26 {ls : nv_Ls} {st : List Value} {σ : nv_St} {a : Nat} {x0 : Nat} (h : st.length ≤ 4) (h0 : nv_isO σ 2 a = true) : np_X 122 26 ls (.ref x0 :: .ref a :: st) σ = np_aft 122 26 29 ls st (np_X 27 0 [some (.ref a), some (.ref x0), none] [] σ) := np_call k122 rfl (Nat.le_add_left 2 _) rfl rfl h rfl h0 rfl
theorem e122_29 (x : Nat) {st : List Value} {σ : nv_St} : np_X 122 29 [some (.ref x)] st σ = np_X 122 30 [some (.ref x)] (.ref x :: st) σ := np_op k122 rfl rfl
theorem e122_29u  {st : List Value} {σ : nv_St} : np_X 122 29 [some .null] st σ = np_X 122 30 [some .null] (.null :: st) σ := np_op k122 rfl rfl
theorem e122_30 {ls : nv_Ls} {st : List Value} {σ : nv_St} {a : Nat} : np_X 122 30 ls (.ref a :: st) σ = np_b (nv_fld σ 5 3 a) (fun v => np_X 122 33 ls (v :: st) σ) := np_get k122 rfl
theorem e122_33 {ls : nv_Ls} {st : List Value} {σ : nv_St} {a : Nat}  (h : st.length ≤ 4) (h0 : nv_isO σ 3 a = true) : np_X 122 33 ls (.ref a :: st) σ = np_aft 122 33 36 ls st (np_X 59 0 [some (.ref a)] [] σ) := np_call k122 rfl (Nat.le_add_left 1 _) rfl rfl h rfl h0 rfl
theorem e122_36 (x : Nat) {st : List Value} {σ : nv_St} : np_X 122 36 [some (.ref x)] st σ = np_X 122 37 [some (.ref x)] (.ref x :: st) σ := np_op k122 rfl rfl
theorem e122_36u  {st : List Value} {σ : nv_St} : np_X 122 36 [some .null] st σ = np_X 122 37 [some .null] (.null :: st) σ := np_op k122 rfl rfl
theorem e122_37 {ls : nv_Ls} {st : List Value} {σ : nv_St} {a : Nat} : np_X 122 37 ls (.ref a :: st) σ = np_b (nv_fld σ 5 0 a) (fun v => np_X 122 40 ls (v :: st) σ) := np_get k122 rfl
theorem e122_40 {ls : nv_Ls} {st : List Value} {σ : nv_St} {a : Nat} : np_X 122 40 ls (.ref a :: st) σ = np_b (nv_fld σ 2 3 a) (fun v => np_X 122 43 ls (v :: st) σ) := np_get k122 rfl
theorem e122_43 {ls : nv_Ls} {σ : nv_St} {x : Int32} : np_X 122 43 ls [.int x] σ = some (.inl (some (.int x)), σ) := np_reti k122 rfl rfl
-- 123 SpoonNavy.concluded
theorem k123 : np_P.1 123 = np_c123 := rfl
theorem e123_0 (x : Int32) {l0 : Option Value} {st : List Value} {σ : nv_St} : np_X 123 0 [l0, some (.int x)] st σ = np_X 123 1 [l0, some (.int x)] (.int x :: st) σ := np_op k123 rfl rfl
theorem e123_1 {ls : nv_Ls} {st : List Value} {σ : nv_St} {x : Int32} : np_X 123 1 ls (.int x :: st) σ = if x < 0 then np_X 123 17 ls st σ else np_X 123 4 ls st σ := np_br inferInstance k123 rfl rfl
theorem e123_4 (x : Nat) {l1 : Option Value} {st : List Value} {σ : nv_St} : np_X 123 4 [some (.ref x), l1] st σ = np_X 123 5 [some (.ref x), l1] (.ref x :: st) σ := np_op k123 rfl rfl
theorem e123_4u  {l1 : Option Value} {st : List Value} {σ : nv_St} : np_X 123 4 [some .null, l1] st σ = np_X 123 5 [some .null, l1] (.null :: st) σ := np_op k123 rfl rfl
theorem e123_5 {ls : nv_Ls} {st : List Value} {σ : nv_St} {a : Nat} : np_X 123 5 ls (.ref a :: st) σ = np_b (nv_fld σ 5 3 a) (fun v => np_X 123 8 ls (v :: st) σ) := np_get k123 rfl
theorem e123_8 (x : Nat) {l1 : Option Value} {st : List Value} {σ : nv_St} : np_X 123 8 [some (.ref x), l1] st σ = np_X 123 9 [some (.ref x), l1] (.ref x :: st) σ := np_op k123 rfl rfl
theorem e123_8u  {l1 : Option Value} {st : List Value} {σ : nv_St} : np_X 123 8 [some .null, l1] st σ = np_X 123 9 [some .null, l1] (.null :: st) σ := np_op k123 rfl rfl
theorem e123_9 {ls : nv_Ls} {st : List Value} {σ : nv_St} {a : Nat} : np_X 123 9 ls (.ref a :: st) σ = np_b (nv_fld σ 5 1 a) (fun v => np_X 123 12 ls (v :: st) σ) := np_get k123 rfl
theorem e123_12 {ls : nv_Ls} {st : List Value} {σ : nv_St} {a : Nat} {x0 : Nat} (h : st.length ≤ 4) (h0 : nv_isO σ 3 a = true) : np_X 123 12 ls (.ref x0 :: .ref a :: st) σ = np_aft 123 12 15 ls st (np_X 57 0 [some (.ref a), some (.ref x0)] [] σ) := np_call k123 rfl (Nat.le_add_left 2 _) rfl rfl h rfl h0 rfl
theorem e123_15 (x : Int32) {l0 : Option Value} {st : List Value} {σ : nv_St} : np_X 123 15 [l0, some (.int x)] st σ = np_X 123 16 [l0, some (.int x)] (.int x :: st) σ := np_op k123 rfl rfl
theorem e123_16 {ls : nv_Ls} {σ : nv_St} {x : Int32} : np_X 123 16 ls [.int x] σ = some (.inl (some (.int x)), σ) := np_reti k123 rfl rfl
theorem e123_17 (x : Nat) {l1 : Option Value} {st : List Value} {σ : nv_St} : np_X 123 17 [some (.ref x), l1] st σ = np_X 123 18 [some (.ref x), l1] (.ref x :: st) σ := np_op k123 rfl rfl
theorem e123_17u  {l1 : Option Value} {st : List Value} {σ : nv_St} : np_X 123 17 [some .null, l1] st σ = np_X 123 18 [some .null, l1] (.null :: st) σ := np_op k123 rfl rfl
theorem e123_18 (x : Int32) {l0 : Option Value} {st : List Value} {σ : nv_St} : np_X 123 18 [l0, some (.int x)] st σ = np_X 123 19 [l0, some (.int x)] (.int x :: st) σ := np_op k123 rfl rfl
theorem e123_19 {ls : nv_Ls} {st : List Value} {σ : nv_St} {a : Nat} {x0 : Int32} (h : st.length ≤ 4) (h0 : nv_isO σ 5 a = true) : np_X 123 19 ls (.int x0 :: .ref a :: st) σ = np_aft 123 19 22 ls st (np_X 124 0 [some (.ref a), some (.int x0)] [] σ) := np_call k123 rfl (Nat.le_add_left 2 _) rfl rfl h rfl h0 rfl
theorem e123_22 (x : Int32) {l0 : Option Value} {st : List Value} {σ : nv_St} : np_X 123 22 [l0, some (.int x)] st σ = np_X 123 23 [l0, some (.int x)] (.int x :: st) σ := np_op k123 rfl rfl
theorem e123_23 {ls : nv_Ls} {st : List Value} {σ : nv_St} {x : Int32} : np_X 123 23 ls (.int x :: st) σ = np_X 123 (np_sw (-4) [85, 74, 63, 52] 96 x) ls st σ := np_tsw k123 rfl
theorem e123_52 {ls : nv_Ls} {σ : nv_St} : np_X 123 52 ls [] σ = some (.inr "java/lang/IndexOutOfBoundsException", nv_bump σ) := np_thr k123 rfl
theorem e123_63 {ls : nv_Ls} {σ : nv_St} : np_X 123 63 ls [] σ = some (.inr "java/lang/IllegalArgumentException", nv_bump σ) := np_thr k123 rfl
theorem e123_74 {ls : nv_Ls} {σ : nv_St} : np_X 123 74 ls [] σ = some (.inr "java/lang/IllegalStateException", nv_bump σ) := np_thr k123 rfl
theorem e123_85 {ls : nv_Ls} {σ : nv_St} : np_X 123 85 ls [] σ = some (.inr "java/lang/UnsupportedOperationException", nv_bump σ) := np_thr k123 rfl
theorem e123_96 {ls : nv_Ls} {σ : nv_St} : np_X 123 96 ls [] σ = some (.inr "java/lang/UnsupportedOperationException", nv_bump σ) := np_thr k123 rfl
-- 124 SpoonNavy.keepReason
theorem k124 : np_P.1 124 = np_c124 := rfl
theorem e124_0 (x : Int32) {l0 : Option Value} {st : List Value} {σ : nv_St} : np_X 124 0 [l0, some (.int x)] st σ = np_X 124 1 [l0, some (.int x)] (.int x :: st) σ := np_op k124 rfl rfl
theorem e124_1 {ls : nv_Ls} {st : List Value} {σ : nv_St} : np_X 124 1 ls st σ = np_X 124 3 ls (.int (-10) :: st) σ := np_op k124 rfl rfl
theorem e124_3 {ls : nv_Ls} {st : List Value} {σ : nv_St} {x y : Int32} : np_X 124 3 ls (.int y :: .int x :: st) σ = if x < y then np_X 124 6 ls st σ else np_X 124 14 ls st σ := np_br inferInstance k124 rfl rfl
theorem e124_6 (x : Nat) {l1 : Option Value} {st : List Value} {σ : nv_St} : np_X 124 6 [some (.ref x), l1] st σ = np_X 124 7 [some (.ref x), l1] (.ref x :: st) σ := np_op k124 rfl rfl
theorem e124_6u  {l1 : Option Value} {st : List Value} {σ : nv_St} : np_X 124 6 [some .null, l1] st σ = np_X 124 7 [some .null, l1] (.null :: st) σ := np_op k124 rfl rfl
theorem e124_7 {ls : nv_Ls} {st : List Value} {σ : nv_St} : np_X 124 7 ls st σ = np_X 124 9 ls (.int (-10) :: st) σ := np_op k124 rfl rfl
theorem e124_9 (x : Int32) {l0 : Option Value} {st : List Value} {σ : nv_St} : np_X 124 9 [l0, some (.int x)] st σ = np_X 124 10 [l0, some (.int x)] (.int x :: st) σ := np_op k124 rfl rfl
theorem e124_10 {ls : nv_Ls} {st : List Value} {σ : nv_St} {x y : Int32} : np_X 124 10 ls (.int y :: .int x :: st) σ = np_X 124 11 ls (.int (x - y) :: st) σ := np_op k124 rfl rfl
theorem e124_11 {ls : nv_Ls} {st : List Value} {σ : nv_St} {a : Nat} {v : Value} : np_X 124 11 ls (v :: .ref a :: st) σ = np_b (nv_sto σ 5 8 .int a v) (fun σ' => np_X 124 14 ls st σ') := np_put k124 rfl
theorem e124_14 {ls : nv_Ls} {σ : nv_St} : np_X 124 14 ls [] σ = some (.inl none, σ) := np_ret k124 rfl rfl
-- 125 SpoonNavy.firstFailure
theorem k125 : np_P.1 125 = np_c125 := rfl
theorem e125_0 (x : Nat) {l1 l2 l3 : Option Value} {st : List Value} {σ : nv_St} : np_X 125 0 [some (.ref x), l1, l2, l3] st σ = np_X 125 1 [some (.ref x), l1, l2, l3] (.ref x :: st) σ := np_op k125 rfl rfl
theorem e125_0u  {l1 l2 l3 : Option Value} {st : List Value} {σ : nv_St} : np_X 125 0 [some .null, l1, l2, l3] st σ = np_X 125 1 [some .null, l1, l2, l3] (.null :: st) σ := np_op k125 rfl rfl
theorem e125_1 {ls : nv_Ls} {st : List Value} {σ : nv_St} {a : Nat} : np_X 125 1 ls (.ref a :: st) σ = np_b (nv_fld σ 5 4 a) (fun v => np_X 125 4 ls (v :: st) σ) := np_get k125 rfl
theorem e125_4 {ls : nv_Ls} {st : List Value} {σ : nv_St} {a : Nat}  (h : st.length ≤ 4) (h0 : nv_isO σ 1 a = true) : np_X 125 4 ls (.ref a :: st) σ = np_aft 125 4 7 ls st (np_X 15 0 [some (.ref a)] [] σ) := np_call k125 rfl (Nat.le_add_left 1 _) rfl rfl h rfl h0 rfl
theorem e125_7 {ls : nv_Ls} {st : List Value} {σ : nv_St} : np_X 125 7 ls st σ = np_X 125 8 ls (.int (0) :: st) σ := np_op k125 rfl rfl
theorem e125_8n (x : Int32) {l0 l2 l3 : Option Value} {st : List Value} {σ : nv_St} : np_X 125 8 [l0, none, l2, l3] (.int x :: st) σ = np_X 125 9 [l0, none, some (.int x), l3] st σ := np_op k125 rfl rfl
theorem e125_8i (x : Int32) {z : Int32} {l0 l2 l3 : Option Value} {st : List Value} {σ : nv_St} : np_X 125 8 [l0, some (.int z), l2, l3] (.int x :: st) σ = np_X 125 9 [l0, some (.int z), some (.int x), l3] st σ := np_op k125 rfl rfl
theorem e125_8r (x : Int32) {z : Nat} {l0 l2 l3 : Option Value} {st : List Value} {σ : nv_St} : np_X 125 8 [l0, some (.ref z), l2, l3] (.int x :: st) σ = np_X 125 9 [l0, some (.ref z), some (.int x), l3] st σ := np_op k125 rfl rfl
theorem e125_8v (x : Int32) {l0 l2 l3 : Option Value} {st : List Value} {σ : nv_St} : np_X 125 8 [l0, some .null, l2, l3] (.int x :: st) σ = np_X 125 9 [l0, some .null, some (.int x), l3] st σ := np_op k125 rfl rfl
theorem e125_9 (x : Int32) {l0 l1 l3 : Option Value} {st : List Value} {σ : nv_St} : np_X 125 9 [l0, l1, some (.int x), l3] st σ = np_X 125 10 [l0, l1, some (.int x), l3] (.int x :: st) σ := np_op k125 rfl rfl
theorem e125_10 (x : Int32) {l0 l2 l3 : Option Value} {st : List Value} {σ : nv_St} : np_X 125 10 [l0, some (.int x), l2, l3] st σ = np_X 125 11 [l0, some (.int x), l2, l3] (.int x :: st) σ := np_op k125 rfl rfl
theorem e125_11 {ls : nv_Ls} {st : List Value} {σ : nv_St} {x y : Int32} : np_X 125 11 ls (.int y :: .int x :: st) σ = if x < y then np_X 125 14 ls st σ else np_X 125 56 ls st σ := np_br inferInstance k125 rfl rfl
theorem e125_14 (x : Nat) {l1 l2 l3 : Option Value} {st : List Value} {σ : nv_St} : np_X 125 14 [some (.ref x), l1, l2, l3] st σ = np_X 125 15 [some (.ref x), l1, l2, l3] (.ref x :: st) σ := np_op k125 rfl rfl
theorem e125_14u  {l1 l2 l3 : Option Value} {st : List Value} {σ : nv_St} : np_X 125 14 [some .null, l1, l2, l3] st σ = np_X 125 15 [some .null, l1, l2, l3] (.null :: st) σ := np_op k125 rfl rfl
theorem e125_15 {ls : nv_Ls} {st : List Value} {σ : nv_St} {a : Nat} : np_X 125 15 ls (.ref a :: st) σ = np_b (nv_fld σ 5 4 a) (fun v => np_X 125 18 ls (v :: st) σ) := np_get k125 rfl
theorem e125_18 {ls : nv_Ls} {st : List Value} {σ : nv_St} {a : Nat}  (h : st.length ≤ 4) (h0 : nv_isO σ 1 a = true) : np_X 125 18 ls (.ref a :: st) σ = np_aft 125 18 21 ls st (np_X 18 0 [some (.ref a), none, none, none, none, none] [] σ) := np_call k125 rfl (Nat.le_add_left 1 _) rfl rfl h rfl h0 rfl
theorem e125_21 {ls : nv_Ls} {st : List Value} {σ : nv_St} {x : Nat} : np_X 125 21 ls (.ref x :: st) σ = np_X 125 22 ls st σ := np_op k125 rfl rfl
theorem e125_21i {ls : nv_Ls} {st : List Value} {σ : nv_St} {x : Int32} : np_X 125 21 ls (.int x :: st) σ = np_X 125 22 ls st σ := np_op k125 rfl rfl
theorem e125_22 (x : Nat) {l1 l2 l3 : Option Value} {st : List Value} {σ : nv_St} : np_X 125 22 [some (.ref x), l1, l2, l3] st σ = np_X 125 23 [some (.ref x), l1, l2, l3] (.ref x :: st) σ := np_op k125 rfl rfl
theorem e125_22u  {l1 l2 l3 : Option Value} {st : List Value} {σ : nv_St} : np_X 125 22 [some .null, l1, l2, l3] st σ = np_X 125 23 [some .null, l1, l2, l3] (.null :: st) σ := np_op k125 rfl rfl
theorem e125_23 (x : Nat) {l1 l2 l3 : Option Value} {st : List Value} {σ : nv_St} : np_X 125 23 [some (.ref x), l1, l2, l3] st σ = np_X 125 24 [some (.ref x), l1, l2, l3] (.ref x :: st) σ := np_op k125 rfl rfl
theorem e125_23u  {l1 l2 l3 : Option Value} {st : List Value} {σ : nv_St} : np_X 125 23 [some .null, l1, l2, l3] st σ = np_X 125 24 [some .null, l1, l2, l3] (.null :: st) σ := np_op k125 rfl rfl
theorem e125_24 {ls : nv_Ls} {st : List Value} {σ : nv_St} {a : Nat} : np_X 125 24 ls (.ref a :: st) σ = np_b (nv_fld σ 5 4 a) (fun v => np_X 125 27 ls (v :: st) σ) := np_get k125 rfl
theorem e125_27 {ls : nv_Ls} {st : List Value} {σ : nv_St} {a : Nat} {x0 : Nat} (h : st.length ≤ 4) (h0 : nv_isO σ 5 a = true) : np_X 125 27 ls (.ref x0 :: .ref a :: st) σ = np_aft 125 27 30 ls st (np_X 126 0 [some (.ref a), some (.ref x0), none, none, none] [] σ) := np_call k125 rfl (Nat.le_add_left 2 _) rfl rfl h rfl h0 rfl
theorem e125_30n (x : Int32) {l0 l1 l3 : Option Value} {st : List Value} {σ : nv_St} : np_X 125 30 [l0, l1, none, l3] (.int x :: st) σ = np_X 125 31 [l0, l1, none, some (.int x)] st σ := np_op k125 rfl rfl
theorem e125_30i (x : Int32) {z : Int32} {l0 l1 l3 : Option Value} {st : List Value} {σ : nv_St} : np_X 125 30 [l0, l1, some (.int z), l3] (.int x :: st) σ = np_X 125 31 [l0, l1, some (.int z), some (.int x)] st σ := np_op k125 rfl rfl
theorem e125_30r (x : Int32) {z : Nat} {l0 l1 l3 : Option Value} {st : List Value} {σ : nv_St} : np_X 125 30 [l0, l1, some (.ref z), l3] (.int x :: st) σ = np_X 125 31 [l0, l1, some (.ref z), some (.int x)] st σ := np_op k125 rfl rfl
theorem e125_30v (x : Int32) {l0 l1 l3 : Option Value} {st : List Value} {σ : nv_St} : np_X 125 30 [l0, l1, some .null, l3] (.int x :: st) σ = np_X 125 31 [l0, l1, some .null, some (.int x)] st σ := np_op k125 rfl rfl
theorem e125_31 (x : Int32) {l0 l1 l2 : Option Value} {st : List Value} {σ : nv_St} : np_X 125 31 [l0, l1, l2, some (.int x)] st σ = np_X 125 32 [l0, l1, l2, some (.int x)] (.int x :: st) σ := np_op k125 rfl rfl
theorem e125_32 {ls : nv_Ls} {st : List Value} {σ : nv_St} {x : Int32} : np_X 125 32 ls (.int x :: st) σ = if x < 0 then np_X 125 35 ls st σ else np_X 125 42 ls st σ := np_br inferInstance k125 rfl rfl
theorem e125_35 (x : Nat) {l1 l2 l3 : Option Value} {st : List Value} {σ : nv_St} : np_X 125 35 [some (.ref x), l1, l2, l3] st σ = np_X 125 36 [some (.ref x), l1, l2, l3] (.ref x :: st) σ := np_op k125 rfl rfl
theorem e125_35u  {l1 l2 l3 : Option Value} {st : List Value} {σ : nv_St} : np_X 125 35 [some .null, l1, l2, l3] st σ = np_X 125 36 [some .null, l1, l2, l3] (.null :: st) σ := np_op k125 rfl rfl
theorem e125_36 (x : Int32) {l0 l1 l2 : Option Value} {st : List Value} {σ : nv_St} : np_X 125 36 [l0, l1, l2, some (.int x)] st σ = np_X 125 37 [l0, l1, l2, some (.int x)] (.int x :: st) σ := np_op k125 rfl rfl
theorem e125_37 {ls : nv_Ls} {st : List Value} {σ : nv_St} {a : Nat} {x0 : Int32} (h : st.length ≤ 4) (h0 : nv_isO σ 5 a = true) : np_X 125 37 ls (.int x0 :: .ref a :: st) σ = np_aft 125 37 40 ls st (np_X 124 0 [some (.ref a), some (.int x0)] [] σ) := np_call k125 rfl (Nat.le_add_left 2 _) rfl rfl h rfl h0 rfl
theorem e125_40 (x : Int32) {l0 l1 l3 : Option Value} {st : List Value} {σ : nv_St} : np_X 125 40 [l0, l1, some (.int x), l3] st σ = np_X 125 41 [l0, l1, some (.int x), l3] (.int x :: st) σ := np_op k125 rfl rfl
theorem e125_41 {ls : nv_Ls} {σ : nv_St} {x : Int32} : np_X 125 41 ls [.int x] σ = some (.inl (some (.int x)), σ) := np_reti k125 rfl rfl
theorem e125_42 (x : Nat) {l1 l2 l3 : Option Value} {st : List Value} {σ : nv_St} : np_X 125 42 [some (.ref x), l1, l2, l3] st σ = np_X 125 43 [some (.ref x), l1, l2, l3] (.ref x :: st) σ := np_op k125 rfl rfl
theorem e125_42u  {l1 l2 l3 : Option Value} {st : List Value} {σ : nv_St} : np_X 125 42 [some .null, l1, l2, l3] st σ = np_X 125 43 [some .null, l1, l2, l3] (.null :: st) σ := np_op k125 rfl rfl
theorem e125_43 {ls : nv_Ls} {st : List Value} {σ : nv_St} {a : Nat} : np_X 125 43 ls (.ref a :: st) σ = np_b (nv_fld σ 5 4 a) (fun v => np_X 125 46 ls (v :: st) σ) := np_get k125 rfl
theorem e125_46 {ls : nv_Ls} {st : List Value} {σ : nv_St} {a : Nat}  (h : st.length ≤ 4) (h0 : nv_isO σ 1 a = true) : np_X 125 46 ls (.ref a :: st) σ = np_aft 125 46 49 ls st (np_X 17 0 [some (.ref a)] [] σ) := np_call k125 rfl (Nat.le_add_left 1 _) rfl rfl h rfl h0 rfl
theorem e125_49 {ls : nv_Ls} {st : List Value} {σ : nv_St} {x : Nat} : np_X 125 49 ls (.ref x :: st) σ = np_X 125 50 ls st σ := np_op k125 rfl rfl
theorem e125_49i {ls : nv_Ls} {st : List Value} {σ : nv_St} {x : Int32} : np_X 125 49 ls (.int x :: st) σ = np_X 125 50 ls st σ := np_op k125 rfl rfl
theorem e125_50n (x : Int32) {l0 l3 : Option Value} {st : List Value} {σ : nv_St} : np_X 125 50 [l0, none, some (.int x), l3] st σ = np_X 125 53 [l0, none, some (.int (x + (1))), l3] st σ := np_op k125 rfl rfl
theorem e125_50i (x : Int32) {z : Int32} {l0 l3 : Option Value} {st : List Value} {σ : nv_St} : np_X 125 50 [l0, some (.int z), some (.int x), l3] st σ = np_X 125 53 [l0, some (.int z), some (.int (x + (1))), l3] st σ := np_op k125 rfl rfl
theorem e125_50r (x : Int32) {z : Nat} {l0 l3 : Option Value} {st : List Value} {σ : nv_St} : np_X 125 50 [l0, some (.ref z), some (.int x), l3] st σ = np_X 125 53 [l0, some (.ref z), some (.int (x + (1))), l3] st σ := np_op k125 rfl rfl
theorem e125_50v (x : Int32) {l0 l3 : Option Value} {st : List Value} {σ : nv_St} : np_X 125 50 [l0, some .null, some (.int x), l3] st σ = np_X 125 53 [l0, some .null, some (.int (x + (1))), l3] st σ := np_op k125 rfl rfl
theorem e125_53 {ls : nv_Ls} {st : List Value} {σ : nv_St} : np_X 125 53 ls st σ = np_X 125 9 ls st σ := np_op k125 rfl rfl
theorem e125_56 {ls : nv_Ls} {st : List Value} {σ : nv_St} : np_X 125 56 ls st σ = np_X 125 57 ls (.int (-1) :: st) σ := np_op k125 rfl rfl
theorem e125_57 {ls : nv_Ls} {σ : nv_St} {x : Int32} : np_X 125 57 ls [.int x] σ = some (.inl (some (.int x)), σ) := np_reti k125 rfl rfl
-- 126 SpoonNavy.carryOut
theorem k126 : np_P.1 126 = np_c126 := rfl
theorem e126_0 (x : Nat) {l0 l2 l3 l4 : Option Value} {st : List Value} {σ : nv_St} : np_X 126 0 [l0, some (.ref x), l2, l3, l4] st σ = np_X 126 1 [l0, some (.ref x), l2, l3, l4] (.ref x :: st) σ := np_op k126 rfl rfl
theorem e126_0u  {l0 l2 l3 l4 : Option Value} {st : List Value} {σ : nv_St} : np_X 126 0 [l0, some .null, l2, l3, l4] st σ = np_X 126 1 [l0, some .null, l2, l3, l4] (.null :: st) σ := np_op k126 rfl rfl
theorem e126_1 {ls : nv_Ls} {st : List Value} {σ : nv_St} : np_X 126 1 ls st σ = np_X 126 2 ls (.int (0) :: st) σ := np_op k126 rfl rfl
theorem e126_2 {ls : nv_Ls} {st : List Value} {σ : nv_St} {a : Nat} {x0 : Int32} (h : st.length ≤ 4) (h0 : nv_isO σ 1 a = true) : np_X 126 2 ls (.int x0 :: .ref a :: st) σ = np_aft 126 2 5 ls st (np_X 22 0 [some (.ref a), some (.int x0)] [] σ) := np_call k126 rfl (Nat.le_add_left 2 _) rfl rfl h rfl h0 rfl
theorem e126_5n (x : Int32) {l0 l2 l3 l4 : Option Value} {st : List Value} {σ : nv_St} : np_X 126 5 [l0, none, l2, l3, l4] (.int x :: st) σ = np_X 126 6 [l0, none, some (.int x), l3, l4] st σ := np_op k126 rfl rfl
theorem e126_5i (x : Int32) {z : Int32} {l0 l2 l3 l4 : Option Value} {st : List Value} {σ : nv_St} : np_X 126 5 [l0, some (.int z), l2, l3, l4] (.int x :: st) σ = np_X 126 6 [l0, some (.int z), some (.int x), l3, l4] st σ := np_op k126 rfl rfl
theorem e126_5r (x : Int32) {z : Nat} {l0 l2 l3 l4 : Option Value} {st : List Value} {σ : nv_St} : np_X 126 5 [l0, some (.ref z), l2, l3, l4] (.int x :: st) σ = np_X 126 6 [l0, some (.ref z), some (.int x), l3, l4] st σ := np_op k126 rfl rfl
theorem e126_5v (x : Int32) {l0 l2 l3 l4 : Option Value} {st : List Value} {σ : nv_St} : np_X 126 5 [l0, some .null, l2, l3, l4] (.int x :: st) σ = np_X 126 6 [l0, some .null, some (.int x), l3, l4] st σ := np_op k126 rfl rfl
theorem e126_6 (x : Nat) {l0 l2 l3 l4 : Option Value} {st : List Value} {σ : nv_St} : np_X 126 6 [l0, some (.ref x), l2, l3, l4] st σ = np_X 126 7 [l0, some (.ref x), l2, l3, l4] (.ref x :: st) σ := np_op k126 rfl rfl
theorem e126_6u  {l0 l2 l3 l4 : Option Value} {st : List Value} {σ : nv_St} : np_X 126 6 [l0, some .null, l2, l3, l4] st σ = np_X 126 7 [l0, some .null, l2, l3, l4] (.null :: st) σ := np_op k126 rfl rfl
theorem e126_7 {ls : nv_Ls} {st : List Value} {σ : nv_St} : np_X 126 7 ls st σ = np_X 126 8 ls (.int (1) :: st) σ := np_op k126 rfl rfl
theorem e126_8 {ls : nv_Ls} {st : List Value} {σ : nv_St} {a : Nat} {x0 : Int32} (h : st.length ≤ 4) (h0 : nv_isO σ 1 a = true) : np_X 126 8 ls (.int x0 :: .ref a :: st) σ = np_aft 126 8 11 ls st (np_X 22 0 [some (.ref a), some (.int x0)] [] σ) := np_call k126 rfl (Nat.le_add_left 2 _) rfl rfl h rfl h0 rfl
theorem e126_11n (x : Int32) {l0 l1 l3 l4 : Option Value} {st : List Value} {σ : nv_St} : np_X 126 11 [l0, l1, none, l3, l4] (.int x :: st) σ = np_X 126 12 [l0, l1, none, some (.int x), l4] st σ := np_op k126 rfl rfl
theorem e126_11i (x : Int32) {z : Int32} {l0 l1 l3 l4 : Option Value} {st : List Value} {σ : nv_St} : np_X 126 11 [l0, l1, some (.int z), l3, l4] (.int x :: st) σ = np_X 126 12 [l0, l1, some (.int z), some (.int x), l4] st σ := np_op k126 rfl rfl
theorem e126_11r (x : Int32) {z : Nat} {l0 l1 l3 l4 : Option Value} {st : List Value} {σ : nv_St} : np_X 126 11 [l0, l1, some (.ref z), l3, l4] (.int x :: st) σ = np_X 126 12 [l0, l1, some (.ref z), some (.int x), l4] st σ := np_op k126 rfl rfl
theorem e126_11v (x : Int32) {l0 l1 l3 l4 : Option Value} {st : List Value} {σ : nv_St} : np_X 126 11 [l0, l1, some .null, l3, l4] (.int x :: st) σ = np_X 126 12 [l0, l1, some .null, some (.int x), l4] st σ := np_op k126 rfl rfl
theorem e126_12 (x : Nat) {l0 l2 l3 l4 : Option Value} {st : List Value} {σ : nv_St} : np_X 126 12 [l0, some (.ref x), l2, l3, l4] st σ = np_X 126 13 [l0, some (.ref x), l2, l3, l4] (.ref x :: st) σ := np_op k126 rfl rfl
theorem e126_12u  {l0 l2 l3 l4 : Option Value} {st : List Value} {σ : nv_St} : np_X 126 12 [l0, some .null, l2, l3, l4] st σ = np_X 126 13 [l0, some .null, l2, l3, l4] (.null :: st) σ := np_op k126 rfl rfl
theorem e126_13 {ls : nv_Ls} {st : List Value} {σ : nv_St} : np_X 126 13 ls st σ = np_X 126 14 ls (.int (2) :: st) σ := np_op k126 rfl rfl
theorem e126_14 {ls : nv_Ls} {st : List Value} {σ : nv_St} {a : Nat} {x0 : Int32} (h : st.length ≤ 4) (h0 : nv_isO σ 1 a = true) : np_X 126 14 ls (.int x0 :: .ref a :: st) σ = np_aft 126 14 17 ls st (np_X 22 0 [some (.ref a), some (.int x0)] [] σ) := np_call k126 rfl (Nat.le_add_left 2 _) rfl rfl h rfl h0 rfl
theorem e126_17n (x : Int32) {l0 l1 l2 l4 : Option Value} {st : List Value} {σ : nv_St} : np_X 126 17 [l0, l1, l2, none, l4] (.int x :: st) σ = np_X 126 19 [l0, l1, l2, none, some (.int x)] st σ := np_op k126 rfl rfl
theorem e126_17i (x : Int32) {z : Int32} {l0 l1 l2 l4 : Option Value} {st : List Value} {σ : nv_St} : np_X 126 17 [l0, l1, l2, some (.int z), l4] (.int x :: st) σ = np_X 126 19 [l0, l1, l2, some (.int z), some (.int x)] st σ := np_op k126 rfl rfl
theorem e126_17r (x : Int32) {z : Nat} {l0 l1 l2 l4 : Option Value} {st : List Value} {σ : nv_St} : np_X 126 17 [l0, l1, l2, some (.ref z), l4] (.int x :: st) σ = np_X 126 19 [l0, l1, l2, some (.ref z), some (.int x)] st σ := np_op k126 rfl rfl
theorem e126_17v (x : Int32) {l0 l1 l2 l4 : Option Value} {st : List Value} {σ : nv_St} : np_X 126 17 [l0, l1, l2, some .null, l4] (.int x :: st) σ = np_X 126 19 [l0, l1, l2, some .null, some (.int x)] st σ := np_op k126 rfl rfl
theorem e126_19 {ls : nv_Ls} {st : List Value} {σ : nv_St} : np_X 126 19 ls st σ = np_X 126 22 ls (.ref 1000301 :: st) σ := np_op k126 rfl rfl
theorem e126_22 (x : Nat) {l0 l2 l3 l4 : Option Value} {st : List Value} {σ : nv_St} : np_X 126 22 [l0, some (.ref x), l2, l3, l4] st σ = np_X 126 23 [l0, some (.ref x), l2, l3, l4] (.ref x :: st) σ := np_op k126 rfl rfl
theorem e126_22u  {l0 l2 l3 l4 : Option Value} {st : List Value} {σ : nv_St} : np_X 126 22 [l0, some .null, l2, l3, l4] st σ = np_X 126 23 [l0, some .null, l2, l3, l4] (.null :: st) σ := np_op k126 rfl rfl
theorem e126_23 {ls : nv_Ls} {st : List Value} {σ : nv_St} {a : Nat} : np_X 126 23 ls (.ref a :: st) σ = np_b (nv_fld σ 1 6 a) (fun v => np_X 126 26 ls (v :: st) σ) := np_get k126 rfl
theorem e126_26 {ls : nv_Ls} {st : List Value} {σ : nv_St} {a : Nat}  (h : st.length ≤ 4) (h0 : 1000200 ≤ a) (h1 : a < 1000208) : np_X 126 26 ls (.ref a :: st) σ = np_aft 126 26 29 ls st (np_X 7 0 [some (.ref a)] [] σ) := np_call k126 rfl (Nat.le_add_left 1 _) rfl rfl h rfl (decide_eq_true ⟨h0, h1⟩) rfl
theorem e126_29 {ls : nv_Ls} {st : List Value} {σ : nv_St} {x : Int32} (h : ¬ x < 0) : np_X 126 29 ls (.int x :: .ref 1000301 :: st) σ = np_b (nv_swv[x.toNatClampNeg]?) (fun v => np_X 126 30 ls (v :: st) σ) := np_sald k126 rfl h
theorem e126_30 {ls : nv_Ls} {st : List Value} {σ : nv_St} {x : Int32} : np_X 126 30 ls (.int x :: st) σ = np_X 126 (np_sw (1) [72, 94, 102, 112, 123, 134, 146] 156 x) ls st σ := np_tsw k126 rfl
theorem e126_72 (x : Nat) {l1 l2 l3 l4 : Option Value} {st : List Value} {σ : nv_St} : np_X 126 72 [some (.ref x), l1, l2, l3, l4] st σ = np_X 126 73 [some (.ref x), l1, l2, l3, l4] (.ref x :: st) σ := np_op k126 rfl rfl
theorem e126_72u  {l1 l2 l3 l4 : Option Value} {st : List Value} {σ : nv_St} : np_X 126 72 [some .null, l1, l2, l3, l4] st σ = np_X 126 73 [some .null, l1, l2, l3, l4] (.null :: st) σ := np_op k126 rfl rfl
theorem e126_73 {ls : nv_Ls} {st : List Value} {σ : nv_St} {a : Nat} : np_X 126 73 ls (.ref a :: st) σ = np_b (nv_fld σ 5 0 a) (fun v => np_X 126 76 ls (v :: st) σ) := np_get k126 rfl
theorem e126_76 (x : Int32) {l0 l1 l3 l4 : Option Value} {st : List Value} {σ : nv_St} : np_X 126 76 [l0, l1, some (.int x), l3, l4] st σ = np_X 126 77 [l0, l1, some (.int x), l3, l4] (.int x :: st) σ := np_op k126 rfl rfl
theorem e126_77 (x : Int32) {l0 l1 l2 l4 : Option Value} {st : List Value} {σ : nv_St} : np_X 126 77 [l0, l1, l2, some (.int x), l4] st σ = np_X 126 78 [l0, l1, l2, some (.int x), l4] (.int x :: st) σ := np_op k126 rfl rfl
theorem e126_78 (x : Int32) {l0 l1 l2 l3 : Option Value} {st : List Value} {σ : nv_St} : np_X 126 78 [l0, l1, l2, l3, some (.int x)] st σ = np_X 126 80 [l0, l1, l2, l3, some (.int x)] (.int x :: st) σ := np_op k126 rfl rfl
theorem e126_80 (x : Nat) {l0 l2 l3 l4 : Option Value} {st : List Value} {σ : nv_St} : np_X 126 80 [l0, some (.ref x), l2, l3, l4] st σ = np_X 126 81 [l0, some (.ref x), l2, l3, l4] (.ref x :: st) σ := np_op k126 rfl rfl
theorem e126_80u  {l0 l2 l3 l4 : Option Value} {st : List Value} {σ : nv_St} : np_X 126 80 [l0, some .null, l2, l3, l4] st σ = np_X 126 81 [l0, some .null, l2, l3, l4] (.null :: st) σ := np_op k126 rfl rfl
theorem e126_81 {ls : nv_Ls} {st : List Value} {σ : nv_St} : np_X 126 81 ls st σ = np_X 126 82 ls (.int (3) :: st) σ := np_op k126 rfl rfl
theorem e126_82 {ls : nv_Ls} {st : List Value} {σ : nv_St} {a : Nat} {x0 : Int32} (h : st.length ≤ 4) (h0 : nv_isO σ 1 a = true) : np_X 126 82 ls (.int x0 :: .ref a :: st) σ = np_aft 126 82 85 ls st (np_X 22 0 [some (.ref a), some (.int x0)] [] σ) := np_call k126 rfl (Nat.le_add_left 2 _) rfl rfl h rfl h0 rfl
theorem e126_85 (x : Nat) {l0 l2 l3 l4 : Option Value} {st : List Value} {σ : nv_St} : np_X 126 85 [l0, some (.ref x), l2, l3, l4] st σ = np_X 126 86 [l0, some (.ref x), l2, l3, l4] (.ref x :: st) σ := np_op k126 rfl rfl
theorem e126_85u  {l0 l2 l3 l4 : Option Value} {st : List Value} {σ : nv_St} : np_X 126 85 [l0, some .null, l2, l3, l4] st σ = np_X 126 86 [l0, some .null, l2, l3, l4] (.null :: st) σ := np_op k126 rfl rfl
theorem e126_86 {ls : nv_Ls} {st : List Value} {σ : nv_St} : np_X 126 86 ls st σ = np_X 126 87 ls (.int (4) :: st) σ := np_op k126 rfl rfl
theorem e126_87 {ls : nv_Ls} {st : List Value} {σ : nv_St} {a : Nat} {x0 : Int32} (h : st.length ≤ 4) (h0 : nv_isO σ 1 a = true) : np_X 126 87 ls (.int x0 :: .ref a :: st) σ = np_aft 126 87 90 ls st (np_X 22 0 [some (.ref a), some (.int x0)] [] σ) := np_call k126 rfl (Nat.le_add_left 2 _) rfl rfl h rfl h0 rfl
theorem e126_90 {ls : nv_Ls} {st : List Value} {σ : nv_St} {a : Nat} {x0 : Int32} {x1 : Int32} {x2 : Int32} {x3 : Int32} {x4 : Int32} (h : st.length ≤ 4) (h0 : nv_isO σ 2 a = true) : np_X 126 90 ls (.int x4 :: .int x3 :: .int x2 :: .int x1 :: .int x0 :: .ref a :: st) σ = np_aft 126 90 93 ls st (np_X 44 0 [some (.ref a), some (.int x0), some (.int x1), some (.int x2), some (.int x3), some (.int x4), none, none] [] σ) := np_call k126 rfl (Nat.le_add_left 6 _) rfl rfl h rfl h0 rfl
theorem e126_93 {ls : nv_Ls} {σ : nv_St} {x : Int32} : np_X 126 93 ls [.int x] σ = some (.inl (some (.int x)), σ) := np_reti k126 rfl rfl
theorem e126_94 (x : Nat) {l1 l2 l3 l4 : Option Value} {st : List Value} {σ : nv_St} : np_X 126 94 [some (.ref x), l1, l2, l3, l4] st σ = np_X 126 95 [some (.ref x), l1, l2, l3, l4] (.ref x :: st) σ := np_op k126 rfl rfl
theorem e126_94u  {l1 l2 l3 l4 : Option Value} {st : List Value} {σ : nv_St} : np_X 126 94 [some .null, l1, l2, l3, l4] st σ = np_X 126 95 [some .null, l1, l2, l3, l4] (.null :: st) σ := np_op k126 rfl rfl
theorem e126_95 {ls : nv_Ls} {st : List Value} {σ : nv_St} {a : Nat} : np_X 126 95 ls (.ref a :: st) σ = np_b (nv_fld σ 5 0 a) (fun v => np_X 126 98 ls (v :: st) σ) := np_get k126 rfl
theorem e126_98 {ls : nv_Ls} {st : List Value} {σ : nv_St} {a : Nat}  (h : st.length ≤ 4) (h0 : nv_isO σ 2 a = true) : np_X 126 98 ls (.ref a :: st) σ = np_aft 126 98 101 ls st (np_X 45 0 [some (.ref a)] [] σ) := np_call k126 rfl (Nat.le_add_left 1 _) rfl rfl h rfl h0 rfl
theorem e126_101 {ls : nv_Ls} {σ : nv_St} {x : Int32} : np_X 126 101 ls [.int x] σ = some (.inl (some (.int x)), σ) := np_reti k126 rfl rfl
theorem e126_102 (x : Nat) {l1 l2 l3 l4 : Option Value} {st : List Value} {σ : nv_St} : np_X 126 102 [some (.ref x), l1, l2, l3, l4] st σ = np_X 126 103 [some (.ref x), l1, l2, l3, l4] (.ref x :: st) σ := np_op k126 rfl rfl
theorem e126_102u  {l1 l2 l3 l4 : Option Value} {st : List Value} {σ : nv_St} : np_X 126 102 [some .null, l1, l2, l3, l4] st σ = np_X 126 103 [some .null, l1, l2, l3, l4] (.null :: st) σ := np_op k126 rfl rfl
theorem e126_103 {ls : nv_Ls} {st : List Value} {σ : nv_St} {a : Nat} : np_X 126 103 ls (.ref a :: st) σ = np_b (nv_fld σ 5 0 a) (fun v => np_X 126 106 ls (v :: st) σ) := np_get k126 rfl
theorem e126_106 (x : Int32) {l0 l1 l3 l4 : Option Value} {st : List Value} {σ : nv_St} : np_X 126 106 [l0, l1, some (.int x), l3, l4] st σ = np_X 126 107 [l0, l1, some (.int x), l3, l4] (.int x :: st) σ := np_op k126 rfl rfl
theorem e126_107 (x : Int32) {l0 l1 l2 l4 : Option Value} {st : List Value} {σ : nv_St} : np_X 126 107 [l0, l1, l2, some (.int x), l4] st σ = np_X 126 108 [l0, l1, l2, some (.int x), l4] (.int x :: st) σ := np_op k126 rfl rfl
theorem e126_108 {ls : nv_Ls} {st : List Value} {σ : nv_St} {a : Nat} {x0 : Int32} {x1 : Int32} (h : st.length ≤ 4) (h0 : nv_isO σ 2 a = true) : np_X 126 108 ls (.int x1 :: .int x0 :: .ref a :: st) σ = np_aft 126 108 111 ls st (np_X 47 0 [some (.ref a), some (.int x0), some (.int x1), none, none, none] [] σ) := np_call k126 rfl (Nat.le_add_left 3 _) rfl rfl h rfl h0 rfl
theorem e126_111 {ls : nv_Ls} {σ : nv_St} {x : Int32} : np_X 126 111 ls [.int x] σ = some (.inl (some (.int x)), σ) := np_reti k126 rfl rfl
theorem e126_112 (x : Nat) {l1 l2 l3 l4 : Option Value} {st : List Value} {σ : nv_St} : np_X 126 112 [some (.ref x), l1, l2, l3, l4] st σ = np_X 126 113 [some (.ref x), l1, l2, l3, l4] (.ref x :: st) σ := np_op k126 rfl rfl
theorem e126_112u  {l1 l2 l3 l4 : Option Value} {st : List Value} {σ : nv_St} : np_X 126 112 [some .null, l1, l2, l3, l4] st σ = np_X 126 113 [some .null, l1, l2, l3, l4] (.null :: st) σ := np_op k126 rfl rfl
theorem e126_113 {ls : nv_Ls} {st : List Value} {σ : nv_St} {a : Nat} : np_X 126 113 ls (.ref a :: st) σ = np_b (nv_fld σ 5 0 a) (fun v => np_X 126 116 ls (v :: st) σ) := np_get k126 rfl
theorem e126_116 (x : Int32) {l0 l1 l3 l4 : Option Value} {st : List Value} {σ : nv_St} : np_X 126 116 [l0, l1, some (.int x), l3, l4] st σ = np_X 126 117 [l0, l1, some (.int x), l3, l4] (.int x :: st) σ := np_op k126 rfl rfl
theorem e126_117 (x : Int32) {l0 l1 l2 l4 : Option Value} {st : List Value} {σ : nv_St} : np_X 126 117 [l0, l1, l2, some (.int x), l4] st σ = np_X 126 118 [l0, l1, l2, some (.int x), l4] (.int x :: st) σ := np_op k126 rfl rfl
theorem e126_118 {ls : nv_Ls} {st : List Value} {σ : nv_St} : np_X 126 118 ls st σ = np_X 126 119 ls (.int (0) :: st) σ := np_op k126 rfl rfl
theorem e126_119 {ls : nv_Ls} {st : List Value} {σ : nv_St} {a : Nat} {x0 : Int32} {x1 : Int32} {x2 : Int32} (h : st.length ≤ 4) (h0 : nv_isO σ 2 a = true) : np_X 126 119 ls (.int x2 :: .int x1 :: .int x0 :: .ref a :: st) σ = np_aft 126 119 122 ls st (np_X 48 0 [some (.ref a), some (.int x0), some (.int x1), some (.int x2), none, none, none] [] σ) := np_call k126 rfl (Nat.le_add_left 4 _) rfl rfl h rfl h0 rfl
theorem e126_122 {ls : nv_Ls} {σ : nv_St} {x : Int32} : np_X 126 122 ls [.int x] σ = some (.inl (some (.int x)), σ) := np_reti k126 rfl rfl
theorem e126_123 (x : Nat) {l1 l2 l3 l4 : Option Value} {st : List Value} {σ : nv_St} : np_X 126 123 [some (.ref x), l1, l2, l3, l4] st σ = np_X 126 124 [some (.ref x), l1, l2, l3, l4] (.ref x :: st) σ := np_op k126 rfl rfl
theorem e126_123u  {l1 l2 l3 l4 : Option Value} {st : List Value} {σ : nv_St} : np_X 126 123 [some .null, l1, l2, l3, l4] st σ = np_X 126 124 [some .null, l1, l2, l3, l4] (.null :: st) σ := np_op k126 rfl rfl
theorem e126_124 {ls : nv_Ls} {st : List Value} {σ : nv_St} {a : Nat} : np_X 126 124 ls (.ref a :: st) σ = np_b (nv_fld σ 5 0 a) (fun v => np_X 126 127 ls (v :: st) σ) := np_get k126 rfl
theorem e126_127 (x : Int32) {l0 l1 l3 l4 : Option Value} {st : List Value} {σ : nv_St} : np_X 126 127 [l0, l1, some (.int x), l3, l4] st σ = np_X 126 128 [l0, l1, some (.int x), l3, l4] (.int x :: st) σ := np_op k126 rfl rfl
theorem e126_128 (x : Int32) {l0 l1 l2 l4 : Option Value} {st : List Value} {σ : nv_St} : np_X 126 128 [l0, l1, l2, some (.int x), l4] st σ = np_X 126 129 [l0, l1, l2, some (.int x), l4] (.int x :: st) σ := np_op k126 rfl rfl
theorem e126_129 {ls : nv_Ls} {st : List Value} {σ : nv_St} : np_X 126 129 ls st σ = np_X 126 130 ls (.int (1) :: st) σ := np_op k126 rfl rfl
theorem e126_130 {ls : nv_Ls} {st : List Value} {σ : nv_St} {a : Nat} {x0 : Int32} {x1 : Int32} {x2 : Int32} (h : st.length ≤ 4) (h0 : nv_isO σ 2 a = true) : np_X 126 130 ls (.int x2 :: .int x1 :: .int x0 :: .ref a :: st) σ = np_aft 126 130 133 ls st (np_X 48 0 [some (.ref a), some (.int x0), some (.int x1), some (.int x2), none, none, none] [] σ) := np_call k126 rfl (Nat.le_add_left 4 _) rfl rfl h rfl h0 rfl
theorem e126_133 {ls : nv_Ls} {σ : nv_St} {x : Int32} : np_X 126 133 ls [.int x] σ = some (.inl (some (.int x)), σ) := np_reti k126 rfl rfl
theorem e126_134 (x : Nat) {l1 l2 l3 l4 : Option Value} {st : List Value} {σ : nv_St} : np_X 126 134 [some (.ref x), l1, l2, l3, l4] st σ = np_X 126 135 [some (.ref x), l1, l2, l3, l4] (.ref x :: st) σ := np_op k126 rfl rfl
theorem e126_134u  {l1 l2 l3 l4 : Option Value} {st : List Value} {σ : nv_St} : np_X 126 134 [some .null, l1, l2, l3, l4] st σ = np_X 126 135 [some .null, l1, l2, l3, l4] (.null :: st) σ := np_op k126 rfl rfl
theorem e126_135 {ls : nv_Ls} {st : List Value} {σ : nv_St} {a : Nat} : np_X 126 135 ls (.ref a :: st) σ = np_b (nv_fld σ 5 0 a) (fun v => np_X 126 138 ls (v :: st) σ) := np_get k126 rfl
theorem e126_138 (x : Int32) {l0 l1 l3 l4 : Option Value} {st : List Value} {σ : nv_St} : np_X 126 138 [l0, l1, some (.int x), l3, l4] st σ = np_X 126 139 [l0, l1, some (.int x), l3, l4] (.int x :: st) σ := np_op k126 rfl rfl
theorem e126_139 (x : Int32) {l0 l1 l2 l4 : Option Value} {st : List Value} {σ : nv_St} : np_X 126 139 [l0, l1, l2, some (.int x), l4] st σ = np_X 126 140 [l0, l1, l2, some (.int x), l4] (.int x :: st) σ := np_op k126 rfl rfl
theorem e126_140 (x : Int32) {l0 l1 l2 l3 : Option Value} {st : List Value} {σ : nv_St} : np_X 126 140 [l0, l1, l2, l3, some (.int x)] st σ = np_X 126 142 [l0, l1, l2, l3, some (.int x)] (.int x :: st) σ := np_op k126 rfl rfl
theorem e126_142 {ls : nv_Ls} {st : List Value} {σ : nv_St} {a : Nat} {x0 : Int32} {x1 : Int32} {x2 : Int32} (h : st.length ≤ 4) (h0 : nv_isO σ 2 a = true) : np_X 126 142 ls (.int x2 :: .int x1 :: .int x0 :: .ref a :: st) σ = np_aft 126 142 145 ls st (np_X 52 0 [some (.ref a), some (.int x0), some (.int x1), some (.int x2), none, none, none] [] σ) := np_call k126 rfl (Nat.le_add_left 4 _) rfl rfl h rfl h0 rfl
theorem e126_145 {ls : nv_Ls} {σ : nv_St} {x : Int32} : np_X 126 145 ls [.int x] σ = some (.inl (some (.int x)), σ) := np_reti k126 rfl rfl
theorem e126_146 (x : Nat) {l1 l2 l3 l4 : Option Value} {st : List Value} {σ : nv_St} : np_X 126 146 [some (.ref x), l1, l2, l3, l4] st σ = np_X 126 147 [some (.ref x), l1, l2, l3, l4] (.ref x :: st) σ := np_op k126 rfl rfl
theorem e126_146u  {l1 l2 l3 l4 : Option Value} {st : List Value} {σ : nv_St} : np_X 126 146 [some .null, l1, l2, l3, l4] st σ = np_X 126 147 [some .null, l1, l2, l3, l4] (.null :: st) σ := np_op k126 rfl rfl
theorem e126_147 {ls : nv_Ls} {st : List Value} {σ : nv_St} {a : Nat} : np_X 126 147 ls (.ref a :: st) σ = np_b (nv_fld σ 5 0 a) (fun v => np_X 126 150 ls (v :: st) σ) := np_get k126 rfl
theorem e126_150 (x : Int32) {l0 l1 l3 l4 : Option Value} {st : List Value} {σ : nv_St} : np_X 126 150 [l0, l1, some (.int x), l3, l4] st σ = np_X 126 151 [l0, l1, some (.int x), l3, l4] (.int x :: st) σ := np_op k126 rfl rfl
theorem e126_151 (x : Int32) {l0 l1 l2 l4 : Option Value} {st : List Value} {σ : nv_St} : np_X 126 151 [l0, l1, l2, some (.int x), l4] st σ = np_X 126 152 [l0, l1, l2, some (.int x), l4] (.int x :: st) σ := np_op k126 rfl rfl
theorem e126_152 {ls : nv_Ls} {st : List Value} {σ : nv_St} {a : Nat} {x0 : Int32} {x1 : Int32} (h : st.length ≤ 4) (h0 : nv_isO σ 2 a = true) : np_X 126 152 ls (.int x1 :: .int x0 :: .ref a :: st) σ = np_aft 126 152 155 ls st (np_X 54 0 [some (.ref a), some (.int x0), some (.int x1), none, none, none] [] σ) := np_call k126 rfl (Nat.le_add_left 3 _) rfl rfl h rfl h0 rfl
theorem e126_155 {ls : nv_Ls} {σ : nv_St} {x : Int32} : np_X 126 155 ls [.int x] σ = some (.inl (some (.int x)), σ) := np_reti k126 rfl rfl
theorem e126_156 (x : Nat) {l1 l2 l3 l4 : Option Value} {st : List Value} {σ : nv_St} : np_X 126 156 [some (.ref x), l1, l2, l3, l4] st σ = np_X 126 157 [some (.ref x), l1, l2, l3, l4] (.ref x :: st) σ := np_op k126 rfl rfl
theorem e126_156u  {l1 l2 l3 l4 : Option Value} {st : List Value} {σ : nv_St} : np_X 126 156 [some .null, l1, l2, l3, l4] st σ = np_X 126 157 [some .null, l1, l2, l3, l4] (.null :: st) σ := np_op k126 rfl rfl
theorem e126_157 {ls : nv_Ls} {st : List Value} {σ : nv_St} {a : Nat} : np_X 126 157 ls (.ref a :: st) σ = np_b (nv_fld σ 5 0 a) (fun v => np_X 126 160 ls (v :: st) σ) := np_get k126 rfl
theorem e126_160 {ls : nv_Ls} {st : List Value} {σ : nv_St} {a : Nat}  (h : st.length ≤ 4) (h0 : nv_isO σ 2 a = true) : np_X 126 160 ls (.ref a :: st) σ = np_aft 126 160 163 ls st (np_X 46 0 [some (.ref a)] [] σ) := np_call k126 rfl (Nat.le_add_left 1 _) rfl rfl h rfl h0 rfl
theorem e126_163 {ls : nv_Ls} {σ : nv_St} {x : Int32} : np_X 126 163 ls [.int x] σ = some (.inl (some (.int x)), σ) := np_reti k126 rfl rfl
-- 127 SpoonNavy.existing
theorem k127 : np_P.1 127 = np_c127 := rfl
theorem e127_0 (x : Nat) {l1 l2 : Option Value} {st : List Value} {σ : nv_St} : np_X 127 0 [some (.ref x), l1, l2] st σ = np_X 127 1 [some (.ref x), l1, l2] (.ref x :: st) σ := np_op k127 rfl rfl
theorem e127_0u  {l1 l2 : Option Value} {st : List Value} {σ : nv_St} : np_X 127 0 [some .null, l1, l2] st σ = np_X 127 1 [some .null, l1, l2] (.null :: st) σ := np_op k127 rfl rfl
theorem e127_1 {ls : nv_Ls} {st : List Value} {σ : nv_St} {a : Nat} : np_X 127 1 ls (.ref a :: st) σ = np_b (nv_fld σ 5 0 a) (fun v => np_X 127 4 ls (v :: st) σ) := np_get k127 rfl
theorem e127_4 (x : Int32) {l0 l2 : Option Value} {st : List Value} {σ : nv_St} : np_X 127 4 [l0, some (.int x), l2] st σ = np_X 127 5 [l0, some (.int x), l2] (.int x :: st) σ := np_op k127 rfl rfl
theorem e127_5 {ls : nv_Ls} {st : List Value} {σ : nv_St} {a : Nat} {x0 : Int32} (h : st.length ≤ 4) (h0 : nv_isO σ 2 a = true) : np_X 127 5 ls (.int x0 :: .ref a :: st) σ = np_aft 127 5 8 ls st (np_X 28 0 [some (.ref a), some (.int x0)] [] σ) := np_call k127 rfl (Nat.le_add_left 2 _) rfl rfl h rfl h0 rfl
theorem e127_8n (x : Nat) {l0 l2 : Option Value} {st : List Value} {σ : nv_St} : np_X 127 8 [l0, none, l2] (.ref x :: st) σ = np_X 127 9 [l0, none, some (.ref x)] st σ := np_op k127 rfl rfl
theorem e127_8i (x : Nat) {z : Int32} {l0 l2 : Option Value} {st : List Value} {σ : nv_St} : np_X 127 8 [l0, some (.int z), l2] (.ref x :: st) σ = np_X 127 9 [l0, some (.int z), some (.ref x)] st σ := np_op k127 rfl rfl
theorem e127_8r (x : Nat) {z : Nat} {l0 l2 : Option Value} {st : List Value} {σ : nv_St} : np_X 127 8 [l0, some (.ref z), l2] (.ref x :: st) σ = np_X 127 9 [l0, some (.ref z), some (.ref x)] st σ := np_op k127 rfl rfl
theorem e127_8v (x : Nat) {l0 l2 : Option Value} {st : List Value} {σ : nv_St} : np_X 127 8 [l0, some .null, l2] (.ref x :: st) σ = np_X 127 9 [l0, some .null, some (.ref x)] st σ := np_op k127 rfl rfl
theorem e127_8un  {l0 l2 : Option Value} {st : List Value} {σ : nv_St} : np_X 127 8 [l0, none, l2] (.null :: st) σ = np_X 127 9 [l0, none, some .null] st σ := np_op k127 rfl rfl
theorem e127_8ui  {z : Int32} {l0 l2 : Option Value} {st : List Value} {σ : nv_St} : np_X 127 8 [l0, some (.int z), l2] (.null :: st) σ = np_X 127 9 [l0, some (.int z), some .null] st σ := np_op k127 rfl rfl
theorem e127_8ur  {z : Nat} {l0 l2 : Option Value} {st : List Value} {σ : nv_St} : np_X 127 8 [l0, some (.ref z), l2] (.null :: st) σ = np_X 127 9 [l0, some (.ref z), some .null] st σ := np_op k127 rfl rfl
theorem e127_8uv  {l0 l2 : Option Value} {st : List Value} {σ : nv_St} : np_X 127 8 [l0, some .null, l2] (.null :: st) σ = np_X 127 9 [l0, some .null, some .null] st σ := np_op k127 rfl rfl
theorem e127_9 (x : Nat) {l0 l1 : Option Value} {st : List Value} {σ : nv_St} : np_X 127 9 [l0, l1, some (.ref x)] st σ = np_X 127 10 [l0, l1, some (.ref x)] (.ref x :: st) σ := np_op k127 rfl rfl
theorem e127_9u  {l0 l1 : Option Value} {st : List Value} {σ : nv_St} : np_X 127 9 [l0, l1, some .null] st σ = np_X 127 10 [l0, l1, some .null] (.null :: st) σ := np_op k127 rfl rfl
theorem e127_10 {ls : nv_Ls} {st : List Value} {σ : nv_St} {a : Nat} (h : a < 1000000) : np_X 127 10 ls (.ref a :: st) σ = np_X 127 24 ls st σ := np_ifnonnull k127 rfl h
theorem e127_10u {ls : nv_Ls} {st : List Value} {σ : nv_St} : np_X 127 10 ls (.null :: st) σ = np_X 127 13 ls st σ := np_op k127 rfl rfl
theorem e127_13 {ls : nv_Ls} {σ : nv_St} : np_X 127 13 ls [] σ = some (.inr "java/lang/IndexOutOfBoundsException", nv_bump σ) := np_thr k127 rfl
theorem e127_24 (x : Nat) {l0 l1 : Option Value} {st : List Value} {σ : nv_St} : np_X 127 24 [l0, l1, some (.ref x)] st σ = np_X 127 25 [l0, l1, some (.ref x)] (.ref x :: st) σ := np_op k127 rfl rfl
theorem e127_24u  {l0 l1 : Option Value} {st : List Value} {σ : nv_St} : np_X 127 24 [l0, l1, some .null] st σ = np_X 127 25 [l0, l1, some .null] (.null :: st) σ := np_op k127 rfl rfl
theorem e127_25 {ls : nv_Ls} {σ : nv_St} {a : Nat} : np_X 127 25 ls [.ref a] σ = some (.inl (some (.ref a)), σ) := np_ret k127 rfl rfl
theorem e127_25u {ls : nv_Ls} {σ : nv_St} : np_X 127 25 ls [.null] σ = some (.inl (some .null), σ) := np_ret k127 rfl rfl
-- 128 SpoonNavy.existingAfloat
theorem k128 : np_P.1 128 = np_c128 := rfl
theorem e128_0 (x : Nat) {l1 l2 : Option Value} {st : List Value} {σ : nv_St} : np_X 128 0 [some (.ref x), l1, l2] st σ = np_X 128 1 [some (.ref x), l1, l2] (.ref x :: st) σ := np_op k128 rfl rfl
theorem e128_0u  {l1 l2 : Option Value} {st : List Value} {σ : nv_St} : np_X 128 0 [some .null, l1, l2] st σ = np_X 128 1 [some .null, l1, l2] (.null :: st) σ := np_op k128 rfl rfl
theorem e128_1 (x : Int32) {l0 l2 : Option Value} {st : List Value} {σ : nv_St} : np_X 128 1 [l0, some (.int x), l2] st σ = np_X 128 2 [l0, some (.int x), l2] (.int x :: st) σ := np_op k128 rfl rfl
theorem e128_2 {ls : nv_Ls} {st : List Value} {σ : nv_St} {a : Nat} {x0 : Int32} (h : st.length ≤ 4) (h0 : nv_isO σ 5 a = true) : np_X 128 2 ls (.int x0 :: .ref a :: st) σ = np_aft 128 2 5 ls st (np_X 127 0 [some (.ref a), some (.int x0), none] [] σ) := np_call k128 rfl (Nat.le_add_left 2 _) rfl rfl h rfl h0 rfl
theorem e128_5n (x : Nat) {l0 l2 : Option Value} {st : List Value} {σ : nv_St} : np_X 128 5 [l0, none, l2] (.ref x :: st) σ = np_X 128 6 [l0, none, some (.ref x)] st σ := np_op k128 rfl rfl
theorem e128_5i (x : Nat) {z : Int32} {l0 l2 : Option Value} {st : List Value} {σ : nv_St} : np_X 128 5 [l0, some (.int z), l2] (.ref x :: st) σ = np_X 128 6 [l0, some (.int z), some (.ref x)] st σ := np_op k128 rfl rfl
theorem e128_5r (x : Nat) {z : Nat} {l0 l2 : Option Value} {st : List Value} {σ : nv_St} : np_X 128 5 [l0, some (.ref z), l2] (.ref x :: st) σ = np_X 128 6 [l0, some (.ref z), some (.ref x)] st σ := np_op k128 rfl rfl
theorem e128_5v (x : Nat) {l0 l2 : Option Value} {st : List Value} {σ : nv_St} : np_X 128 5 [l0, some .null, l2] (.ref x :: st) σ = np_X 128 6 [l0, some .null, some (.ref x)] st σ := np_op k128 rfl rfl
theorem e128_5un  {l0 l2 : Option Value} {st : List Value} {σ : nv_St} : np_X 128 5 [l0, none, l2] (.null :: st) σ = np_X 128 6 [l0, none, some .null] st σ := np_op k128 rfl rfl
theorem e128_5ui  {z : Int32} {l0 l2 : Option Value} {st : List Value} {σ : nv_St} : np_X 128 5 [l0, some (.int z), l2] (.null :: st) σ = np_X 128 6 [l0, some (.int z), some .null] st σ := np_op k128 rfl rfl
theorem e128_5ur  {z : Nat} {l0 l2 : Option Value} {st : List Value} {σ : nv_St} : np_X 128 5 [l0, some (.ref z), l2] (.null :: st) σ = np_X 128 6 [l0, some (.ref z), some .null] st σ := np_op k128 rfl rfl
theorem e128_5uv  {l0 l2 : Option Value} {st : List Value} {σ : nv_St} : np_X 128 5 [l0, some .null, l2] (.null :: st) σ = np_X 128 6 [l0, some .null, some .null] st σ := np_op k128 rfl rfl
theorem e128_6 (x : Nat) {l0 l1 : Option Value} {st : List Value} {σ : nv_St} : np_X 128 6 [l0, l1, some (.ref x)] st σ = np_X 128 7 [l0, l1, some (.ref x)] (.ref x :: st) σ := np_op k128 rfl rfl
theorem e128_6u  {l0 l1 : Option Value} {st : List Value} {σ : nv_St} : np_X 128 6 [l0, l1, some .null] st σ = np_X 128 7 [l0, l1, some .null] (.null :: st) σ := np_op k128 rfl rfl
theorem e128_7 {ls : nv_Ls} {st : List Value} {σ : nv_St} {a : Nat}  (h : st.length ≤ 4) (h0 : nv_isO σ 4 a = true) : np_X 128 7 ls (.ref a :: st) σ = np_aft 128 7 10 ls st (np_X 62 0 [some (.ref a)] [] σ) := np_call k128 rfl (Nat.le_add_left 1 _) rfl rfl h rfl h0 rfl
theorem e128_10 {ls : nv_Ls} {st : List Value} {σ : nv_St} {x : Int32} : np_X 128 10 ls (.int x :: st) σ = if x = 0 then np_X 128 13 ls st σ else np_X 128 24 ls st σ := np_br inferInstance k128 rfl rfl
theorem e128_13 {ls : nv_Ls} {σ : nv_St} : np_X 128 13 ls [] σ = some (.inr "java/util/NoSuchElementException", nv_bump σ) := np_thr k128 rfl
theorem e128_24 (x : Nat) {l0 l1 : Option Value} {st : List Value} {σ : nv_St} : np_X 128 24 [l0, l1, some (.ref x)] st σ = np_X 128 25 [l0, l1, some (.ref x)] (.ref x :: st) σ := np_op k128 rfl rfl
theorem e128_24u  {l0 l1 : Option Value} {st : List Value} {σ : nv_St} : np_X 128 24 [l0, l1, some .null] st σ = np_X 128 25 [l0, l1, some .null] (.null :: st) σ := np_op k128 rfl rfl
theorem e128_25 {ls : nv_Ls} {σ : nv_St} {a : Nat} : np_X 128 25 ls [.ref a] σ = some (.inl (some (.ref a)), σ) := np_ret k128 rfl rfl
theorem e128_25u {ls : nv_Ls} {σ : nv_St} : np_X 128 25 ls [.null] σ = some (.inl (some .null), σ) := np_ret k128 rfl rfl
-- 129 SpoonNavy.requireGoingOn
theorem k129 : np_P.1 129 = np_c129 := rfl
theorem e129_0 (x : Nat) {st : List Value} {σ : nv_St} : np_X 129 0 [some (.ref x)] st σ = np_X 129 1 [some (.ref x)] (.ref x :: st) σ := np_op k129 rfl rfl
theorem e129_0u  {st : List Value} {σ : nv_St} : np_X 129 0 [some .null] st σ = np_X 129 1 [some .null] (.null :: st) σ := np_op k129 rfl rfl
theorem e129_1 {ls : nv_Ls} {st : List Value} {σ : nv_St} {a : Nat} : np_X 129 1 ls (.ref a :: st) σ = np_b (nv_fld σ 5 0 a) (fun v => np_X 129 4 ls (v :: st) σ) := np_get k129 rfl
theorem e129_4 {ls : nv_Ls} {st : List Value} {σ : nv_St} {a : Nat}  (h : st.length ≤ 4) (h0 : nv_isO σ 2 a = true) : np_X 129 4 ls (.ref a :: st) σ = np_aft 129 4 7 ls st (np_X 31 0 [some (.ref a)] [] σ) := np_call k129 rfl (Nat.le_add_left 1 _) rfl rfl h rfl h0 rfl
theorem e129_7 {ls : nv_Ls} {st : List Value} {σ : nv_St} {x : Int32} : np_X 129 7 ls (.int x :: st) σ = if x = 0 then np_X 129 10 ls st σ else np_X 129 21 ls st σ := np_br inferInstance k129 rfl rfl
theorem e129_10 {ls : nv_Ls} {σ : nv_St} : np_X 129 10 ls [] σ = some (.inr "java/lang/IllegalStateException", nv_bump σ) := np_thr k129 rfl
theorem e129_21 {ls : nv_Ls} {σ : nv_St} : np_X 129 21 ls [] σ = some (.inl none, σ) := np_ret k129 rfl rfl
-- 130 SpoonNavy.requireFleet
theorem k130 : np_P.1 130 = np_c130 := rfl
theorem e130_0 (x : Int32) {st : List Value} {σ : nv_St} : np_X 130 0 [some (.int x)] st σ = np_X 130 1 [some (.int x)] (.int x :: st) σ := np_op k130 rfl rfl
theorem e130_1 {ls : nv_Ls} {st : List Value} {σ : nv_St}  {x0 : Int32} (h : st.length ≤ 4) : np_X 130 1 ls (.int x0 :: st) σ = np_aft 130 1 4 ls st (np_X 132 0 [some (.int x0)] [] σ) := np_call k130 rfl (Nat.le_add_left 1 _) rfl rfl h rfl rfl rfl
theorem e130_4 {ls : nv_Ls} {st : List Value} {σ : nv_St} {x : Int32} : np_X 130 4 ls (.int x :: st) σ = if x = 0 then np_X 130 7 ls st σ else np_X 130 18 ls st σ := np_br inferInstance k130 rfl rfl
theorem e130_7 {ls : nv_Ls} {σ : nv_St} : np_X 130 7 ls [] σ = some (.inr "java/lang/IndexOutOfBoundsException", nv_bump σ) := np_thr k130 rfl
theorem e130_18 {ls : nv_Ls} {σ : nv_St} : np_X 130 18 ls [] σ = some (.inl none, σ) := np_ret k130 rfl rfl
-- 131 SpoonNavy.requireCell
theorem k131 : np_P.1 131 = np_c131 := rfl
theorem e131_0 (x : Int32) {l1 : Option Value} {st : List Value} {σ : nv_St} : np_X 131 0 [some (.int x), l1] st σ = np_X 131 1 [some (.int x), l1] (.int x :: st) σ := np_op k131 rfl rfl
theorem e131_1 (x : Int32) {l0 : Option Value} {st : List Value} {σ : nv_St} : np_X 131 1 [l0, some (.int x)] st σ = np_X 131 2 [l0, some (.int x)] (.int x :: st) σ := np_op k131 rfl rfl
theorem e131_2 {ls : nv_Ls} {st : List Value} {σ : nv_St}  {x0 : Int32} {x1 : Int32} (h : st.length ≤ 4) : np_X 131 2 ls (.int x1 :: .int x0 :: st) σ = np_aft 131 2 5 ls st (np_X 133 0 [some (.int x0), some (.int x1)] [] σ) := np_call k131 rfl (Nat.le_add_left 2 _) rfl rfl h rfl rfl rfl
theorem e131_5 {ls : nv_Ls} {st : List Value} {σ : nv_St} {x : Int32} : np_X 131 5 ls (.int x :: st) σ = if x = 0 then np_X 131 8 ls st σ else np_X 131 19 ls st σ := np_br inferInstance k131 rfl rfl
theorem e131_8 {ls : nv_Ls} {σ : nv_St} : np_X 131 8 ls [] σ = some (.inr "java/lang/IllegalArgumentException", nv_bump σ) := np_thr k131 rfl
theorem e131_19 {ls : nv_Ls} {σ : nv_St} : np_X 131 19 ls [] σ = some (.inl none, σ) := np_ret k131 rfl rfl
-- 132 SpoonNavy.isFleet
theorem k132 : np_P.1 132 = np_c132 := rfl
theorem e132_0 (x : Int32) {st : List Value} {σ : nv_St} : np_X 132 0 [some (.int x)] st σ = np_X 132 1 [some (.int x)] (.int x :: st) σ := np_op k132 rfl rfl
theorem e132_1 {ls : nv_Ls} {st : List Value} {σ : nv_St} {x : Int32} : np_X 132 1 ls (.int x :: st) σ = if x = 0 then np_X 132 9 ls st σ else np_X 132 4 ls st σ := np_br inferInstance k132 rfl rfl
theorem e132_4 (x : Int32) {st : List Value} {σ : nv_St} : np_X 132 4 [some (.int x)] st σ = np_X 132 5 [some (.int x)] (.int x :: st) σ := np_op k132 rfl rfl
theorem e132_5 {ls : nv_Ls} {st : List Value} {σ : nv_St} : np_X 132 5 ls st σ = np_X 132 6 ls (.int (1) :: st) σ := np_op k132 rfl rfl
theorem e132_6 {ls : nv_Ls} {st : List Value} {σ : nv_St} {x y : Int32} : np_X 132 6 ls (.int y :: .int x :: st) σ = if x = y then np_X 132 9 ls st σ else np_X 132 13 ls st σ := np_br inferInstance k132 rfl rfl
theorem e132_9 {ls : nv_Ls} {st : List Value} {σ : nv_St} : np_X 132 9 ls st σ = np_X 132 10 ls (.int (1) :: st) σ := np_op k132 rfl rfl
theorem e132_10 {ls : nv_Ls} {st : List Value} {σ : nv_St} : np_X 132 10 ls st σ = np_X 132 14 ls st σ := np_op k132 rfl rfl
theorem e132_13 {ls : nv_Ls} {st : List Value} {σ : nv_St} : np_X 132 13 ls st σ = np_X 132 14 ls (.int (0) :: st) σ := np_op k132 rfl rfl
theorem e132_14 {ls : nv_Ls} {σ : nv_St} {x : Int32} (h : narrow .boolean (.int x) = .int x) : np_X 132 14 ls [.int x] σ = some (.inl (some (.int x)), σ) := np_reti k132 rfl h
-- 133 SpoonNavy.isOnTray
theorem k133 : np_P.1 133 = np_c133 := rfl
theorem e133_0 (x : Int32) {l1 : Option Value} {st : List Value} {σ : nv_St} : np_X 133 0 [some (.int x), l1] st σ = np_X 133 1 [some (.int x), l1] (.int x :: st) σ := np_op k133 rfl rfl
theorem e133_1 {ls : nv_Ls} {st : List Value} {σ : nv_St} {x : Int32} : np_X 133 1 ls (.int x :: st) σ = if x < 0 then np_X 133 24 ls st σ else np_X 133 4 ls st σ := np_br inferInstance k133 rfl rfl
theorem e133_4 (x : Int32) {l1 : Option Value} {st : List Value} {σ : nv_St} : np_X 133 4 [some (.int x), l1] st σ = np_X 133 5 [some (.int x), l1] (.int x :: st) σ := np_op k133 rfl rfl
theorem e133_5 {ls : nv_Ls} {st : List Value} {σ : nv_St} : np_X 133 5 ls st σ = np_X 133 7 ls (.int (10) :: st) σ := np_op k133 rfl rfl
theorem e133_7 {ls : nv_Ls} {st : List Value} {σ : nv_St} {x y : Int32} : np_X 133 7 ls (.int y :: .int x :: st) σ = if x < y then np_X 133 10 ls st σ else np_X 133 24 ls st σ := np_br inferInstance k133 rfl rfl
theorem e133_10 (x : Int32) {l0 : Option Value} {st : List Value} {σ : nv_St} : np_X 133 10 [l0, some (.int x)] st σ = np_X 133 11 [l0, some (.int x)] (.int x :: st) σ := np_op k133 rfl rfl
theorem e133_11 {ls : nv_Ls} {st : List Value} {σ : nv_St} {x : Int32} : np_X 133 11 ls (.int x :: st) σ = if x < 0 then np_X 133 24 ls st σ else np_X 133 14 ls st σ := np_br inferInstance k133 rfl rfl
theorem e133_14 (x : Int32) {l0 : Option Value} {st : List Value} {σ : nv_St} : np_X 133 14 [l0, some (.int x)] st σ = np_X 133 15 [l0, some (.int x)] (.int x :: st) σ := np_op k133 rfl rfl
theorem e133_15 {ls : nv_Ls} {st : List Value} {σ : nv_St} : np_X 133 15 ls st σ = np_X 133 17 ls (.int (10) :: st) σ := np_op k133 rfl rfl
theorem e133_17 {ls : nv_Ls} {st : List Value} {σ : nv_St} {x y : Int32} : np_X 133 17 ls (.int y :: .int x :: st) σ = if x < y then np_X 133 20 ls st σ else np_X 133 24 ls st σ := np_br inferInstance k133 rfl rfl
theorem e133_20 {ls : nv_Ls} {st : List Value} {σ : nv_St} : np_X 133 20 ls st σ = np_X 133 21 ls (.int (1) :: st) σ := np_op k133 rfl rfl
theorem e133_21 {ls : nv_Ls} {st : List Value} {σ : nv_St} : np_X 133 21 ls st σ = np_X 133 25 ls st σ := np_op k133 rfl rfl
theorem e133_24 {ls : nv_Ls} {st : List Value} {σ : nv_St} : np_X 133 24 ls st σ = np_X 133 25 ls (.int (0) :: st) σ := np_op k133 rfl rfl
theorem e133_25 {ls : nv_Ls} {σ : nv_St} {x : Int32} (h : narrow .boolean (.int x) = .int x) : np_X 133 25 ls [.int x] σ = some (.inl (some (.int x)), σ) := np_reti k133 rfl h
-- 134 SpoonNavy.isBearing
theorem k134 : np_P.1 134 = np_c134 := rfl
theorem e134_0 (x : Int32) {st : List Value} {σ : nv_St} : np_X 134 0 [some (.int x)] st σ = np_X 134 1 [some (.int x)] (.int x :: st) σ := np_op k134 rfl rfl
theorem e134_1 {ls : nv_Ls} {st : List Value} {σ : nv_St} {x : Int32} : np_X 134 1 ls (.int x :: st) σ = if x < 0 then np_X 134 14 ls st σ else np_X 134 4 ls st σ := np_br inferInstance k134 rfl rfl
theorem e134_4 (x : Int32) {st : List Value} {σ : nv_St} : np_X 134 4 [some (.int x)] st σ = np_X 134 5 [some (.int x)] (.int x :: st) σ := np_op k134 rfl rfl
theorem e134_5 {ls : nv_Ls} {st : List Value} {σ : nv_St} : np_X 134 5 ls st σ = np_X 134 7 ls (.int (8) :: st) σ := np_op k134 rfl rfl
theorem e134_7 {ls : nv_Ls} {st : List Value} {σ : nv_St} {x y : Int32} : np_X 134 7 ls (.int y :: .int x :: st) σ = if x < y then np_X 134 10 ls st σ else np_X 134 14 ls st σ := np_br inferInstance k134 rfl rfl
theorem e134_10 {ls : nv_Ls} {st : List Value} {σ : nv_St} : np_X 134 10 ls st σ = np_X 134 11 ls (.int (1) :: st) σ := np_op k134 rfl rfl
theorem e134_11 {ls : nv_Ls} {st : List Value} {σ : nv_St} : np_X 134 11 ls st σ = np_X 134 15 ls st σ := np_op k134 rfl rfl
theorem e134_14 {ls : nv_Ls} {st : List Value} {σ : nv_St} : np_X 134 14 ls st σ = np_X 134 15 ls (.int (0) :: st) σ := np_op k134 rfl rfl
theorem e134_15 {ls : nv_Ls} {σ : nv_St} {x : Int32} (h : narrow .boolean (.int x) = .int x) : np_X 134 15 ls [.int x] σ = some (.inl (some (.int x)), σ) := np_reti k134 rfl h
-- 135 SpoonNavy.isCubeNumber
theorem k135 : np_P.1 135 = np_c135 := rfl
theorem e135_0 (x : Int32) {st : List Value} {σ : nv_St} : np_X 135 0 [some (.int x)] st σ = np_X 135 1 [some (.int x)] (.int x :: st) σ := np_op k135 rfl rfl
theorem e135_1 {ls : nv_Ls} {st : List Value} {σ : nv_St} : np_X 135 1 ls st σ = np_X 135 2 ls (.int (1) :: st) σ := np_op k135 rfl rfl
theorem e135_2 {ls : nv_Ls} {st : List Value} {σ : nv_St} {x y : Int32} : np_X 135 2 ls (.int y :: .int x :: st) σ = if x < y then np_X 135 15 ls st σ else np_X 135 5 ls st σ := np_br inferInstance k135 rfl rfl
theorem e135_5 (x : Int32) {st : List Value} {σ : nv_St} : np_X 135 5 [some (.int x)] st σ = np_X 135 6 [some (.int x)] (.int x :: st) σ := np_op k135 rfl rfl
theorem e135_6 {ls : nv_Ls} {st : List Value} {σ : nv_St} : np_X 135 6 ls st σ = np_X 135 8 ls (.int (9) :: st) σ := np_op k135 rfl rfl
theorem e135_8 {ls : nv_Ls} {st : List Value} {σ : nv_St} {x y : Int32} : np_X 135 8 ls (.int y :: .int x :: st) σ = if y < x then np_X 135 15 ls st σ else np_X 135 11 ls st σ := np_br inferInstance k135 rfl rfl
theorem e135_11 {ls : nv_Ls} {st : List Value} {σ : nv_St} : np_X 135 11 ls st σ = np_X 135 12 ls (.int (1) :: st) σ := np_op k135 rfl rfl
theorem e135_12 {ls : nv_Ls} {st : List Value} {σ : nv_St} : np_X 135 12 ls st σ = np_X 135 16 ls st σ := np_op k135 rfl rfl
theorem e135_15 {ls : nv_Ls} {st : List Value} {σ : nv_St} : np_X 135 15 ls st σ = np_X 135 16 ls (.int (0) :: st) σ := np_op k135 rfl rfl
theorem e135_16 {ls : nv_Ls} {σ : nv_St} {x : Int32} (h : narrow .boolean (.int x) = .int x) : np_X 135 16 ls [.int x] σ = some (.inl (some (.int x)), σ) := np_reti k135 rfl h
-- 136 SpoonNavy.stepX
theorem k136 : np_P.1 136 = np_c136 := rfl
theorem e136_0 (x : Int32) {st : List Value} {σ : nv_St} : np_X 136 0 [some (.int x)] st σ = np_X 136 1 [some (.int x)] (.int x :: st) σ := np_op k136 rfl rfl
theorem e136_1 {ls : nv_Ls} {st : List Value} {σ : nv_St} {x : Int32} : np_X 136 1 ls (.int x :: st) σ = if x = 0 then np_X 136 9 ls st σ else np_X 136 4 ls st σ := np_br inferInstance k136 rfl rfl
theorem e136_4 (x : Int32) {st : List Value} {σ : nv_St} : np_X 136 4 [some (.int x)] st σ = np_X 136 5 [some (.int x)] (.int x :: st) σ := np_op k136 rfl rfl
theorem e136_5 {ls : nv_Ls} {st : List Value} {σ : nv_St} : np_X 136 5 ls st σ = np_X 136 6 ls (.int (4) :: st) σ := np_op k136 rfl rfl
theorem e136_6 {ls : nv_Ls} {st : List Value} {σ : nv_St} {x y : Int32} : np_X 136 6 ls (.int y :: .int x :: st) σ = if x = y then np_X 136 9 ls st σ else np_X 136 11 ls st σ := np_br inferInstance k136 rfl rfl
theorem e136_9 {ls : nv_Ls} {st : List Value} {σ : nv_St} : np_X 136 9 ls st σ = np_X 136 10 ls (.int (0) :: st) σ := np_op k136 rfl rfl
theorem e136_10 {ls : nv_Ls} {σ : nv_St} {x : Int32} : np_X 136 10 ls [.int x] σ = some (.inl (some (.int x)), σ) := np_reti k136 rfl rfl
theorem e136_11 (x : Int32) {st : List Value} {σ : nv_St} : np_X 136 11 [some (.int x)] st σ = np_X 136 12 [some (.int x)] (.int x :: st) σ := np_op k136 rfl rfl
theorem e136_12 {ls : nv_Ls} {st : List Value} {σ : nv_St} : np_X 136 12 ls st σ = np_X 136 13 ls (.int (4) :: st) σ := np_op k136 rfl rfl
theorem e136_13 {ls : nv_Ls} {st : List Value} {σ : nv_St} {x y : Int32} : np_X 136 13 ls (.int y :: .int x :: st) σ = if x < y then np_X 136 16 ls st σ else np_X 136 20 ls st σ := np_br inferInstance k136 rfl rfl
theorem e136_16 {ls : nv_Ls} {st : List Value} {σ : nv_St} : np_X 136 16 ls st σ = np_X 136 17 ls (.int (1) :: st) σ := np_op k136 rfl rfl
theorem e136_17 {ls : nv_Ls} {st : List Value} {σ : nv_St} : np_X 136 17 ls st σ = np_X 136 21 ls st σ := np_op k136 rfl rfl
theorem e136_20 {ls : nv_Ls} {st : List Value} {σ : nv_St} : np_X 136 20 ls st σ = np_X 136 21 ls (.int (-1) :: st) σ := np_op k136 rfl rfl
theorem e136_21 {ls : nv_Ls} {σ : nv_St} {x : Int32} : np_X 136 21 ls [.int x] σ = some (.inl (some (.int x)), σ) := np_reti k136 rfl rfl
-- 137 SpoonNavy.stepY
theorem k137 : np_P.1 137 = np_c137 := rfl
theorem e137_0 (x : Int32) {st : List Value} {σ : nv_St} : np_X 137 0 [some (.int x)] st σ = np_X 137 1 [some (.int x)] (.int x :: st) σ := np_op k137 rfl rfl
theorem e137_1 {ls : nv_Ls} {st : List Value} {σ : nv_St} : np_X 137 1 ls st σ = np_X 137 2 ls (.int (2) :: st) σ := np_op k137 rfl rfl
theorem e137_2 {ls : nv_Ls} {st : List Value} {σ : nv_St} {x y : Int32} : np_X 137 2 ls (.int y :: .int x :: st) σ = if x = y then np_X 137 11 ls st σ else np_X 137 5 ls st σ := np_br inferInstance k137 rfl rfl
theorem e137_5 (x : Int32) {st : List Value} {σ : nv_St} : np_X 137 5 [some (.int x)] st σ = np_X 137 6 [some (.int x)] (.int x :: st) σ := np_op k137 rfl rfl
theorem e137_6 {ls : nv_Ls} {st : List Value} {σ : nv_St} : np_X 137 6 ls st σ = np_X 137 8 ls (.int (6) :: st) σ := np_op k137 rfl rfl
theorem e137_8 {ls : nv_Ls} {st : List Value} {σ : nv_St} {x y : Int32} : np_X 137 8 ls (.int y :: .int x :: st) σ = if x = y then np_X 137 11 ls st σ else np_X 137 13 ls st σ := np_br inferInstance k137 rfl rfl
theorem e137_11 {ls : nv_Ls} {st : List Value} {σ : nv_St} : np_X 137 11 ls st σ = np_X 137 12 ls (.int (0) :: st) σ := np_op k137 rfl rfl
theorem e137_12 {ls : nv_Ls} {σ : nv_St} {x : Int32} : np_X 137 12 ls [.int x] σ = some (.inl (some (.int x)), σ) := np_reti k137 rfl rfl
theorem e137_13 (x : Int32) {st : List Value} {σ : nv_St} : np_X 137 13 [some (.int x)] st σ = np_X 137 14 [some (.int x)] (.int x :: st) σ := np_op k137 rfl rfl
theorem e137_14 {ls : nv_Ls} {st : List Value} {σ : nv_St} : np_X 137 14 ls st σ = np_X 137 15 ls (.int (2) :: st) σ := np_op k137 rfl rfl
theorem e137_15 {ls : nv_Ls} {st : List Value} {σ : nv_St} {x y : Int32} : np_X 137 15 ls (.int y :: .int x :: st) σ = if y < x then np_X 137 18 ls st σ else np_X 137 28 ls st σ := np_br inferInstance k137 rfl rfl
theorem e137_18 (x : Int32) {st : List Value} {σ : nv_St} : np_X 137 18 [some (.int x)] st σ = np_X 137 19 [some (.int x)] (.int x :: st) σ := np_op k137 rfl rfl
theorem e137_19 {ls : nv_Ls} {st : List Value} {σ : nv_St} : np_X 137 19 ls st σ = np_X 137 21 ls (.int (6) :: st) σ := np_op k137 rfl rfl
theorem e137_21 {ls : nv_Ls} {st : List Value} {σ : nv_St} {x y : Int32} : np_X 137 21 ls (.int y :: .int x :: st) σ = if x < y then np_X 137 24 ls st σ else np_X 137 28 ls st σ := np_br inferInstance k137 rfl rfl
theorem e137_24 {ls : nv_Ls} {st : List Value} {σ : nv_St} : np_X 137 24 ls st σ = np_X 137 25 ls (.int (-1) :: st) σ := np_op k137 rfl rfl
theorem e137_25 {ls : nv_Ls} {st : List Value} {σ : nv_St} : np_X 137 25 ls st σ = np_X 137 29 ls st σ := np_op k137 rfl rfl
theorem e137_28 {ls : nv_Ls} {st : List Value} {σ : nv_St} : np_X 137 28 ls st σ = np_X 137 29 ls (.int (1) :: st) σ := np_op k137 rfl rfl
theorem e137_29 {ls : nv_Ls} {σ : nv_St} {x : Int32} : np_X 137 29 ls [.int x] σ = some (.inl (some (.int x)), σ) := np_reti k137 rfl rfl
-- 138 SpoonNavy.directionOf
theorem k138 : np_P.1 138 = np_c138 := rfl
theorem e138_0 (x : Int32) {l1 l2 l3 : Option Value} {st : List Value} {σ : nv_St} : np_X 138 0 [some (.int x), l1, l2, l3] st σ = np_X 138 1 [some (.int x), l1, l2, l3] (.int x :: st) σ := np_op k138 rfl rfl
theorem e138_1 {ls : nv_Ls} {st : List Value} {σ : nv_St} {x : Int32} (h : st.length ≤ 4) : np_X 138 1 ls (.int x :: st) σ = np_X 138 4 ls (.int (if 0 ≤ x then x else 0 - x) :: st) σ := np_abs k138 rfl h
theorem e138_4n (x : Int32) {l0 l2 l3 : Option Value} {st : List Value} {σ : nv_St} : np_X 138 4 [l0, none, l2, l3] (.int x :: st) σ = np_X 138 5 [l0, none, some (.int x), l3] st σ := np_op k138 rfl rfl
theorem e138_4i (x : Int32) {z : Int32} {l0 l2 l3 : Option Value} {st : List Value} {σ : nv_St} : np_X 138 4 [l0, some (.int z), l2, l3] (.int x :: st) σ = np_X 138 5 [l0, some (.int z), some (.int x), l3] st σ := np_op k138 rfl rfl
theorem e138_4r (x : Int32) {z : Nat} {l0 l2 l3 : Option Value} {st : List Value} {σ : nv_St} : np_X 138 4 [l0, some (.ref z), l2, l3] (.int x :: st) σ = np_X 138 5 [l0, some (.ref z), some (.int x), l3] st σ := np_op k138 rfl rfl
theorem e138_4v (x : Int32) {l0 l2 l3 : Option Value} {st : List Value} {σ : nv_St} : np_X 138 4 [l0, some .null, l2, l3] (.int x :: st) σ = np_X 138 5 [l0, some .null, some (.int x), l3] st σ := np_op k138 rfl rfl
theorem e138_5 (x : Int32) {l0 l2 l3 : Option Value} {st : List Value} {σ : nv_St} : np_X 138 5 [l0, some (.int x), l2, l3] st σ = np_X 138 6 [l0, some (.int x), l2, l3] (.int x :: st) σ := np_op k138 rfl rfl
theorem e138_6 {ls : nv_Ls} {st : List Value} {σ : nv_St} {x : Int32} (h : st.length ≤ 4) : np_X 138 6 ls (.int x :: st) σ = np_X 138 9 ls (.int (if 0 ≤ x then x else 0 - x) :: st) σ := np_abs k138 rfl h
theorem e138_9n (x : Int32) {l0 l1 l3 : Option Value} {st : List Value} {σ : nv_St} : np_X 138 9 [l0, l1, none, l3] (.int x :: st) σ = np_X 138 10 [l0, l1, none, some (.int x)] st σ := np_op k138 rfl rfl
theorem e138_9i (x : Int32) {z : Int32} {l0 l1 l3 : Option Value} {st : List Value} {σ : nv_St} : np_X 138 9 [l0, l1, some (.int z), l3] (.int x :: st) σ = np_X 138 10 [l0, l1, some (.int z), some (.int x)] st σ := np_op k138 rfl rfl
theorem e138_9r (x : Int32) {z : Nat} {l0 l1 l3 : Option Value} {st : List Value} {σ : nv_St} : np_X 138 9 [l0, l1, some (.ref z), l3] (.int x :: st) σ = np_X 138 10 [l0, l1, some (.ref z), some (.int x)] st σ := np_op k138 rfl rfl
theorem e138_9v (x : Int32) {l0 l1 l3 : Option Value} {st : List Value} {σ : nv_St} : np_X 138 9 [l0, l1, some .null, l3] (.int x :: st) σ = np_X 138 10 [l0, l1, some .null, some (.int x)] st σ := np_op k138 rfl rfl
theorem e138_10 (x : Int32) {l0 l1 l3 : Option Value} {st : List Value} {σ : nv_St} : np_X 138 10 [l0, l1, some (.int x), l3] st σ = np_X 138 11 [l0, l1, some (.int x), l3] (.int x :: st) σ := np_op k138 rfl rfl
theorem e138_11 {ls : nv_Ls} {st : List Value} {σ : nv_St} : np_X 138 11 ls st σ = np_X 138 12 ls (.int (2) :: st) σ := np_op k138 rfl rfl
theorem e138_12 (x : Int32) {l0 l1 l2 : Option Value} {st : List Value} {σ : nv_St} : np_X 138 12 [l0, l1, l2, some (.int x)] st σ = np_X 138 13 [l0, l1, l2, some (.int x)] (.int x :: st) σ := np_op k138 rfl rfl
theorem e138_13 {ls : nv_Ls} {st : List Value} {σ : nv_St} {x y : Int32} : np_X 138 13 ls (.int y :: .int x :: st) σ = np_X 138 14 ls (.int (x * y) :: st) σ := np_op k138 rfl rfl
theorem e138_14 {ls : nv_Ls} {st : List Value} {σ : nv_St} {x y : Int32} : np_X 138 14 ls (.int y :: .int x :: st) σ = if x < y then np_X 138 28 ls st σ else np_X 138 17 ls st σ := np_br inferInstance k138 rfl rfl
theorem e138_17 (x : Int32) {l1 l2 l3 : Option Value} {st : List Value} {σ : nv_St} : np_X 138 17 [some (.int x), l1, l2, l3] st σ = np_X 138 18 [some (.int x), l1, l2, l3] (.int x :: st) σ := np_op k138 rfl rfl
theorem e138_18 {ls : nv_Ls} {st : List Value} {σ : nv_St} {x : Int32} : np_X 138 18 ls (.int x :: st) σ = if 0 < x then np_X 138 21 ls st σ else np_X 138 25 ls st σ := np_br inferInstance k138 rfl rfl
theorem e138_21 {ls : nv_Ls} {st : List Value} {σ : nv_St} : np_X 138 21 ls st σ = np_X 138 22 ls (.int (2) :: st) σ := np_op k138 rfl rfl
theorem e138_22 {ls : nv_Ls} {st : List Value} {σ : nv_St} : np_X 138 22 ls st σ = np_X 138 27 ls st σ := np_op k138 rfl rfl
theorem e138_25 {ls : nv_Ls} {st : List Value} {σ : nv_St} : np_X 138 25 ls st σ = np_X 138 27 ls (.int (6) :: st) σ := np_op k138 rfl rfl
theorem e138_27 {ls : nv_Ls} {σ : nv_St} {x : Int32} : np_X 138 27 ls [.int x] σ = some (.inl (some (.int x)), σ) := np_reti k138 rfl rfl
theorem e138_28 (x : Int32) {l0 l1 l2 : Option Value} {st : List Value} {σ : nv_St} : np_X 138 28 [l0, l1, l2, some (.int x)] st σ = np_X 138 29 [l0, l1, l2, some (.int x)] (.int x :: st) σ := np_op k138 rfl rfl
theorem e138_29 {ls : nv_Ls} {st : List Value} {σ : nv_St} : np_X 138 29 ls st σ = np_X 138 30 ls (.int (2) :: st) σ := np_op k138 rfl rfl
theorem e138_30 (x : Int32) {l0 l1 l3 : Option Value} {st : List Value} {σ : nv_St} : np_X 138 30 [l0, l1, some (.int x), l3] st σ = np_X 138 31 [l0, l1, some (.int x), l3] (.int x :: st) σ := np_op k138 rfl rfl
theorem e138_31 {ls : nv_Ls} {st : List Value} {σ : nv_St} {x y : Int32} : np_X 138 31 ls (.int y :: .int x :: st) σ = np_X 138 32 ls (.int (x * y) :: st) σ := np_op k138 rfl rfl
theorem e138_32 {ls : nv_Ls} {st : List Value} {σ : nv_St} {x y : Int32} : np_X 138 32 ls (.int y :: .int x :: st) σ = if x < y then np_X 138 45 ls st σ else np_X 138 35 ls st σ := np_br inferInstance k138 rfl rfl
theorem e138_35 (x : Int32) {l0 l2 l3 : Option Value} {st : List Value} {σ : nv_St} : np_X 138 35 [l0, some (.int x), l2, l3] st σ = np_X 138 36 [l0, some (.int x), l2, l3] (.int x :: st) σ := np_op k138 rfl rfl
theorem e138_36 {ls : nv_Ls} {st : List Value} {σ : nv_St} {x : Int32} : np_X 138 36 ls (.int x :: st) σ = if 0 < x then np_X 138 39 ls st σ else np_X 138 43 ls st σ := np_br inferInstance k138 rfl rfl
theorem e138_39 {ls : nv_Ls} {st : List Value} {σ : nv_St} : np_X 138 39 ls st σ = np_X 138 40 ls (.int (0) :: st) σ := np_op k138 rfl rfl
theorem e138_40 {ls : nv_Ls} {st : List Value} {σ : nv_St} : np_X 138 40 ls st σ = np_X 138 44 ls st σ := np_op k138 rfl rfl
theorem e138_43 {ls : nv_Ls} {st : List Value} {σ : nv_St} : np_X 138 43 ls st σ = np_X 138 44 ls (.int (4) :: st) σ := np_op k138 rfl rfl
theorem e138_44 {ls : nv_Ls} {σ : nv_St} {x : Int32} : np_X 138 44 ls [.int x] σ = some (.inl (some (.int x)), σ) := np_reti k138 rfl rfl
theorem e138_45 (x : Int32) {l1 l2 l3 : Option Value} {st : List Value} {σ : nv_St} : np_X 138 45 [some (.int x), l1, l2, l3] st σ = np_X 138 46 [some (.int x), l1, l2, l3] (.int x :: st) σ := np_op k138 rfl rfl
theorem e138_46 {ls : nv_Ls} {st : List Value} {σ : nv_St} {x : Int32} : np_X 138 46 ls (.int x :: st) σ = if 0 < x then np_X 138 49 ls st σ else np_X 138 59 ls st σ := np_br inferInstance k138 rfl rfl
theorem e138_49 (x : Int32) {l0 l2 l3 : Option Value} {st : List Value} {σ : nv_St} : np_X 138 49 [l0, some (.int x), l2, l3] st σ = np_X 138 50 [l0, some (.int x), l2, l3] (.int x :: st) σ := np_op k138 rfl rfl
theorem e138_50 {ls : nv_Ls} {st : List Value} {σ : nv_St} {x : Int32} : np_X 138 50 ls (.int x :: st) σ = if 0 < x then np_X 138 53 ls st σ else np_X 138 57 ls st σ := np_br inferInstance k138 rfl rfl
theorem e138_53 {ls : nv_Ls} {st : List Value} {σ : nv_St} : np_X 138 53 ls st σ = np_X 138 54 ls (.int (1) :: st) σ := np_op k138 rfl rfl
theorem e138_54 {ls : nv_Ls} {st : List Value} {σ : nv_St} : np_X 138 54 ls st σ = np_X 138 58 ls st σ := np_op k138 rfl rfl
theorem e138_57 {ls : nv_Ls} {st : List Value} {σ : nv_St} : np_X 138 57 ls st σ = np_X 138 58 ls (.int (3) :: st) σ := np_op k138 rfl rfl
theorem e138_58 {ls : nv_Ls} {σ : nv_St} {x : Int32} : np_X 138 58 ls [.int x] σ = some (.inl (some (.int x)), σ) := np_reti k138 rfl rfl
theorem e138_59 (x : Int32) {l0 l2 l3 : Option Value} {st : List Value} {σ : nv_St} : np_X 138 59 [l0, some (.int x), l2, l3] st σ = np_X 138 60 [l0, some (.int x), l2, l3] (.int x :: st) σ := np_op k138 rfl rfl
theorem e138_60 {ls : nv_Ls} {st : List Value} {σ : nv_St} {x : Int32} : np_X 138 60 ls (.int x :: st) σ = if 0 < x then np_X 138 63 ls st σ else np_X 138 68 ls st σ := np_br inferInstance k138 rfl rfl
theorem e138_63 {ls : nv_Ls} {st : List Value} {σ : nv_St} : np_X 138 63 ls st σ = np_X 138 65 ls (.int (7) :: st) σ := np_op k138 rfl rfl
theorem e138_65 {ls : nv_Ls} {st : List Value} {σ : nv_St} : np_X 138 65 ls st σ = np_X 138 69 ls st σ := np_op k138 rfl rfl
theorem e138_68 {ls : nv_Ls} {st : List Value} {σ : nv_St} : np_X 138 68 ls st σ = np_X 138 69 ls (.int (5) :: st) σ := np_op k138 rfl rfl
theorem e138_69 {ls : nv_Ls} {σ : nv_St} {x : Int32} : np_X 138 69 ls [.int x] σ = some (.inl (some (.int x)), σ) := np_reti k138 rfl rfl
-- 139 SpoonNavy.stepsBetween
theorem k139 : np_P.1 139 = np_c139 := rfl
theorem e139_0 (x : Int32) {l1 l2 : Option Value} {st : List Value} {σ : nv_St} : np_X 139 0 [some (.int x), l1, l2] st σ = np_X 139 1 [some (.int x), l1, l2] (.int x :: st) σ := np_op k139 rfl rfl
theorem e139_1 (x : Int32) {l0 l2 : Option Value} {st : List Value} {σ : nv_St} : np_X 139 1 [l0, some (.int x), l2] st σ = np_X 139 2 [l0, some (.int x), l2] (.int x :: st) σ := np_op k139 rfl rfl
theorem e139_2 {ls : nv_Ls} {st : List Value} {σ : nv_St} {x y : Int32} : np_X 139 2 ls (.int y :: .int x :: st) σ = np_X 139 3 ls (.int (x - y) :: st) σ := np_op k139 rfl rfl
theorem e139_3 {ls : nv_Ls} {st : List Value} {σ : nv_St} {x : Int32} (h : st.length ≤ 4) : np_X 139 3 ls (.int x :: st) σ = np_X 139 6 ls (.int (if 0 ≤ x then x else 0 - x) :: st) σ := np_abs k139 rfl h
theorem e139_6n (x : Int32) {l0 l2 : Option Value} {st : List Value} {σ : nv_St} : np_X 139 6 [l0, none, l2] (.int x :: st) σ = np_X 139 7 [l0, none, some (.int x)] st σ := np_op k139 rfl rfl
theorem e139_6i (x : Int32) {z : Int32} {l0 l2 : Option Value} {st : List Value} {σ : nv_St} : np_X 139 6 [l0, some (.int z), l2] (.int x :: st) σ = np_X 139 7 [l0, some (.int z), some (.int x)] st σ := np_op k139 rfl rfl
theorem e139_6r (x : Int32) {z : Nat} {l0 l2 : Option Value} {st : List Value} {σ : nv_St} : np_X 139 6 [l0, some (.ref z), l2] (.int x :: st) σ = np_X 139 7 [l0, some (.ref z), some (.int x)] st σ := np_op k139 rfl rfl
theorem e139_6v (x : Int32) {l0 l2 : Option Value} {st : List Value} {σ : nv_St} : np_X 139 6 [l0, some .null, l2] (.int x :: st) σ = np_X 139 7 [l0, some .null, some (.int x)] st σ := np_op k139 rfl rfl
theorem e139_7 (x : Int32) {l0 l1 : Option Value} {st : List Value} {σ : nv_St} : np_X 139 7 [l0, l1, some (.int x)] st σ = np_X 139 8 [l0, l1, some (.int x)] (.int x :: st) σ := np_op k139 rfl rfl
theorem e139_8 {ls : nv_Ls} {st : List Value} {σ : nv_St} : np_X 139 8 ls st σ = np_X 139 10 ls (.int (8) :: st) σ := np_op k139 rfl rfl
theorem e139_10 (x : Int32) {l0 l1 : Option Value} {st : List Value} {σ : nv_St} : np_X 139 10 [l0, l1, some (.int x)] st σ = np_X 139 11 [l0, l1, some (.int x)] (.int x :: st) σ := np_op k139 rfl rfl
theorem e139_11 {ls : nv_Ls} {st : List Value} {σ : nv_St} {x y : Int32} : np_X 139 11 ls (.int y :: .int x :: st) σ = np_X 139 12 ls (.int (x - y) :: st) σ := np_op k139 rfl rfl
theorem e139_12 {ls : nv_Ls} {st : List Value} {σ : nv_St} {x y : Int32} (h : st.length ≤ 4) : np_X 139 12 ls (.int y :: .int x :: st) σ = np_X 139 15 ls (.int (if y < x then y else x) :: st) σ := np_min k139 rfl h
theorem e139_15 {ls : nv_Ls} {σ : nv_St} {x : Int32} : np_X 139 15 ls [.int x] σ = some (.inl (some (.int x)), σ) := np_reti k139 rfl rfl
-- 140 SpoonNavyLaw.cell
theorem k140 : np_P.1 140 = np_c140 := rfl
theorem e140_0 (x : Nat) {l1 : Option Value} {st : List Value} {σ : nv_St} : np_X 140 0 [some (.ref x), l1] st σ = np_X 140 1 [some (.ref x), l1] (.ref x :: st) σ := np_op k140 rfl rfl
theorem e140_0u  {l1 : Option Value} {st : List Value} {σ : nv_St} : np_X 140 0 [some .null, l1] st σ = np_X 140 1 [some .null, l1] (.null :: st) σ := np_op k140 rfl rfl
theorem e140_1 {ls : nv_Ls} {st : List Value} {σ : nv_St} : np_X 140 1 ls (.ref nv_scrA :: st) σ = np_X 140 2 ls (.int (Int32.ofNat σ.2.2.2.2.1) :: st) σ := np_op k140 rfl rfl
theorem e140_2 {ls : nv_Ls} {st : List Value} {σ : nv_St} {x : Int32} : np_X 140 2 ls (.int x :: st) σ = if x = 0 then np_X 140 5 ls st σ else np_X 140 13 ls st σ := np_br inferInstance k140 rfl rfl
theorem e140_5 {ls : nv_Ls} {st : List Value} {σ : nv_St} : np_X 140 5 ls st σ = np_X 140 8 ls (.int (577) :: st) σ := np_op k140 rfl rfl
theorem e140_8 (x : Int32) {l0 : Option Value} {st : List Value} {σ : nv_St} : np_X 140 8 [l0, some (.int x)] st σ = np_X 140 9 [l0, some (.int x)] (.int x :: st) σ := np_op k140 rfl rfl
theorem e140_9 {ls : nv_Ls} {st : List Value} {σ : nv_St} {x y : Int32} : np_X 140 9 ls (.int y :: .int x :: st) σ = np_X 140 10 ls (.int (x * y) :: st) σ := np_op k140 rfl rfl
theorem e140_10 {ls : nv_Ls} {st : List Value} {σ : nv_St} : np_X 140 10 ls st σ = np_X 140 22 ls st σ := np_op k140 rfl rfl
theorem e140_13 (x : Nat) {l1 : Option Value} {st : List Value} {σ : nv_St} : np_X 140 13 [some (.ref x), l1] st σ = np_X 140 14 [some (.ref x), l1] (.ref x :: st) σ := np_op k140 rfl rfl
theorem e140_13u  {l1 : Option Value} {st : List Value} {σ : nv_St} : np_X 140 13 [some .null, l1] st σ = np_X 140 14 [some .null, l1] (.null :: st) σ := np_op k140 rfl rfl
theorem e140_14 (x : Int32) {l0 : Option Value} {st : List Value} {σ : nv_St} : np_X 140 14 [l0, some (.int x)] st σ = np_X 140 15 [l0, some (.int x)] (.int x :: st) σ := np_op k140 rfl rfl
theorem e140_15 {ls : nv_Ls} {st : List Value} {σ : nv_St} : np_X 140 15 ls st σ = np_X 140 17 ls (.int (65535) :: st) σ := np_op k140 rfl rfl
theorem e140_17 {ls : nv_Ls} {st : List Value} {σ : nv_St} {x y : Int32} : np_X 140 17 ls (.int y :: .int x :: st) σ = np_X 140 18 ls (.int (x &&& y) :: st) σ := np_op k140 rfl rfl
theorem e140_18 (x : Nat) {l1 : Option Value} {st : List Value} {σ : nv_St} : np_X 140 18 [some (.ref x), l1] st σ = np_X 140 19 [some (.ref x), l1] (.ref x :: st) σ := np_op k140 rfl rfl
theorem e140_18u  {l1 : Option Value} {st : List Value} {σ : nv_St} : np_X 140 18 [some .null, l1] st σ = np_X 140 19 [some .null, l1] (.null :: st) σ := np_op k140 rfl rfl
theorem e140_19 {ls : nv_Ls} {st : List Value} {σ : nv_St} : np_X 140 19 ls (.ref nv_scrA :: st) σ = np_X 140 20 ls (.int (Int32.ofNat σ.2.2.2.2.1) :: st) σ := np_op k140 rfl rfl
theorem e140_20 {ls : nv_Ls} {st : List Value} {σ : nv_St} {x y : Int32} (h : ¬ y = 0) : np_X 140 20 ls (.int y :: .int x :: st) σ = np_X 140 21 ls (.int (x - x / y * y) :: st) σ := np_irem k140 rfl h
theorem e140_21 {ls : nv_Ls} {st : List Value} {σ : nv_St} {x : Int32} (h : ¬ x < 0) (h1 : x.toNatClampNeg < σ.2.2.2.2.1) : np_X 140 21 ls (.int x :: .ref nv_scrA :: st) σ = np_X 140 22 ls (.int (σ.2.2.2.2.2 x.toNatClampNeg) :: st) σ := np_sci k140 rfl h h1
theorem e140_22 {ls : nv_Ls} {σ : nv_St} {x : Int32} : np_X 140 22 ls [.int x] σ = some (.inl (some (.int x)), σ) := np_reti k140 rfl rfl
-- 141 SpoonNavyLaw.addSpoon
theorem k141 : np_P.1 141 = np_c141 := rfl
theorem e141_0 {ls : nv_Ls} {st : List Value} {σ : nv_St} : np_X 141 0 ls st σ = np_X 141 2 ls (.int (-100000000) :: st) σ := np_op k141 rfl rfl
theorem e141_2n (x : Int32) {l0 l1 l2 l3 l4 l6 l7 : Option Value} {st : List Value} {σ : nv_St} : np_X 141 2 [l0, l1, l2, l3, l4, none, l6, l7] (.int x :: st) σ = np_X 141 4 [l0, l1, l2, l3, l4, none, some (.int x), l7] st σ := np_op k141 rfl rfl
theorem e141_2i (x : Int32) {z : Int32} {l0 l1 l2 l3 l4 l6 l7 : Option Value} {st : List Value} {σ : nv_St} : np_X 141 2 [l0, l1, l2, l3, l4, some (.int z), l6, l7] (.int x :: st) σ = np_X 141 4 [l0, l1, l2, l3, l4, some (.int z), some (.int x), l7] st σ := np_op k141 rfl rfl
theorem e141_2r (x : Int32) {z : Nat} {l0 l1 l2 l3 l4 l6 l7 : Option Value} {st : List Value} {σ : nv_St} : np_X 141 2 [l0, l1, l2, l3, l4, some (.ref z), l6, l7] (.int x :: st) σ = np_X 141 4 [l0, l1, l2, l3, l4, some (.ref z), some (.int x), l7] st σ := np_op k141 rfl rfl
theorem e141_2v (x : Int32) {l0 l1 l2 l3 l4 l6 l7 : Option Value} {st : List Value} {σ : nv_St} : np_X 141 2 [l0, l1, l2, l3, l4, some .null, l6, l7] (.int x :: st) σ = np_X 141 4 [l0, l1, l2, l3, l4, some .null, some (.int x), l7] st σ := np_op k141 rfl rfl
theorem e141_4 (x : Nat) {l1 l2 l3 l4 l5 l6 l7 : Option Value} {st : List Value} {σ : nv_St} : np_X 141 4 [some (.ref x), l1, l2, l3, l4, l5, l6, l7] st σ = np_X 141 5 [some (.ref x), l1, l2, l3, l4, l5, l6, l7] (.ref x :: st) σ := np_op k141 rfl rfl
theorem e141_4u  {l1 l2 l3 l4 l5 l6 l7 : Option Value} {st : List Value} {σ : nv_St} : np_X 141 4 [some .null, l1, l2, l3, l4, l5, l6, l7] st σ = np_X 141 5 [some .null, l1, l2, l3, l4, l5, l6, l7] (.null :: st) σ := np_op k141 rfl rfl
theorem e141_5 (x : Int32) {l0 l2 l3 l4 l5 l6 l7 : Option Value} {st : List Value} {σ : nv_St} : np_X 141 5 [l0, some (.int x), l2, l3, l4, l5, l6, l7] st σ = np_X 141 6 [l0, some (.int x), l2, l3, l4, l5, l6, l7] (.int x :: st) σ := np_op k141 rfl rfl
theorem e141_6 (x : Int32) {l0 l1 l3 l4 l5 l6 l7 : Option Value} {st : List Value} {σ : nv_St} : np_X 141 6 [l0, l1, some (.int x), l3, l4, l5, l6, l7] st σ = np_X 141 7 [l0, l1, some (.int x), l3, l4, l5, l6, l7] (.int x :: st) σ := np_op k141 rfl rfl
theorem e141_7 (x : Int32) {l0 l1 l2 l4 l5 l6 l7 : Option Value} {st : List Value} {σ : nv_St} : np_X 141 7 [l0, l1, l2, some (.int x), l4, l5, l6, l7] st σ = np_X 141 8 [l0, l1, l2, some (.int x), l4, l5, l6, l7] (.int x :: st) σ := np_op k141 rfl rfl
theorem e141_8 (x : Int32) {l0 l1 l2 l3 l5 l6 l7 : Option Value} {st : List Value} {σ : nv_St} : np_X 141 8 [l0, l1, l2, l3, some (.int x), l5, l6, l7] st σ = np_X 141 10 [l0, l1, l2, l3, some (.int x), l5, l6, l7] (.int x :: st) σ := np_op k141 rfl rfl
theorem e141_10 (x : Int32) {l0 l1 l2 l3 l4 l6 l7 : Option Value} {st : List Value} {σ : nv_St} : np_X 141 10 [l0, l1, l2, l3, l4, some (.int x), l6, l7] st σ = np_X 141 12 [l0, l1, l2, l3, l4, some (.int x), l6, l7] (.int x :: st) σ := np_op k141 rfl rfl
theorem e141_12 {ls : nv_Ls} {st : List Value} {σ : nv_St} {a : Nat} {x0 : Int32} {x1 : Int32} {x2 : Int32} {x3 : Int32} {x4 : Int32} (h : st.length ≤ 4) (h0 : nv_isO σ 5 a = true) : np_X 141 12 ls (.int x4 :: .int x3 :: .int x2 :: .int x1 :: .int x0 :: .ref a :: st) σ = np_aft 141 12 15 ls st (np_X 72 0 [some (.ref a), some (.int x0), some (.int x1), some (.int x2), some (.int x3), some (.int x4)] [] σ) := np_call k141 rfl (Nat.le_add_left 6 _) rfl rfl h rfl h0 rfl
theorem e141_15n (x : Int32) {l0 l1 l2 l3 l4 l6 l7 : Option Value} {st : List Value} {σ : nv_St} : np_X 141 15 [l0, l1, l2, l3, l4, none, l6, l7] (.int x :: st) σ = np_X 141 17 [l0, l1, l2, l3, l4, none, some (.int x), l7] st σ := np_op k141 rfl rfl
theorem e141_15i (x : Int32) {z : Int32} {l0 l1 l2 l3 l4 l6 l7 : Option Value} {st : List Value} {σ : nv_St} : np_X 141 15 [l0, l1, l2, l3, l4, some (.int z), l6, l7] (.int x :: st) σ = np_X 141 17 [l0, l1, l2, l3, l4, some (.int z), some (.int x), l7] st σ := np_op k141 rfl rfl
theorem e141_15r (x : Int32) {z : Nat} {l0 l1 l2 l3 l4 l6 l7 : Option Value} {st : List Value} {σ : nv_St} : np_X 141 15 [l0, l1, l2, l3, l4, some (.ref z), l6, l7] (.int x :: st) σ = np_X 141 17 [l0, l1, l2, l3, l4, some (.ref z), some (.int x), l7] st σ := np_op k141 rfl rfl
theorem e141_15v (x : Int32) {l0 l1 l2 l3 l4 l6 l7 : Option Value} {st : List Value} {σ : nv_St} : np_X 141 15 [l0, l1, l2, l3, l4, some .null, l6, l7] (.int x :: st) σ = np_X 141 17 [l0, l1, l2, l3, l4, some .null, some (.int x), l7] st σ := np_op k141 rfl rfl
theorem e141_17 {ls : nv_Ls} {st : List Value} {σ : nv_St} : np_X 141 17 ls st σ = np_X 141 40 ls st σ := np_op k141 rfl rfl
theorem e141_22 {ls : nv_Ls} {st : List Value} {σ : nv_St} : np_X 141 22 ls st σ = np_X 141 24 ls (.int (-100000000) :: st) σ := np_op k141 rfl rfl
theorem e141_24 {ls : nv_Ls} {σ : nv_St} {x : Int32} : np_X 141 24 ls [.int x] σ = some (.inl (some (.int x)), σ) := np_reti k141 rfl rfl
theorem e141_27 {ls : nv_Ls} {st : List Value} {σ : nv_St} : np_X 141 27 ls st σ = np_X 141 29 ls (.int (-100000000) :: st) σ := np_op k141 rfl rfl
theorem e141_29 {ls : nv_Ls} {σ : nv_St} {x : Int32} : np_X 141 29 ls [.int x] σ = some (.inl (some (.int x)), σ) := np_reti k141 rfl rfl
theorem e141_32 {ls : nv_Ls} {st : List Value} {σ : nv_St} : np_X 141 32 ls st σ = np_X 141 34 ls (.int (-100000000) :: st) σ := np_op k141 rfl rfl
theorem e141_34 {ls : nv_Ls} {σ : nv_St} {x : Int32} : np_X 141 34 ls [.int x] σ = some (.inl (some (.int x)), σ) := np_reti k141 rfl rfl
theorem e141_37 {ls : nv_Ls} {st : List Value} {σ : nv_St} : np_X 141 37 ls st σ = np_X 141 39 ls (.int (-100000000) :: st) σ := np_op k141 rfl rfl
theorem e141_39 {ls : nv_Ls} {σ : nv_St} {x : Int32} : np_X 141 39 ls [.int x] σ = some (.inl (some (.int x)), σ) := np_reti k141 rfl rfl
theorem e141_40 (x : Int32) {l0 l1 l2 l3 l4 l5 l7 : Option Value} {st : List Value} {σ : nv_St} : np_X 141 40 [l0, l1, l2, l3, l4, l5, some (.int x), l7] st σ = np_X 141 42 [l0, l1, l2, l3, l4, l5, some (.int x), l7] (.int x :: st) σ := np_op k141 rfl rfl
theorem e141_42 {ls : nv_Ls} {σ : nv_St} {x : Int32} : np_X 141 42 ls [.int x] σ = some (.inl (some (.int x)), σ) := np_reti k141 rfl rfl
-- 142 SpoonNavyLaw.start
theorem k142 : np_P.1 142 = np_c142 := rfl
theorem e142_0 {ls : nv_Ls} {st : List Value} {σ : nv_St} : np_X 142 0 ls st σ = np_X 142 2 ls (.int (-100000000) :: st) σ := np_op k142 rfl rfl
theorem e142_2n (x : Int32) {l1 l2 : Option Value} {st : List Value} {σ : nv_St} : np_X 142 2 [none, l1, l2] (.int x :: st) σ = np_X 142 3 [none, some (.int x), l2] st σ := np_op k142 rfl rfl
theorem e142_2i (x : Int32) {z : Int32} {l1 l2 : Option Value} {st : List Value} {σ : nv_St} : np_X 142 2 [some (.int z), l1, l2] (.int x :: st) σ = np_X 142 3 [some (.int z), some (.int x), l2] st σ := np_op k142 rfl rfl
theorem e142_2r (x : Int32) {z : Nat} {l1 l2 : Option Value} {st : List Value} {σ : nv_St} : np_X 142 2 [some (.ref z), l1, l2] (.int x :: st) σ = np_X 142 3 [some (.ref z), some (.int x), l2] st σ := np_op k142 rfl rfl
theorem e142_2v (x : Int32) {l1 l2 : Option Value} {st : List Value} {σ : nv_St} : np_X 142 2 [some .null, l1, l2] (.int x :: st) σ = np_X 142 3 [some .null, some (.int x), l2] st σ := np_op k142 rfl rfl
theorem e142_3 (x : Nat) {l1 l2 : Option Value} {st : List Value} {σ : nv_St} : np_X 142 3 [some (.ref x), l1, l2] st σ = np_X 142 4 [some (.ref x), l1, l2] (.ref x :: st) σ := np_op k142 rfl rfl
theorem e142_3u  {l1 l2 : Option Value} {st : List Value} {σ : nv_St} : np_X 142 3 [some .null, l1, l2] st σ = np_X 142 4 [some .null, l1, l2] (.null :: st) σ := np_op k142 rfl rfl
theorem e142_4 {ls : nv_Ls} {st : List Value} {σ : nv_St} {a : Nat}  (h : st.length ≤ 4) (h0 : nv_isO σ 5 a = true) : np_X 142 4 ls (.ref a :: st) σ = np_aft 142 4 7 ls st (np_X 73 0 [some (.ref a)] [] σ) := np_call k142 rfl (Nat.le_add_left 1 _) rfl rfl h rfl h0 rfl
theorem e142_7n (x : Int32) {l1 l2 : Option Value} {st : List Value} {σ : nv_St} : np_X 142 7 [none, l1, l2] (.int x :: st) σ = np_X 142 8 [none, some (.int x), l2] st σ := np_op k142 rfl rfl
theorem e142_7i (x : Int32) {z : Int32} {l1 l2 : Option Value} {st : List Value} {σ : nv_St} : np_X 142 7 [some (.int z), l1, l2] (.int x :: st) σ = np_X 142 8 [some (.int z), some (.int x), l2] st σ := np_op k142 rfl rfl
theorem e142_7r (x : Int32) {z : Nat} {l1 l2 : Option Value} {st : List Value} {σ : nv_St} : np_X 142 7 [some (.ref z), l1, l2] (.int x :: st) σ = np_X 142 8 [some (.ref z), some (.int x), l2] st σ := np_op k142 rfl rfl
theorem e142_7v (x : Int32) {l1 l2 : Option Value} {st : List Value} {σ : nv_St} : np_X 142 7 [some .null, l1, l2] (.int x :: st) σ = np_X 142 8 [some .null, some (.int x), l2] st σ := np_op k142 rfl rfl
theorem e142_8 {ls : nv_Ls} {st : List Value} {σ : nv_St} : np_X 142 8 ls st σ = np_X 142 15 ls st σ := np_op k142 rfl rfl
theorem e142_12 {ls : nv_Ls} {st : List Value} {σ : nv_St} : np_X 142 12 ls st σ = np_X 142 14 ls (.int (-100000000) :: st) σ := np_op k142 rfl rfl
theorem e142_14 {ls : nv_Ls} {σ : nv_St} {x : Int32} : np_X 142 14 ls [.int x] σ = some (.inl (some (.int x)), σ) := np_reti k142 rfl rfl
theorem e142_15 (x : Int32) {l0 l2 : Option Value} {st : List Value} {σ : nv_St} : np_X 142 15 [l0, some (.int x), l2] st σ = np_X 142 16 [l0, some (.int x), l2] (.int x :: st) σ := np_op k142 rfl rfl
theorem e142_16 {ls : nv_Ls} {σ : nv_St} {x : Int32} : np_X 142 16 ls [.int x] σ = some (.inl (some (.int x)), σ) := np_reti k142 rfl rfl
-- 143 SpoonNavyLaw.endTurn
theorem k143 : np_P.1 143 = np_c143 := rfl
theorem e143_0 {ls : nv_Ls} {st : List Value} {σ : nv_St} : np_X 143 0 ls st σ = np_X 143 2 ls (.int (-100000000) :: st) σ := np_op k143 rfl rfl
theorem e143_2n (x : Int32) {l1 l2 : Option Value} {st : List Value} {σ : nv_St} : np_X 143 2 [none, l1, l2] (.int x :: st) σ = np_X 143 3 [none, some (.int x), l2] st σ := np_op k143 rfl rfl
theorem e143_2i (x : Int32) {z : Int32} {l1 l2 : Option Value} {st : List Value} {σ : nv_St} : np_X 143 2 [some (.int z), l1, l2] (.int x :: st) σ = np_X 143 3 [some (.int z), some (.int x), l2] st σ := np_op k143 rfl rfl
theorem e143_2r (x : Int32) {z : Nat} {l1 l2 : Option Value} {st : List Value} {σ : nv_St} : np_X 143 2 [some (.ref z), l1, l2] (.int x :: st) σ = np_X 143 3 [some (.ref z), some (.int x), l2] st σ := np_op k143 rfl rfl
theorem e143_2v (x : Int32) {l1 l2 : Option Value} {st : List Value} {σ : nv_St} : np_X 143 2 [some .null, l1, l2] (.int x :: st) σ = np_X 143 3 [some .null, some (.int x), l2] st σ := np_op k143 rfl rfl
theorem e143_3 (x : Nat) {l1 l2 : Option Value} {st : List Value} {σ : nv_St} : np_X 143 3 [some (.ref x), l1, l2] st σ = np_X 143 4 [some (.ref x), l1, l2] (.ref x :: st) σ := np_op k143 rfl rfl
theorem e143_3u  {l1 l2 : Option Value} {st : List Value} {σ : nv_St} : np_X 143 3 [some .null, l1, l2] st σ = np_X 143 4 [some .null, l1, l2] (.null :: st) σ := np_op k143 rfl rfl
theorem e143_4 {ls : nv_Ls} {st : List Value} {σ : nv_St} {a : Nat}  (h : st.length ≤ 4) (h0 : nv_isO σ 5 a = true) : np_X 143 4 ls (.ref a :: st) σ = np_aft 143 4 7 ls st (np_X 74 0 [some (.ref a)] [] σ) := np_call k143 rfl (Nat.le_add_left 1 _) rfl rfl h rfl h0 rfl
theorem e143_7n (x : Int32) {l1 l2 : Option Value} {st : List Value} {σ : nv_St} : np_X 143 7 [none, l1, l2] (.int x :: st) σ = np_X 143 8 [none, some (.int x), l2] st σ := np_op k143 rfl rfl
theorem e143_7i (x : Int32) {z : Int32} {l1 l2 : Option Value} {st : List Value} {σ : nv_St} : np_X 143 7 [some (.int z), l1, l2] (.int x :: st) σ = np_X 143 8 [some (.int z), some (.int x), l2] st σ := np_op k143 rfl rfl
theorem e143_7r (x : Int32) {z : Nat} {l1 l2 : Option Value} {st : List Value} {σ : nv_St} : np_X 143 7 [some (.ref z), l1, l2] (.int x :: st) σ = np_X 143 8 [some (.ref z), some (.int x), l2] st σ := np_op k143 rfl rfl
theorem e143_7v (x : Int32) {l1 l2 : Option Value} {st : List Value} {σ : nv_St} : np_X 143 7 [some .null, l1, l2] (.int x :: st) σ = np_X 143 8 [some .null, some (.int x), l2] st σ := np_op k143 rfl rfl
theorem e143_8 {ls : nv_Ls} {st : List Value} {σ : nv_St} : np_X 143 8 ls st σ = np_X 143 15 ls st σ := np_op k143 rfl rfl
theorem e143_12 {ls : nv_Ls} {st : List Value} {σ : nv_St} : np_X 143 12 ls st σ = np_X 143 14 ls (.int (-100000000) :: st) σ := np_op k143 rfl rfl
theorem e143_14 {ls : nv_Ls} {σ : nv_St} {x : Int32} : np_X 143 14 ls [.int x] σ = some (.inl (some (.int x)), σ) := np_reti k143 rfl rfl
theorem e143_15 (x : Int32) {l0 l2 : Option Value} {st : List Value} {σ : nv_St} : np_X 143 15 [l0, some (.int x), l2] st σ = np_X 143 16 [l0, some (.int x), l2] (.int x :: st) σ := np_op k143 rfl rfl
theorem e143_16 {ls : nv_Ls} {σ : nv_St} {x : Int32} : np_X 143 16 ls [.int x] σ = some (.inl (some (.int x)), σ) := np_reti k143 rfl rfl
-- 144 SpoonNavyLaw.winner
theorem k144 : np_P.1 144 = np_c144 := rfl
theorem e144_0 {ls : nv_Ls} {st : List Value} {σ : nv_St} : np_X 144 0 ls st σ = np_X 144 3 ls (.int (-1000) :: st) σ := np_op k144 rfl rfl
theorem e144_3n (x : Int32) {l1 l2 : Option Value} {st : List Value} {σ : nv_St} : np_X 144 3 [none, l1, l2] (.int x :: st) σ = np_X 144 4 [none, some (.int x), l2] st σ := np_op k144 rfl rfl
theorem e144_3i (x : Int32) {z : Int32} {l1 l2 : Option Value} {st : List Value} {σ : nv_St} : np_X 144 3 [some (.int z), l1, l2] (.int x :: st) σ = np_X 144 4 [some (.int z), some (.int x), l2] st σ := np_op k144 rfl rfl
theorem e144_3r (x : Int32) {z : Nat} {l1 l2 : Option Value} {st : List Value} {σ : nv_St} : np_X 144 3 [some (.ref z), l1, l2] (.int x :: st) σ = np_X 144 4 [some (.ref z), some (.int x), l2] st σ := np_op k144 rfl rfl
theorem e144_3v (x : Int32) {l1 l2 : Option Value} {st : List Value} {σ : nv_St} : np_X 144 3 [some .null, l1, l2] (.int x :: st) σ = np_X 144 4 [some .null, some (.int x), l2] st σ := np_op k144 rfl rfl
theorem e144_4 (x : Nat) {l1 l2 : Option Value} {st : List Value} {σ : nv_St} : np_X 144 4 [some (.ref x), l1, l2] st σ = np_X 144 5 [some (.ref x), l1, l2] (.ref x :: st) σ := np_op k144 rfl rfl
theorem e144_4u  {l1 l2 : Option Value} {st : List Value} {σ : nv_St} : np_X 144 4 [some .null, l1, l2] st σ = np_X 144 5 [some .null, l1, l2] (.null :: st) σ := np_op k144 rfl rfl
theorem e144_5 {ls : nv_Ls} {st : List Value} {σ : nv_St} {a : Nat}  (h : st.length ≤ 4) (h0 : nv_isO σ 5 a = true) : np_X 144 5 ls (.ref a :: st) σ = np_aft 144 5 8 ls st (np_X 77 0 [some (.ref a)] [] σ) := np_call k144 rfl (Nat.le_add_left 1 _) rfl rfl h rfl h0 rfl
theorem e144_8n (x : Int32) {l1 l2 : Option Value} {st : List Value} {σ : nv_St} : np_X 144 8 [none, l1, l2] (.int x :: st) σ = np_X 144 9 [none, some (.int x), l2] st σ := np_op k144 rfl rfl
theorem e144_8i (x : Int32) {z : Int32} {l1 l2 : Option Value} {st : List Value} {σ : nv_St} : np_X 144 8 [some (.int z), l1, l2] (.int x :: st) σ = np_X 144 9 [some (.int z), some (.int x), l2] st σ := np_op k144 rfl rfl
theorem e144_8r (x : Int32) {z : Nat} {l1 l2 : Option Value} {st : List Value} {σ : nv_St} : np_X 144 8 [some (.ref z), l1, l2] (.int x :: st) σ = np_X 144 9 [some (.ref z), some (.int x), l2] st σ := np_op k144 rfl rfl
theorem e144_8v (x : Int32) {l1 l2 : Option Value} {st : List Value} {σ : nv_St} : np_X 144 8 [some .null, l1, l2] (.int x :: st) σ = np_X 144 9 [some .null, some (.int x), l2] st σ := np_op k144 rfl rfl
theorem e144_9 {ls : nv_Ls} {st : List Value} {σ : nv_St} : np_X 144 9 ls st σ = np_X 144 17 ls st σ := np_op k144 rfl rfl
theorem e144_13 {ls : nv_Ls} {st : List Value} {σ : nv_St} : np_X 144 13 ls st σ = np_X 144 16 ls (.int (-1000) :: st) σ := np_op k144 rfl rfl
theorem e144_16 {ls : nv_Ls} {σ : nv_St} {x : Int32} : np_X 144 16 ls [.int x] σ = some (.inl (some (.int x)), σ) := np_reti k144 rfl rfl
theorem e144_17 (x : Int32) {l0 l2 : Option Value} {st : List Value} {σ : nv_St} : np_X 144 17 [l0, some (.int x), l2] st σ = np_X 144 18 [l0, some (.int x), l2] (.int x :: st) σ := np_op k144 rfl rfl
theorem e144_18 {ls : nv_Ls} {σ : nv_St} {x : Int32} : np_X 144 18 ls [.int x] σ = some (.inl (some (.int x)), σ) := np_reti k144 rfl rfl
-- 145 SpoonNavyLaw.activeFleet
theorem k145 : np_P.1 145 = np_c145 := rfl
theorem e145_0 {ls : nv_Ls} {st : List Value} {σ : nv_St} : np_X 145 0 ls st σ = np_X 145 3 ls (.int (-1000) :: st) σ := np_op k145 rfl rfl
theorem e145_3n (x : Int32) {l1 l2 : Option Value} {st : List Value} {σ : nv_St} : np_X 145 3 [none, l1, l2] (.int x :: st) σ = np_X 145 4 [none, some (.int x), l2] st σ := np_op k145 rfl rfl
theorem e145_3i (x : Int32) {z : Int32} {l1 l2 : Option Value} {st : List Value} {σ : nv_St} : np_X 145 3 [some (.int z), l1, l2] (.int x :: st) σ = np_X 145 4 [some (.int z), some (.int x), l2] st σ := np_op k145 rfl rfl
theorem e145_3r (x : Int32) {z : Nat} {l1 l2 : Option Value} {st : List Value} {σ : nv_St} : np_X 145 3 [some (.ref z), l1, l2] (.int x :: st) σ = np_X 145 4 [some (.ref z), some (.int x), l2] st σ := np_op k145 rfl rfl
theorem e145_3v (x : Int32) {l1 l2 : Option Value} {st : List Value} {σ : nv_St} : np_X 145 3 [some .null, l1, l2] (.int x :: st) σ = np_X 145 4 [some .null, some (.int x), l2] st σ := np_op k145 rfl rfl
theorem e145_4 (x : Nat) {l1 l2 : Option Value} {st : List Value} {σ : nv_St} : np_X 145 4 [some (.ref x), l1, l2] st σ = np_X 145 5 [some (.ref x), l1, l2] (.ref x :: st) σ := np_op k145 rfl rfl
theorem e145_4u  {l1 l2 : Option Value} {st : List Value} {σ : nv_St} : np_X 145 4 [some .null, l1, l2] st σ = np_X 145 5 [some .null, l1, l2] (.null :: st) σ := np_op k145 rfl rfl
theorem e145_5 {ls : nv_Ls} {st : List Value} {σ : nv_St} {a : Nat}  (h : st.length ≤ 4) (h0 : nv_isO σ 5 a = true) : np_X 145 5 ls (.ref a :: st) σ = np_aft 145 5 8 ls st (np_X 78 0 [some (.ref a)] [] σ) := np_call k145 rfl (Nat.le_add_left 1 _) rfl rfl h rfl h0 rfl
theorem e145_8n (x : Int32) {l1 l2 : Option Value} {st : List Value} {σ : nv_St} : np_X 145 8 [none, l1, l2] (.int x :: st) σ = np_X 145 9 [none, some (.int x), l2] st σ := np_op k145 rfl rfl
theorem e145_8i (x : Int32) {z : Int32} {l1 l2 : Option Value} {st : List Value} {σ : nv_St} : np_X 145 8 [some (.int z), l1, l2] (.int x :: st) σ = np_X 145 9 [some (.int z), some (.int x), l2] st σ := np_op k145 rfl rfl
theorem e145_8r (x : Int32) {z : Nat} {l1 l2 : Option Value} {st : List Value} {σ : nv_St} : np_X 145 8 [some (.ref z), l1, l2] (.int x :: st) σ = np_X 145 9 [some (.ref z), some (.int x), l2] st σ := np_op k145 rfl rfl
theorem e145_8v (x : Int32) {l1 l2 : Option Value} {st : List Value} {σ : nv_St} : np_X 145 8 [some .null, l1, l2] (.int x :: st) σ = np_X 145 9 [some .null, some (.int x), l2] st σ := np_op k145 rfl rfl
theorem e145_9 {ls : nv_Ls} {st : List Value} {σ : nv_St} : np_X 145 9 ls st σ = np_X 145 17 ls st σ := np_op k145 rfl rfl
theorem e145_13 {ls : nv_Ls} {st : List Value} {σ : nv_St} : np_X 145 13 ls st σ = np_X 145 16 ls (.int (-1000) :: st) σ := np_op k145 rfl rfl
theorem e145_16 {ls : nv_Ls} {σ : nv_St} {x : Int32} : np_X 145 16 ls [.int x] σ = some (.inl (some (.int x)), σ) := np_reti k145 rfl rfl
theorem e145_17 (x : Int32) {l0 l2 : Option Value} {st : List Value} {σ : nv_St} : np_X 145 17 [l0, some (.int x), l2] st σ = np_X 145 18 [l0, some (.int x), l2] (.int x :: st) σ := np_op k145 rfl rfl
theorem e145_18 {ls : nv_Ls} {σ : nv_St} {x : Int32} : np_X 145 18 ls [.int x] σ = some (.inl (some (.int x)), σ) := np_reti k145 rfl rfl
-- 146 SpoonNavyLaw.actionsLeft
theorem k146 : np_P.1 146 = np_c146 := rfl
theorem e146_0 {ls : nv_Ls} {st : List Value} {σ : nv_St} : np_X 146 0 ls st σ = np_X 146 3 ls (.int (-1000) :: st) σ := np_op k146 rfl rfl
theorem e146_3n (x : Int32) {l1 l2 : Option Value} {st : List Value} {σ : nv_St} : np_X 146 3 [none, l1, l2] (.int x :: st) σ = np_X 146 4 [none, some (.int x), l2] st σ := np_op k146 rfl rfl
theorem e146_3i (x : Int32) {z : Int32} {l1 l2 : Option Value} {st : List Value} {σ : nv_St} : np_X 146 3 [some (.int z), l1, l2] (.int x :: st) σ = np_X 146 4 [some (.int z), some (.int x), l2] st σ := np_op k146 rfl rfl
theorem e146_3r (x : Int32) {z : Nat} {l1 l2 : Option Value} {st : List Value} {σ : nv_St} : np_X 146 3 [some (.ref z), l1, l2] (.int x :: st) σ = np_X 146 4 [some (.ref z), some (.int x), l2] st σ := np_op k146 rfl rfl
theorem e146_3v (x : Int32) {l1 l2 : Option Value} {st : List Value} {σ : nv_St} : np_X 146 3 [some .null, l1, l2] (.int x :: st) σ = np_X 146 4 [some .null, some (.int x), l2] st σ := np_op k146 rfl rfl
theorem e146_4 (x : Nat) {l1 l2 : Option Value} {st : List Value} {σ : nv_St} : np_X 146 4 [some (.ref x), l1, l2] st σ = np_X 146 5 [some (.ref x), l1, l2] (.ref x :: st) σ := np_op k146 rfl rfl
theorem e146_4u  {l1 l2 : Option Value} {st : List Value} {σ : nv_St} : np_X 146 4 [some .null, l1, l2] st σ = np_X 146 5 [some .null, l1, l2] (.null :: st) σ := np_op k146 rfl rfl
theorem e146_5 {ls : nv_Ls} {st : List Value} {σ : nv_St} {a : Nat}  (h : st.length ≤ 4) (h0 : nv_isO σ 5 a = true) : np_X 146 5 ls (.ref a :: st) σ = np_aft 146 5 8 ls st (np_X 79 0 [some (.ref a)] [] σ) := np_call k146 rfl (Nat.le_add_left 1 _) rfl rfl h rfl h0 rfl
theorem e146_8n (x : Int32) {l1 l2 : Option Value} {st : List Value} {σ : nv_St} : np_X 146 8 [none, l1, l2] (.int x :: st) σ = np_X 146 9 [none, some (.int x), l2] st σ := np_op k146 rfl rfl
theorem e146_8i (x : Int32) {z : Int32} {l1 l2 : Option Value} {st : List Value} {σ : nv_St} : np_X 146 8 [some (.int z), l1, l2] (.int x :: st) σ = np_X 146 9 [some (.int z), some (.int x), l2] st σ := np_op k146 rfl rfl
theorem e146_8r (x : Int32) {z : Nat} {l1 l2 : Option Value} {st : List Value} {σ : nv_St} : np_X 146 8 [some (.ref z), l1, l2] (.int x :: st) σ = np_X 146 9 [some (.ref z), some (.int x), l2] st σ := np_op k146 rfl rfl
theorem e146_8v (x : Int32) {l1 l2 : Option Value} {st : List Value} {σ : nv_St} : np_X 146 8 [some .null, l1, l2] (.int x :: st) σ = np_X 146 9 [some .null, some (.int x), l2] st σ := np_op k146 rfl rfl
theorem e146_9 {ls : nv_Ls} {st : List Value} {σ : nv_St} : np_X 146 9 ls st σ = np_X 146 17 ls st σ := np_op k146 rfl rfl
theorem e146_13 {ls : nv_Ls} {st : List Value} {σ : nv_St} : np_X 146 13 ls st σ = np_X 146 16 ls (.int (-1000) :: st) σ := np_op k146 rfl rfl
theorem e146_16 {ls : nv_Ls} {σ : nv_St} {x : Int32} : np_X 146 16 ls [.int x] σ = some (.inl (some (.int x)), σ) := np_reti k146 rfl rfl
theorem e146_17 (x : Int32) {l0 l2 : Option Value} {st : List Value} {σ : nv_St} : np_X 146 17 [l0, some (.int x), l2] st σ = np_X 146 18 [l0, some (.int x), l2] (.int x :: st) σ := np_op k146 rfl rfl
theorem e146_18 {ls : nv_Ls} {σ : nv_St} {x : Int32} : np_X 146 18 ls [.int x] σ = some (.inl (some (.int x)), σ) := np_reti k146 rfl rfl
-- 147 SpoonNavyLaw.turnTo
theorem k147 : np_P.1 147 = np_c147 := rfl
theorem e147_0 {ls : nv_Ls} {st : List Value} {σ : nv_St} : np_X 147 0 ls st σ = np_X 147 2 ls (.int (-100000000) :: st) σ := np_op k147 rfl rfl
theorem e147_2n (x : Int32) {l0 l1 l3 l4 : Option Value} {st : List Value} {σ : nv_St} : np_X 147 2 [l0, l1, none, l3, l4] (.int x :: st) σ = np_X 147 3 [l0, l1, none, some (.int x), l4] st σ := np_op k147 rfl rfl
theorem e147_2i (x : Int32) {z : Int32} {l0 l1 l3 l4 : Option Value} {st : List Value} {σ : nv_St} : np_X 147 2 [l0, l1, some (.int z), l3, l4] (.int x :: st) σ = np_X 147 3 [l0, l1, some (.int z), some (.int x), l4] st σ := np_op k147 rfl rfl
theorem e147_2r (x : Int32) {z : Nat} {l0 l1 l3 l4 : Option Value} {st : List Value} {σ : nv_St} : np_X 147 2 [l0, l1, some (.ref z), l3, l4] (.int x :: st) σ = np_X 147 3 [l0, l1, some (.ref z), some (.int x), l4] st σ := np_op k147 rfl rfl
theorem e147_2v (x : Int32) {l0 l1 l3 l4 : Option Value} {st : List Value} {σ : nv_St} : np_X 147 2 [l0, l1, some .null, l3, l4] (.int x :: st) σ = np_X 147 3 [l0, l1, some .null, some (.int x), l4] st σ := np_op k147 rfl rfl
theorem e147_3 (x : Nat) {l1 l2 l3 l4 : Option Value} {st : List Value} {σ : nv_St} : np_X 147 3 [some (.ref x), l1, l2, l3, l4] st σ = np_X 147 4 [some (.ref x), l1, l2, l3, l4] (.ref x :: st) σ := np_op k147 rfl rfl
theorem e147_3u  {l1 l2 l3 l4 : Option Value} {st : List Value} {σ : nv_St} : np_X 147 3 [some .null, l1, l2, l3, l4] st σ = np_X 147 4 [some .null, l1, l2, l3, l4] (.null :: st) σ := np_op k147 rfl rfl
theorem e147_4 (x : Int32) {l0 l2 l3 l4 : Option Value} {st : List Value} {σ : nv_St} : np_X 147 4 [l0, some (.int x), l2, l3, l4] st σ = np_X 147 5 [l0, some (.int x), l2, l3, l4] (.int x :: st) σ := np_op k147 rfl rfl
theorem e147_5 (x : Int32) {l0 l1 l3 l4 : Option Value} {st : List Value} {σ : nv_St} : np_X 147 5 [l0, l1, some (.int x), l3, l4] st σ = np_X 147 6 [l0, l1, some (.int x), l3, l4] (.int x :: st) σ := np_op k147 rfl rfl
theorem e147_6 {ls : nv_Ls} {st : List Value} {σ : nv_St} {a : Nat} {x0 : Int32} {x1 : Int32} (h : st.length ≤ 4) (h0 : nv_isO σ 5 a = true) : np_X 147 6 ls (.int x1 :: .int x0 :: .ref a :: st) σ = np_aft 147 6 9 ls st (np_X 81 0 [some (.ref a), some (.int x0), some (.int x1)] [] σ) := np_call k147 rfl (Nat.le_add_left 3 _) rfl rfl h rfl h0 rfl
theorem e147_9n (x : Int32) {l0 l1 l3 l4 : Option Value} {st : List Value} {σ : nv_St} : np_X 147 9 [l0, l1, none, l3, l4] (.int x :: st) σ = np_X 147 10 [l0, l1, none, some (.int x), l4] st σ := np_op k147 rfl rfl
theorem e147_9i (x : Int32) {z : Int32} {l0 l1 l3 l4 : Option Value} {st : List Value} {σ : nv_St} : np_X 147 9 [l0, l1, some (.int z), l3, l4] (.int x :: st) σ = np_X 147 10 [l0, l1, some (.int z), some (.int x), l4] st σ := np_op k147 rfl rfl
theorem e147_9r (x : Int32) {z : Nat} {l0 l1 l3 l4 : Option Value} {st : List Value} {σ : nv_St} : np_X 147 9 [l0, l1, some (.ref z), l3, l4] (.int x :: st) σ = np_X 147 10 [l0, l1, some (.ref z), some (.int x), l4] st σ := np_op k147 rfl rfl
theorem e147_9v (x : Int32) {l0 l1 l3 l4 : Option Value} {st : List Value} {σ : nv_St} : np_X 147 9 [l0, l1, some .null, l3, l4] (.int x :: st) σ = np_X 147 10 [l0, l1, some .null, some (.int x), l4] st σ := np_op k147 rfl rfl
theorem e147_10 {ls : nv_Ls} {st : List Value} {σ : nv_St} : np_X 147 10 ls st σ = np_X 147 33 ls st σ := np_op k147 rfl rfl
theorem e147_15 {ls : nv_Ls} {st : List Value} {σ : nv_St} : np_X 147 15 ls st σ = np_X 147 17 ls (.int (-100000000) :: st) σ := np_op k147 rfl rfl
theorem e147_17 {ls : nv_Ls} {σ : nv_St} {x : Int32} : np_X 147 17 ls [.int x] σ = some (.inl (some (.int x)), σ) := np_reti k147 rfl rfl
theorem e147_20 {ls : nv_Ls} {st : List Value} {σ : nv_St} : np_X 147 20 ls st σ = np_X 147 22 ls (.int (-100000000) :: st) σ := np_op k147 rfl rfl
theorem e147_22 {ls : nv_Ls} {σ : nv_St} {x : Int32} : np_X 147 22 ls [.int x] σ = some (.inl (some (.int x)), σ) := np_reti k147 rfl rfl
theorem e147_25 {ls : nv_Ls} {st : List Value} {σ : nv_St} : np_X 147 25 ls st σ = np_X 147 27 ls (.int (-100000000) :: st) σ := np_op k147 rfl rfl
theorem e147_27 {ls : nv_Ls} {σ : nv_St} {x : Int32} : np_X 147 27 ls [.int x] σ = some (.inl (some (.int x)), σ) := np_reti k147 rfl rfl
theorem e147_30 {ls : nv_Ls} {st : List Value} {σ : nv_St} : np_X 147 30 ls st σ = np_X 147 32 ls (.int (-100000000) :: st) σ := np_op k147 rfl rfl
theorem e147_32 {ls : nv_Ls} {σ : nv_St} {x : Int32} : np_X 147 32 ls [.int x] σ = some (.inl (some (.int x)), σ) := np_reti k147 rfl rfl
theorem e147_33 (x : Int32) {l0 l1 l2 l4 : Option Value} {st : List Value} {σ : nv_St} : np_X 147 33 [l0, l1, l2, some (.int x), l4] st σ = np_X 147 34 [l0, l1, l2, some (.int x), l4] (.int x :: st) σ := np_op k147 rfl rfl
theorem e147_34 {ls : nv_Ls} {σ : nv_St} {x : Int32} : np_X 147 34 ls [.int x] σ = some (.inl (some (.int x)), σ) := np_reti k147 rfl rfl
-- 148 SpoonNavyLaw.sail
theorem k148 : np_P.1 148 = np_c148 := rfl
theorem e148_0 {ls : nv_Ls} {st : List Value} {σ : nv_St} : np_X 148 0 ls st σ = np_X 148 2 ls (.int (-100000000) :: st) σ := np_op k148 rfl rfl
theorem e148_2n (x : Int32) {l0 l1 l2 l4 l5 : Option Value} {st : List Value} {σ : nv_St} : np_X 148 2 [l0, l1, l2, none, l4, l5] (.int x :: st) σ = np_X 148 4 [l0, l1, l2, none, some (.int x), l5] st σ := np_op k148 rfl rfl
theorem e148_2i (x : Int32) {z : Int32} {l0 l1 l2 l4 l5 : Option Value} {st : List Value} {σ : nv_St} : np_X 148 2 [l0, l1, l2, some (.int z), l4, l5] (.int x :: st) σ = np_X 148 4 [l0, l1, l2, some (.int z), some (.int x), l5] st σ := np_op k148 rfl rfl
theorem e148_2r (x : Int32) {z : Nat} {l0 l1 l2 l4 l5 : Option Value} {st : List Value} {σ : nv_St} : np_X 148 2 [l0, l1, l2, some (.ref z), l4, l5] (.int x :: st) σ = np_X 148 4 [l0, l1, l2, some (.ref z), some (.int x), l5] st σ := np_op k148 rfl rfl
theorem e148_2v (x : Int32) {l0 l1 l2 l4 l5 : Option Value} {st : List Value} {σ : nv_St} : np_X 148 2 [l0, l1, l2, some .null, l4, l5] (.int x :: st) σ = np_X 148 4 [l0, l1, l2, some .null, some (.int x), l5] st σ := np_op k148 rfl rfl
theorem e148_4 (x : Nat) {l1 l2 l3 l4 l5 : Option Value} {st : List Value} {σ : nv_St} : np_X 148 4 [some (.ref x), l1, l2, l3, l4, l5] st σ = np_X 148 5 [some (.ref x), l1, l2, l3, l4, l5] (.ref x :: st) σ := np_op k148 rfl rfl
theorem e148_4u  {l1 l2 l3 l4 l5 : Option Value} {st : List Value} {σ : nv_St} : np_X 148 4 [some .null, l1, l2, l3, l4, l5] st σ = np_X 148 5 [some .null, l1, l2, l3, l4, l5] (.null :: st) σ := np_op k148 rfl rfl
theorem e148_5 (x : Int32) {l0 l2 l3 l4 l5 : Option Value} {st : List Value} {σ : nv_St} : np_X 148 5 [l0, some (.int x), l2, l3, l4, l5] st σ = np_X 148 6 [l0, some (.int x), l2, l3, l4, l5] (.int x :: st) σ := np_op k148 rfl rfl
theorem e148_6 (x : Int32) {l0 l1 l3 l4 l5 : Option Value} {st : List Value} {σ : nv_St} : np_X 148 6 [l0, l1, some (.int x), l3, l4, l5] st σ = np_X 148 7 [l0, l1, some (.int x), l3, l4, l5] (.int x :: st) σ := np_op k148 rfl rfl
theorem e148_7 (x : Int32) {l0 l1 l2 l4 l5 : Option Value} {st : List Value} {σ : nv_St} : np_X 148 7 [l0, l1, l2, some (.int x), l4, l5] st σ = np_X 148 8 [l0, l1, l2, some (.int x), l4, l5] (.int x :: st) σ := np_op k148 rfl rfl
theorem e148_8 {ls : nv_Ls} {st : List Value} {σ : nv_St} {a : Nat} {x0 : Int32} {x1 : Int32} {x2 : Int32} (h : st.length ≤ 4) (h0 : nv_isO σ 5 a = true) : np_X 148 8 ls (.int x2 :: .int x1 :: .int x0 :: .ref a :: st) σ = np_aft 148 8 11 ls st (np_X 82 0 [some (.ref a), some (.int x0), some (.int x1), some (.int x2)] [] σ) := np_call k148 rfl (Nat.le_add_left 4 _) rfl rfl h rfl h0 rfl
theorem e148_11n (x : Int32) {l0 l1 l2 l4 l5 : Option Value} {st : List Value} {σ : nv_St} : np_X 148 11 [l0, l1, l2, none, l4, l5] (.int x :: st) σ = np_X 148 13 [l0, l1, l2, none, some (.int x), l5] st σ := np_op k148 rfl rfl
theorem e148_11i (x : Int32) {z : Int32} {l0 l1 l2 l4 l5 : Option Value} {st : List Value} {σ : nv_St} : np_X 148 11 [l0, l1, l2, some (.int z), l4, l5] (.int x :: st) σ = np_X 148 13 [l0, l1, l2, some (.int z), some (.int x), l5] st σ := np_op k148 rfl rfl
theorem e148_11r (x : Int32) {z : Nat} {l0 l1 l2 l4 l5 : Option Value} {st : List Value} {σ : nv_St} : np_X 148 11 [l0, l1, l2, some (.ref z), l4, l5] (.int x :: st) σ = np_X 148 13 [l0, l1, l2, some (.ref z), some (.int x), l5] st σ := np_op k148 rfl rfl
theorem e148_11v (x : Int32) {l0 l1 l2 l4 l5 : Option Value} {st : List Value} {σ : nv_St} : np_X 148 11 [l0, l1, l2, some .null, l4, l5] (.int x :: st) σ = np_X 148 13 [l0, l1, l2, some .null, some (.int x), l5] st σ := np_op k148 rfl rfl
theorem e148_13 {ls : nv_Ls} {st : List Value} {σ : nv_St} : np_X 148 13 ls st σ = np_X 148 36 ls st σ := np_op k148 rfl rfl
theorem e148_18 {ls : nv_Ls} {st : List Value} {σ : nv_St} : np_X 148 18 ls st σ = np_X 148 20 ls (.int (-100000000) :: st) σ := np_op k148 rfl rfl
theorem e148_20 {ls : nv_Ls} {σ : nv_St} {x : Int32} : np_X 148 20 ls [.int x] σ = some (.inl (some (.int x)), σ) := np_reti k148 rfl rfl
theorem e148_23 {ls : nv_Ls} {st : List Value} {σ : nv_St} : np_X 148 23 ls st σ = np_X 148 25 ls (.int (-100000000) :: st) σ := np_op k148 rfl rfl
theorem e148_25 {ls : nv_Ls} {σ : nv_St} {x : Int32} : np_X 148 25 ls [.int x] σ = some (.inl (some (.int x)), σ) := np_reti k148 rfl rfl
theorem e148_28 {ls : nv_Ls} {st : List Value} {σ : nv_St} : np_X 148 28 ls st σ = np_X 148 30 ls (.int (-100000000) :: st) σ := np_op k148 rfl rfl
theorem e148_30 {ls : nv_Ls} {σ : nv_St} {x : Int32} : np_X 148 30 ls [.int x] σ = some (.inl (some (.int x)), σ) := np_reti k148 rfl rfl
theorem e148_33 {ls : nv_Ls} {st : List Value} {σ : nv_St} : np_X 148 33 ls st σ = np_X 148 35 ls (.int (-100000000) :: st) σ := np_op k148 rfl rfl
theorem e148_35 {ls : nv_Ls} {σ : nv_St} {x : Int32} : np_X 148 35 ls [.int x] σ = some (.inl (some (.int x)), σ) := np_reti k148 rfl rfl
theorem e148_36 (x : Int32) {l0 l1 l2 l3 l5 : Option Value} {st : List Value} {σ : nv_St} : np_X 148 36 [l0, l1, l2, l3, some (.int x), l5] st σ = np_X 148 38 [l0, l1, l2, l3, some (.int x), l5] (.int x :: st) σ := np_op k148 rfl rfl
theorem e148_38 {ls : nv_Ls} {σ : nv_St} {x : Int32} : np_X 148 38 ls [.int x] σ = some (.inl (some (.int x)), σ) := np_reti k148 rfl rfl
-- 149 SpoonNavyLaw.fire
theorem k149 : np_P.1 149 = np_c149 := rfl
theorem e149_0 {ls : nv_Ls} {st : List Value} {σ : nv_St} : np_X 149 0 ls st σ = np_X 149 2 ls (.int (-100000000) :: st) σ := np_op k149 rfl rfl
theorem e149_2n (x : Int32) {l0 l1 l2 l4 l5 : Option Value} {st : List Value} {σ : nv_St} : np_X 149 2 [l0, l1, l2, none, l4, l5] (.int x :: st) σ = np_X 149 4 [l0, l1, l2, none, some (.int x), l5] st σ := np_op k149 rfl rfl
theorem e149_2i (x : Int32) {z : Int32} {l0 l1 l2 l4 l5 : Option Value} {st : List Value} {σ : nv_St} : np_X 149 2 [l0, l1, l2, some (.int z), l4, l5] (.int x :: st) σ = np_X 149 4 [l0, l1, l2, some (.int z), some (.int x), l5] st σ := np_op k149 rfl rfl
theorem e149_2r (x : Int32) {z : Nat} {l0 l1 l2 l4 l5 : Option Value} {st : List Value} {σ : nv_St} : np_X 149 2 [l0, l1, l2, some (.ref z), l4, l5] (.int x :: st) σ = np_X 149 4 [l0, l1, l2, some (.ref z), some (.int x), l5] st σ := np_op k149 rfl rfl
theorem e149_2v (x : Int32) {l0 l1 l2 l4 l5 : Option Value} {st : List Value} {σ : nv_St} : np_X 149 2 [l0, l1, l2, some .null, l4, l5] (.int x :: st) σ = np_X 149 4 [l0, l1, l2, some .null, some (.int x), l5] st σ := np_op k149 rfl rfl
theorem e149_4 (x : Nat) {l1 l2 l3 l4 l5 : Option Value} {st : List Value} {σ : nv_St} : np_X 149 4 [some (.ref x), l1, l2, l3, l4, l5] st σ = np_X 149 5 [some (.ref x), l1, l2, l3, l4, l5] (.ref x :: st) σ := np_op k149 rfl rfl
theorem e149_4u  {l1 l2 l3 l4 l5 : Option Value} {st : List Value} {σ : nv_St} : np_X 149 4 [some .null, l1, l2, l3, l4, l5] st σ = np_X 149 5 [some .null, l1, l2, l3, l4, l5] (.null :: st) σ := np_op k149 rfl rfl
theorem e149_5 (x : Int32) {l0 l2 l3 l4 l5 : Option Value} {st : List Value} {σ : nv_St} : np_X 149 5 [l0, some (.int x), l2, l3, l4, l5] st σ = np_X 149 6 [l0, some (.int x), l2, l3, l4, l5] (.int x :: st) σ := np_op k149 rfl rfl
theorem e149_6 (x : Int32) {l0 l1 l3 l4 l5 : Option Value} {st : List Value} {σ : nv_St} : np_X 149 6 [l0, l1, some (.int x), l3, l4, l5] st σ = np_X 149 7 [l0, l1, some (.int x), l3, l4, l5] (.int x :: st) σ := np_op k149 rfl rfl
theorem e149_7 (x : Int32) {l0 l1 l2 l4 l5 : Option Value} {st : List Value} {σ : nv_St} : np_X 149 7 [l0, l1, l2, some (.int x), l4, l5] st σ = np_X 149 8 [l0, l1, l2, some (.int x), l4, l5] (.int x :: st) σ := np_op k149 rfl rfl
theorem e149_8 {ls : nv_Ls} {st : List Value} {σ : nv_St} {a : Nat} {x0 : Int32} {x1 : Int32} {x2 : Int32} (h : st.length ≤ 4) (h0 : nv_isO σ 5 a = true) : np_X 149 8 ls (.int x2 :: .int x1 :: .int x0 :: .ref a :: st) σ = np_aft 149 8 11 ls st (np_X 83 0 [some (.ref a), some (.int x0), some (.int x1), some (.int x2)] [] σ) := np_call k149 rfl (Nat.le_add_left 4 _) rfl rfl h rfl h0 rfl
theorem e149_11n (x : Int32) {l0 l1 l2 l4 l5 : Option Value} {st : List Value} {σ : nv_St} : np_X 149 11 [l0, l1, l2, none, l4, l5] (.int x :: st) σ = np_X 149 13 [l0, l1, l2, none, some (.int x), l5] st σ := np_op k149 rfl rfl
theorem e149_11i (x : Int32) {z : Int32} {l0 l1 l2 l4 l5 : Option Value} {st : List Value} {σ : nv_St} : np_X 149 11 [l0, l1, l2, some (.int z), l4, l5] (.int x :: st) σ = np_X 149 13 [l0, l1, l2, some (.int z), some (.int x), l5] st σ := np_op k149 rfl rfl
theorem e149_11r (x : Int32) {z : Nat} {l0 l1 l2 l4 l5 : Option Value} {st : List Value} {σ : nv_St} : np_X 149 11 [l0, l1, l2, some (.ref z), l4, l5] (.int x :: st) σ = np_X 149 13 [l0, l1, l2, some (.ref z), some (.int x), l5] st σ := np_op k149 rfl rfl
theorem e149_11v (x : Int32) {l0 l1 l2 l4 l5 : Option Value} {st : List Value} {σ : nv_St} : np_X 149 11 [l0, l1, l2, some .null, l4, l5] (.int x :: st) σ = np_X 149 13 [l0, l1, l2, some .null, some (.int x), l5] st σ := np_op k149 rfl rfl
theorem e149_13 {ls : nv_Ls} {st : List Value} {σ : nv_St} : np_X 149 13 ls st σ = np_X 149 36 ls st σ := np_op k149 rfl rfl
theorem e149_18 {ls : nv_Ls} {st : List Value} {σ : nv_St} : np_X 149 18 ls st σ = np_X 149 20 ls (.int (-100000000) :: st) σ := np_op k149 rfl rfl
theorem e149_20 {ls : nv_Ls} {σ : nv_St} {x : Int32} : np_X 149 20 ls [.int x] σ = some (.inl (some (.int x)), σ) := np_reti k149 rfl rfl
theorem e149_23 {ls : nv_Ls} {st : List Value} {σ : nv_St} : np_X 149 23 ls st σ = np_X 149 25 ls (.int (-100000000) :: st) σ := np_op k149 rfl rfl
theorem e149_25 {ls : nv_Ls} {σ : nv_St} {x : Int32} : np_X 149 25 ls [.int x] σ = some (.inl (some (.int x)), σ) := np_reti k149 rfl rfl
theorem e149_28 {ls : nv_Ls} {st : List Value} {σ : nv_St} : np_X 149 28 ls st σ = np_X 149 30 ls (.int (-100000000) :: st) σ := np_op k149 rfl rfl
theorem e149_30 {ls : nv_Ls} {σ : nv_St} {x : Int32} : np_X 149 30 ls [.int x] σ = some (.inl (some (.int x)), σ) := np_reti k149 rfl rfl
theorem e149_33 {ls : nv_Ls} {st : List Value} {σ : nv_St} : np_X 149 33 ls st σ = np_X 149 35 ls (.int (-100000000) :: st) σ := np_op k149 rfl rfl
theorem e149_35 {ls : nv_Ls} {σ : nv_St} {x : Int32} : np_X 149 35 ls [.int x] σ = some (.inl (some (.int x)), σ) := np_reti k149 rfl rfl
theorem e149_36 (x : Int32) {l0 l1 l2 l3 l5 : Option Value} {st : List Value} {σ : nv_St} : np_X 149 36 [l0, l1, l2, l3, some (.int x), l5] st σ = np_X 149 38 [l0, l1, l2, l3, some (.int x), l5] (.int x :: st) σ := np_op k149 rfl rfl
theorem e149_38 {ls : nv_Ls} {σ : nv_St} {x : Int32} : np_X 149 38 ls [.int x] σ = some (.inl (some (.int x)), σ) := np_reti k149 rfl rfl
-- 150 SpoonNavyLaw.load
theorem k150 : np_P.1 150 = np_c150 := rfl
theorem e150_0 {ls : nv_Ls} {st : List Value} {σ : nv_St} : np_X 150 0 ls st σ = np_X 150 2 ls (.int (-100000000) :: st) σ := np_op k150 rfl rfl
theorem e150_2n (x : Int32) {l0 l1 l3 l4 : Option Value} {st : List Value} {σ : nv_St} : np_X 150 2 [l0, l1, none, l3, l4] (.int x :: st) σ = np_X 150 3 [l0, l1, none, some (.int x), l4] st σ := np_op k150 rfl rfl
theorem e150_2i (x : Int32) {z : Int32} {l0 l1 l3 l4 : Option Value} {st : List Value} {σ : nv_St} : np_X 150 2 [l0, l1, some (.int z), l3, l4] (.int x :: st) σ = np_X 150 3 [l0, l1, some (.int z), some (.int x), l4] st σ := np_op k150 rfl rfl
theorem e150_2r (x : Int32) {z : Nat} {l0 l1 l3 l4 : Option Value} {st : List Value} {σ : nv_St} : np_X 150 2 [l0, l1, some (.ref z), l3, l4] (.int x :: st) σ = np_X 150 3 [l0, l1, some (.ref z), some (.int x), l4] st σ := np_op k150 rfl rfl
theorem e150_2v (x : Int32) {l0 l1 l3 l4 : Option Value} {st : List Value} {σ : nv_St} : np_X 150 2 [l0, l1, some .null, l3, l4] (.int x :: st) σ = np_X 150 3 [l0, l1, some .null, some (.int x), l4] st σ := np_op k150 rfl rfl
theorem e150_3 (x : Nat) {l1 l2 l3 l4 : Option Value} {st : List Value} {σ : nv_St} : np_X 150 3 [some (.ref x), l1, l2, l3, l4] st σ = np_X 150 4 [some (.ref x), l1, l2, l3, l4] (.ref x :: st) σ := np_op k150 rfl rfl
theorem e150_3u  {l1 l2 l3 l4 : Option Value} {st : List Value} {σ : nv_St} : np_X 150 3 [some .null, l1, l2, l3, l4] st σ = np_X 150 4 [some .null, l1, l2, l3, l4] (.null :: st) σ := np_op k150 rfl rfl
theorem e150_4 (x : Int32) {l0 l2 l3 l4 : Option Value} {st : List Value} {σ : nv_St} : np_X 150 4 [l0, some (.int x), l2, l3, l4] st σ = np_X 150 5 [l0, some (.int x), l2, l3, l4] (.int x :: st) σ := np_op k150 rfl rfl
theorem e150_5 (x : Int32) {l0 l1 l3 l4 : Option Value} {st : List Value} {σ : nv_St} : np_X 150 5 [l0, l1, some (.int x), l3, l4] st σ = np_X 150 6 [l0, l1, some (.int x), l3, l4] (.int x :: st) σ := np_op k150 rfl rfl
theorem e150_6 {ls : nv_Ls} {st : List Value} {σ : nv_St} {a : Nat} {x0 : Int32} {x1 : Int32} (h : st.length ≤ 4) (h0 : nv_isO σ 5 a = true) : np_X 150 6 ls (.int x1 :: .int x0 :: .ref a :: st) σ = np_aft 150 6 9 ls st (np_X 84 0 [some (.ref a), some (.int x0), some (.int x1)] [] σ) := np_call k150 rfl (Nat.le_add_left 3 _) rfl rfl h rfl h0 rfl
theorem e150_9n (x : Int32) {l0 l1 l3 l4 : Option Value} {st : List Value} {σ : nv_St} : np_X 150 9 [l0, l1, none, l3, l4] (.int x :: st) σ = np_X 150 10 [l0, l1, none, some (.int x), l4] st σ := np_op k150 rfl rfl
theorem e150_9i (x : Int32) {z : Int32} {l0 l1 l3 l4 : Option Value} {st : List Value} {σ : nv_St} : np_X 150 9 [l0, l1, some (.int z), l3, l4] (.int x :: st) σ = np_X 150 10 [l0, l1, some (.int z), some (.int x), l4] st σ := np_op k150 rfl rfl
theorem e150_9r (x : Int32) {z : Nat} {l0 l1 l3 l4 : Option Value} {st : List Value} {σ : nv_St} : np_X 150 9 [l0, l1, some (.ref z), l3, l4] (.int x :: st) σ = np_X 150 10 [l0, l1, some (.ref z), some (.int x), l4] st σ := np_op k150 rfl rfl
theorem e150_9v (x : Int32) {l0 l1 l3 l4 : Option Value} {st : List Value} {σ : nv_St} : np_X 150 9 [l0, l1, some .null, l3, l4] (.int x :: st) σ = np_X 150 10 [l0, l1, some .null, some (.int x), l4] st σ := np_op k150 rfl rfl
theorem e150_10 {ls : nv_Ls} {st : List Value} {σ : nv_St} : np_X 150 10 ls st σ = np_X 150 33 ls st σ := np_op k150 rfl rfl
theorem e150_15 {ls : nv_Ls} {st : List Value} {σ : nv_St} : np_X 150 15 ls st σ = np_X 150 17 ls (.int (-100000000) :: st) σ := np_op k150 rfl rfl
theorem e150_17 {ls : nv_Ls} {σ : nv_St} {x : Int32} : np_X 150 17 ls [.int x] σ = some (.inl (some (.int x)), σ) := np_reti k150 rfl rfl
theorem e150_20 {ls : nv_Ls} {st : List Value} {σ : nv_St} : np_X 150 20 ls st σ = np_X 150 22 ls (.int (-100000000) :: st) σ := np_op k150 rfl rfl
theorem e150_22 {ls : nv_Ls} {σ : nv_St} {x : Int32} : np_X 150 22 ls [.int x] σ = some (.inl (some (.int x)), σ) := np_reti k150 rfl rfl
theorem e150_25 {ls : nv_Ls} {st : List Value} {σ : nv_St} : np_X 150 25 ls st σ = np_X 150 27 ls (.int (-100000000) :: st) σ := np_op k150 rfl rfl
theorem e150_27 {ls : nv_Ls} {σ : nv_St} {x : Int32} : np_X 150 27 ls [.int x] σ = some (.inl (some (.int x)), σ) := np_reti k150 rfl rfl
theorem e150_30 {ls : nv_Ls} {st : List Value} {σ : nv_St} : np_X 150 30 ls st σ = np_X 150 32 ls (.int (-100000000) :: st) σ := np_op k150 rfl rfl
theorem e150_32 {ls : nv_Ls} {σ : nv_St} {x : Int32} : np_X 150 32 ls [.int x] σ = some (.inl (some (.int x)), σ) := np_reti k150 rfl rfl
theorem e150_33 (x : Int32) {l0 l1 l2 l4 : Option Value} {st : List Value} {σ : nv_St} : np_X 150 33 [l0, l1, l2, some (.int x), l4] st σ = np_X 150 34 [l0, l1, l2, some (.int x), l4] (.int x :: st) σ := np_op k150 rfl rfl
theorem e150_34 {ls : nv_Ls} {σ : nv_St} {x : Int32} : np_X 150 34 ls [.int x] σ = some (.inl (some (.int x)), σ) := np_reti k150 rfl rfl
-- 151 SpoonNavyLaw.xOf
theorem k151 : np_P.1 151 = np_c151 := rfl
theorem e151_0 {ls : nv_Ls} {st : List Value} {σ : nv_St} : np_X 151 0 ls st σ = np_X 151 3 ls (.int (-1000) :: st) σ := np_op k151 rfl rfl
theorem e151_3n (x : Int32) {l0 l2 l3 : Option Value} {st : List Value} {σ : nv_St} : np_X 151 3 [l0, none, l2, l3] (.int x :: st) σ = np_X 151 4 [l0, none, some (.int x), l3] st σ := np_op k151 rfl rfl
theorem e151_3i (x : Int32) {z : Int32} {l0 l2 l3 : Option Value} {st : List Value} {σ : nv_St} : np_X 151 3 [l0, some (.int z), l2, l3] (.int x :: st) σ = np_X 151 4 [l0, some (.int z), some (.int x), l3] st σ := np_op k151 rfl rfl
theorem e151_3r (x : Int32) {z : Nat} {l0 l2 l3 : Option Value} {st : List Value} {σ : nv_St} : np_X 151 3 [l0, some (.ref z), l2, l3] (.int x :: st) σ = np_X 151 4 [l0, some (.ref z), some (.int x), l3] st σ := np_op k151 rfl rfl
theorem e151_3v (x : Int32) {l0 l2 l3 : Option Value} {st : List Value} {σ : nv_St} : np_X 151 3 [l0, some .null, l2, l3] (.int x :: st) σ = np_X 151 4 [l0, some .null, some (.int x), l3] st σ := np_op k151 rfl rfl
theorem e151_4 (x : Nat) {l1 l2 l3 : Option Value} {st : List Value} {σ : nv_St} : np_X 151 4 [some (.ref x), l1, l2, l3] st σ = np_X 151 5 [some (.ref x), l1, l2, l3] (.ref x :: st) σ := np_op k151 rfl rfl
theorem e151_4u  {l1 l2 l3 : Option Value} {st : List Value} {σ : nv_St} : np_X 151 4 [some .null, l1, l2, l3] st σ = np_X 151 5 [some .null, l1, l2, l3] (.null :: st) σ := np_op k151 rfl rfl
theorem e151_5 (x : Int32) {l0 l2 l3 : Option Value} {st : List Value} {σ : nv_St} : np_X 151 5 [l0, some (.int x), l2, l3] st σ = np_X 151 6 [l0, some (.int x), l2, l3] (.int x :: st) σ := np_op k151 rfl rfl
theorem e151_6 {ls : nv_Ls} {st : List Value} {σ : nv_St} {a : Nat} {x0 : Int32} (h : st.length ≤ 4) (h0 : nv_isO σ 5 a = true) : np_X 151 6 ls (.int x0 :: .ref a :: st) σ = np_aft 151 6 9 ls st (np_X 87 0 [some (.ref a), some (.int x0)] [] σ) := np_call k151 rfl (Nat.le_add_left 2 _) rfl rfl h rfl h0 rfl
theorem e151_9n (x : Int32) {l0 l2 l3 : Option Value} {st : List Value} {σ : nv_St} : np_X 151 9 [l0, none, l2, l3] (.int x :: st) σ = np_X 151 10 [l0, none, some (.int x), l3] st σ := np_op k151 rfl rfl
theorem e151_9i (x : Int32) {z : Int32} {l0 l2 l3 : Option Value} {st : List Value} {σ : nv_St} : np_X 151 9 [l0, some (.int z), l2, l3] (.int x :: st) σ = np_X 151 10 [l0, some (.int z), some (.int x), l3] st σ := np_op k151 rfl rfl
theorem e151_9r (x : Int32) {z : Nat} {l0 l2 l3 : Option Value} {st : List Value} {σ : nv_St} : np_X 151 9 [l0, some (.ref z), l2, l3] (.int x :: st) σ = np_X 151 10 [l0, some (.ref z), some (.int x), l3] st σ := np_op k151 rfl rfl
theorem e151_9v (x : Int32) {l0 l2 l3 : Option Value} {st : List Value} {σ : nv_St} : np_X 151 9 [l0, some .null, l2, l3] (.int x :: st) σ = np_X 151 10 [l0, some .null, some (.int x), l3] st σ := np_op k151 rfl rfl
theorem e151_10 {ls : nv_Ls} {st : List Value} {σ : nv_St} : np_X 151 10 ls st σ = np_X 151 23 ls st σ := np_op k151 rfl rfl
theorem e151_14 {ls : nv_Ls} {st : List Value} {σ : nv_St} : np_X 151 14 ls st σ = np_X 151 17 ls (.int (-1000) :: st) σ := np_op k151 rfl rfl
theorem e151_17 {ls : nv_Ls} {σ : nv_St} {x : Int32} : np_X 151 17 ls [.int x] σ = some (.inl (some (.int x)), σ) := np_reti k151 rfl rfl
theorem e151_19 {ls : nv_Ls} {st : List Value} {σ : nv_St} : np_X 151 19 ls st σ = np_X 151 22 ls (.int (-1000) :: st) σ := np_op k151 rfl rfl
theorem e151_22 {ls : nv_Ls} {σ : nv_St} {x : Int32} : np_X 151 22 ls [.int x] σ = some (.inl (some (.int x)), σ) := np_reti k151 rfl rfl
theorem e151_23 (x : Int32) {l0 l1 l3 : Option Value} {st : List Value} {σ : nv_St} : np_X 151 23 [l0, l1, some (.int x), l3] st σ = np_X 151 24 [l0, l1, some (.int x), l3] (.int x :: st) σ := np_op k151 rfl rfl
theorem e151_24 {ls : nv_Ls} {σ : nv_St} {x : Int32} : np_X 151 24 ls [.int x] σ = some (.inl (some (.int x)), σ) := np_reti k151 rfl rfl
-- 152 SpoonNavyLaw.yOf
theorem k152 : np_P.1 152 = np_c152 := rfl
theorem e152_0 {ls : nv_Ls} {st : List Value} {σ : nv_St} : np_X 152 0 ls st σ = np_X 152 3 ls (.int (-1000) :: st) σ := np_op k152 rfl rfl
theorem e152_3n (x : Int32) {l0 l2 l3 : Option Value} {st : List Value} {σ : nv_St} : np_X 152 3 [l0, none, l2, l3] (.int x :: st) σ = np_X 152 4 [l0, none, some (.int x), l3] st σ := np_op k152 rfl rfl
theorem e152_3i (x : Int32) {z : Int32} {l0 l2 l3 : Option Value} {st : List Value} {σ : nv_St} : np_X 152 3 [l0, some (.int z), l2, l3] (.int x :: st) σ = np_X 152 4 [l0, some (.int z), some (.int x), l3] st σ := np_op k152 rfl rfl
theorem e152_3r (x : Int32) {z : Nat} {l0 l2 l3 : Option Value} {st : List Value} {σ : nv_St} : np_X 152 3 [l0, some (.ref z), l2, l3] (.int x :: st) σ = np_X 152 4 [l0, some (.ref z), some (.int x), l3] st σ := np_op k152 rfl rfl
theorem e152_3v (x : Int32) {l0 l2 l3 : Option Value} {st : List Value} {σ : nv_St} : np_X 152 3 [l0, some .null, l2, l3] (.int x :: st) σ = np_X 152 4 [l0, some .null, some (.int x), l3] st σ := np_op k152 rfl rfl
theorem e152_4 (x : Nat) {l1 l2 l3 : Option Value} {st : List Value} {σ : nv_St} : np_X 152 4 [some (.ref x), l1, l2, l3] st σ = np_X 152 5 [some (.ref x), l1, l2, l3] (.ref x :: st) σ := np_op k152 rfl rfl
theorem e152_4u  {l1 l2 l3 : Option Value} {st : List Value} {σ : nv_St} : np_X 152 4 [some .null, l1, l2, l3] st σ = np_X 152 5 [some .null, l1, l2, l3] (.null :: st) σ := np_op k152 rfl rfl
theorem e152_5 (x : Int32) {l0 l2 l3 : Option Value} {st : List Value} {σ : nv_St} : np_X 152 5 [l0, some (.int x), l2, l3] st σ = np_X 152 6 [l0, some (.int x), l2, l3] (.int x :: st) σ := np_op k152 rfl rfl
theorem e152_6 {ls : nv_Ls} {st : List Value} {σ : nv_St} {a : Nat} {x0 : Int32} (h : st.length ≤ 4) (h0 : nv_isO σ 5 a = true) : np_X 152 6 ls (.int x0 :: .ref a :: st) σ = np_aft 152 6 9 ls st (np_X 88 0 [some (.ref a), some (.int x0)] [] σ) := np_call k152 rfl (Nat.le_add_left 2 _) rfl rfl h rfl h0 rfl
theorem e152_9n (x : Int32) {l0 l2 l3 : Option Value} {st : List Value} {σ : nv_St} : np_X 152 9 [l0, none, l2, l3] (.int x :: st) σ = np_X 152 10 [l0, none, some (.int x), l3] st σ := np_op k152 rfl rfl
theorem e152_9i (x : Int32) {z : Int32} {l0 l2 l3 : Option Value} {st : List Value} {σ : nv_St} : np_X 152 9 [l0, some (.int z), l2, l3] (.int x :: st) σ = np_X 152 10 [l0, some (.int z), some (.int x), l3] st σ := np_op k152 rfl rfl
theorem e152_9r (x : Int32) {z : Nat} {l0 l2 l3 : Option Value} {st : List Value} {σ : nv_St} : np_X 152 9 [l0, some (.ref z), l2, l3] (.int x :: st) σ = np_X 152 10 [l0, some (.ref z), some (.int x), l3] st σ := np_op k152 rfl rfl
theorem e152_9v (x : Int32) {l0 l2 l3 : Option Value} {st : List Value} {σ : nv_St} : np_X 152 9 [l0, some .null, l2, l3] (.int x :: st) σ = np_X 152 10 [l0, some .null, some (.int x), l3] st σ := np_op k152 rfl rfl
theorem e152_10 {ls : nv_Ls} {st : List Value} {σ : nv_St} : np_X 152 10 ls st σ = np_X 152 23 ls st σ := np_op k152 rfl rfl
theorem e152_14 {ls : nv_Ls} {st : List Value} {σ : nv_St} : np_X 152 14 ls st σ = np_X 152 17 ls (.int (-1000) :: st) σ := np_op k152 rfl rfl
theorem e152_17 {ls : nv_Ls} {σ : nv_St} {x : Int32} : np_X 152 17 ls [.int x] σ = some (.inl (some (.int x)), σ) := np_reti k152 rfl rfl
theorem e152_19 {ls : nv_Ls} {st : List Value} {σ : nv_St} : np_X 152 19 ls st σ = np_X 152 22 ls (.int (-1000) :: st) σ := np_op k152 rfl rfl
theorem e152_22 {ls : nv_Ls} {σ : nv_St} {x : Int32} : np_X 152 22 ls [.int x] σ = some (.inl (some (.int x)), σ) := np_reti k152 rfl rfl
theorem e152_23 (x : Int32) {l0 l1 l3 : Option Value} {st : List Value} {σ : nv_St} : np_X 152 23 [l0, l1, some (.int x), l3] st σ = np_X 152 24 [l0, l1, some (.int x), l3] (.int x :: st) σ := np_op k152 rfl rfl
theorem e152_24 {ls : nv_Ls} {σ : nv_St} {x : Int32} : np_X 152 24 ls [.int x] σ = some (.inl (some (.int x)), σ) := np_reti k152 rfl rfl
-- 153 SpoonNavyLaw.spoonAt
theorem k153 : np_P.1 153 = np_c153 := rfl
theorem e153_0 {ls : nv_Ls} {st : List Value} {σ : nv_St} : np_X 153 0 ls st σ = np_X 153 3 ls (.int (-1000) :: st) σ := np_op k153 rfl rfl
theorem e153_3n (x : Int32) {l0 l1 l3 l4 : Option Value} {st : List Value} {σ : nv_St} : np_X 153 3 [l0, l1, none, l3, l4] (.int x :: st) σ = np_X 153 4 [l0, l1, none, some (.int x), l4] st σ := np_op k153 rfl rfl
theorem e153_3i (x : Int32) {z : Int32} {l0 l1 l3 l4 : Option Value} {st : List Value} {σ : nv_St} : np_X 153 3 [l0, l1, some (.int z), l3, l4] (.int x :: st) σ = np_X 153 4 [l0, l1, some (.int z), some (.int x), l4] st σ := np_op k153 rfl rfl
theorem e153_3r (x : Int32) {z : Nat} {l0 l1 l3 l4 : Option Value} {st : List Value} {σ : nv_St} : np_X 153 3 [l0, l1, some (.ref z), l3, l4] (.int x :: st) σ = np_X 153 4 [l0, l1, some (.ref z), some (.int x), l4] st σ := np_op k153 rfl rfl
theorem e153_3v (x : Int32) {l0 l1 l3 l4 : Option Value} {st : List Value} {σ : nv_St} : np_X 153 3 [l0, l1, some .null, l3, l4] (.int x :: st) σ = np_X 153 4 [l0, l1, some .null, some (.int x), l4] st σ := np_op k153 rfl rfl
theorem e153_4 (x : Nat) {l1 l2 l3 l4 : Option Value} {st : List Value} {σ : nv_St} : np_X 153 4 [some (.ref x), l1, l2, l3, l4] st σ = np_X 153 5 [some (.ref x), l1, l2, l3, l4] (.ref x :: st) σ := np_op k153 rfl rfl
theorem e153_4u  {l1 l2 l3 l4 : Option Value} {st : List Value} {σ : nv_St} : np_X 153 4 [some .null, l1, l2, l3, l4] st σ = np_X 153 5 [some .null, l1, l2, l3, l4] (.null :: st) σ := np_op k153 rfl rfl
theorem e153_5 (x : Int32) {l0 l2 l3 l4 : Option Value} {st : List Value} {σ : nv_St} : np_X 153 5 [l0, some (.int x), l2, l3, l4] st σ = np_X 153 6 [l0, some (.int x), l2, l3, l4] (.int x :: st) σ := np_op k153 rfl rfl
theorem e153_6 (x : Int32) {l0 l1 l3 l4 : Option Value} {st : List Value} {σ : nv_St} : np_X 153 6 [l0, l1, some (.int x), l3, l4] st σ = np_X 153 7 [l0, l1, some (.int x), l3, l4] (.int x :: st) σ := np_op k153 rfl rfl
theorem e153_7 {ls : nv_Ls} {st : List Value} {σ : nv_St} {a : Nat} {x0 : Int32} {x1 : Int32} (h : st.length ≤ 4) (h0 : nv_isO σ 5 a = true) : np_X 153 7 ls (.int x1 :: .int x0 :: .ref a :: st) σ = np_aft 153 7 10 ls st (np_X 93 0 [some (.ref a), some (.int x0), some (.int x1), none] [] σ) := np_call k153 rfl (Nat.le_add_left 3 _) rfl rfl h rfl h0 rfl
theorem e153_10n (x : Int32) {l0 l1 l3 l4 : Option Value} {st : List Value} {σ : nv_St} : np_X 153 10 [l0, l1, none, l3, l4] (.int x :: st) σ = np_X 153 11 [l0, l1, none, some (.int x), l4] st σ := np_op k153 rfl rfl
theorem e153_10i (x : Int32) {z : Int32} {l0 l1 l3 l4 : Option Value} {st : List Value} {σ : nv_St} : np_X 153 10 [l0, l1, some (.int z), l3, l4] (.int x :: st) σ = np_X 153 11 [l0, l1, some (.int z), some (.int x), l4] st σ := np_op k153 rfl rfl
theorem e153_10r (x : Int32) {z : Nat} {l0 l1 l3 l4 : Option Value} {st : List Value} {σ : nv_St} : np_X 153 10 [l0, l1, some (.ref z), l3, l4] (.int x :: st) σ = np_X 153 11 [l0, l1, some (.ref z), some (.int x), l4] st σ := np_op k153 rfl rfl
theorem e153_10v (x : Int32) {l0 l1 l3 l4 : Option Value} {st : List Value} {σ : nv_St} : np_X 153 10 [l0, l1, some .null, l3, l4] (.int x :: st) σ = np_X 153 11 [l0, l1, some .null, some (.int x), l4] st σ := np_op k153 rfl rfl
theorem e153_11 {ls : nv_Ls} {st : List Value} {σ : nv_St} : np_X 153 11 ls st σ = np_X 153 26 ls st σ := np_op k153 rfl rfl
theorem e153_16 {ls : nv_Ls} {st : List Value} {σ : nv_St} : np_X 153 16 ls st σ = np_X 153 19 ls (.int (-1000) :: st) σ := np_op k153 rfl rfl
theorem e153_19 {ls : nv_Ls} {σ : nv_St} {x : Int32} : np_X 153 19 ls [.int x] σ = some (.inl (some (.int x)), σ) := np_reti k153 rfl rfl
theorem e153_22 {ls : nv_Ls} {st : List Value} {σ : nv_St} : np_X 153 22 ls st σ = np_X 153 25 ls (.int (-1000) :: st) σ := np_op k153 rfl rfl
theorem e153_25 {ls : nv_Ls} {σ : nv_St} {x : Int32} : np_X 153 25 ls [.int x] σ = some (.inl (some (.int x)), σ) := np_reti k153 rfl rfl
theorem e153_26 (x : Int32) {l0 l1 l2 l4 : Option Value} {st : List Value} {σ : nv_St} : np_X 153 26 [l0, l1, l2, some (.int x), l4] st σ = np_X 153 27 [l0, l1, l2, some (.int x), l4] (.int x :: st) σ := np_op k153 rfl rfl
theorem e153_27 {ls : nv_Ls} {σ : nv_St} {x : Int32} : np_X 153 27 ls [.int x] σ = some (.inl (some (.int x)), σ) := np_reti k153 rfl rfl
-- 154 SpoonNavyLaw.knownX
theorem k154 : np_P.1 154 = np_c154 := rfl
theorem e154_0 {ls : nv_Ls} {st : List Value} {σ : nv_St} : np_X 154 0 ls st σ = np_X 154 3 ls (.int (-1000) :: st) σ := np_op k154 rfl rfl
theorem e154_3n (x : Int32) {l0 l2 l3 : Option Value} {st : List Value} {σ : nv_St} : np_X 154 3 [l0, none, l2, l3] (.int x :: st) σ = np_X 154 4 [l0, none, some (.int x), l3] st σ := np_op k154 rfl rfl
theorem e154_3i (x : Int32) {z : Int32} {l0 l2 l3 : Option Value} {st : List Value} {σ : nv_St} : np_X 154 3 [l0, some (.int z), l2, l3] (.int x :: st) σ = np_X 154 4 [l0, some (.int z), some (.int x), l3] st σ := np_op k154 rfl rfl
theorem e154_3r (x : Int32) {z : Nat} {l0 l2 l3 : Option Value} {st : List Value} {σ : nv_St} : np_X 154 3 [l0, some (.ref z), l2, l3] (.int x :: st) σ = np_X 154 4 [l0, some (.ref z), some (.int x), l3] st σ := np_op k154 rfl rfl
theorem e154_3v (x : Int32) {l0 l2 l3 : Option Value} {st : List Value} {σ : nv_St} : np_X 154 3 [l0, some .null, l2, l3] (.int x :: st) σ = np_X 154 4 [l0, some .null, some (.int x), l3] st σ := np_op k154 rfl rfl
theorem e154_4 (x : Nat) {l1 l2 l3 : Option Value} {st : List Value} {σ : nv_St} : np_X 154 4 [some (.ref x), l1, l2, l3] st σ = np_X 154 5 [some (.ref x), l1, l2, l3] (.ref x :: st) σ := np_op k154 rfl rfl
theorem e154_4u  {l1 l2 l3 : Option Value} {st : List Value} {σ : nv_St} : np_X 154 4 [some .null, l1, l2, l3] st σ = np_X 154 5 [some .null, l1, l2, l3] (.null :: st) σ := np_op k154 rfl rfl
theorem e154_5 (x : Int32) {l0 l2 l3 : Option Value} {st : List Value} {σ : nv_St} : np_X 154 5 [l0, some (.int x), l2, l3] st σ = np_X 154 6 [l0, some (.int x), l2, l3] (.int x :: st) σ := np_op k154 rfl rfl
theorem e154_6 {ls : nv_Ls} {st : List Value} {σ : nv_St} {a : Nat} {x0 : Int32} (h : st.length ≤ 4) (h0 : nv_isO σ 5 a = true) : np_X 154 6 ls (.int x0 :: .ref a :: st) σ = np_aft 154 6 9 ls st (np_X 94 0 [some (.ref a), some (.int x0)] [] σ) := np_call k154 rfl (Nat.le_add_left 2 _) rfl rfl h rfl h0 rfl
theorem e154_9n (x : Int32) {l0 l2 l3 : Option Value} {st : List Value} {σ : nv_St} : np_X 154 9 [l0, none, l2, l3] (.int x :: st) σ = np_X 154 10 [l0, none, some (.int x), l3] st σ := np_op k154 rfl rfl
theorem e154_9i (x : Int32) {z : Int32} {l0 l2 l3 : Option Value} {st : List Value} {σ : nv_St} : np_X 154 9 [l0, some (.int z), l2, l3] (.int x :: st) σ = np_X 154 10 [l0, some (.int z), some (.int x), l3] st σ := np_op k154 rfl rfl
theorem e154_9r (x : Int32) {z : Nat} {l0 l2 l3 : Option Value} {st : List Value} {σ : nv_St} : np_X 154 9 [l0, some (.ref z), l2, l3] (.int x :: st) σ = np_X 154 10 [l0, some (.ref z), some (.int x), l3] st σ := np_op k154 rfl rfl
theorem e154_9v (x : Int32) {l0 l2 l3 : Option Value} {st : List Value} {σ : nv_St} : np_X 154 9 [l0, some .null, l2, l3] (.int x :: st) σ = np_X 154 10 [l0, some .null, some (.int x), l3] st σ := np_op k154 rfl rfl
theorem e154_10 {ls : nv_Ls} {st : List Value} {σ : nv_St} : np_X 154 10 ls st σ = np_X 154 23 ls st σ := np_op k154 rfl rfl
theorem e154_14 {ls : nv_Ls} {st : List Value} {σ : nv_St} : np_X 154 14 ls st σ = np_X 154 17 ls (.int (-1000) :: st) σ := np_op k154 rfl rfl
theorem e154_17 {ls : nv_Ls} {σ : nv_St} {x : Int32} : np_X 154 17 ls [.int x] σ = some (.inl (some (.int x)), σ) := np_reti k154 rfl rfl
theorem e154_19 {ls : nv_Ls} {st : List Value} {σ : nv_St} : np_X 154 19 ls st σ = np_X 154 22 ls (.int (-1000) :: st) σ := np_op k154 rfl rfl
theorem e154_22 {ls : nv_Ls} {σ : nv_St} {x : Int32} : np_X 154 22 ls [.int x] σ = some (.inl (some (.int x)), σ) := np_reti k154 rfl rfl
theorem e154_23 (x : Int32) {l0 l1 l3 : Option Value} {st : List Value} {σ : nv_St} : np_X 154 23 [l0, l1, some (.int x), l3] st σ = np_X 154 24 [l0, l1, some (.int x), l3] (.int x :: st) σ := np_op k154 rfl rfl
theorem e154_24 {ls : nv_Ls} {σ : nv_St} {x : Int32} : np_X 154 24 ls [.int x] σ = some (.inl (some (.int x)), σ) := np_reti k154 rfl rfl
-- 155 SpoonNavyLaw.knownY
theorem k155 : np_P.1 155 = np_c155 := rfl
theorem e155_0 {ls : nv_Ls} {st : List Value} {σ : nv_St} : np_X 155 0 ls st σ = np_X 155 3 ls (.int (-1000) :: st) σ := np_op k155 rfl rfl
theorem e155_3n (x : Int32) {l0 l2 l3 : Option Value} {st : List Value} {σ : nv_St} : np_X 155 3 [l0, none, l2, l3] (.int x :: st) σ = np_X 155 4 [l0, none, some (.int x), l3] st σ := np_op k155 rfl rfl
theorem e155_3i (x : Int32) {z : Int32} {l0 l2 l3 : Option Value} {st : List Value} {σ : nv_St} : np_X 155 3 [l0, some (.int z), l2, l3] (.int x :: st) σ = np_X 155 4 [l0, some (.int z), some (.int x), l3] st σ := np_op k155 rfl rfl
theorem e155_3r (x : Int32) {z : Nat} {l0 l2 l3 : Option Value} {st : List Value} {σ : nv_St} : np_X 155 3 [l0, some (.ref z), l2, l3] (.int x :: st) σ = np_X 155 4 [l0, some (.ref z), some (.int x), l3] st σ := np_op k155 rfl rfl
theorem e155_3v (x : Int32) {l0 l2 l3 : Option Value} {st : List Value} {σ : nv_St} : np_X 155 3 [l0, some .null, l2, l3] (.int x :: st) σ = np_X 155 4 [l0, some .null, some (.int x), l3] st σ := np_op k155 rfl rfl
theorem e155_4 (x : Nat) {l1 l2 l3 : Option Value} {st : List Value} {σ : nv_St} : np_X 155 4 [some (.ref x), l1, l2, l3] st σ = np_X 155 5 [some (.ref x), l1, l2, l3] (.ref x :: st) σ := np_op k155 rfl rfl
theorem e155_4u  {l1 l2 l3 : Option Value} {st : List Value} {σ : nv_St} : np_X 155 4 [some .null, l1, l2, l3] st σ = np_X 155 5 [some .null, l1, l2, l3] (.null :: st) σ := np_op k155 rfl rfl
theorem e155_5 (x : Int32) {l0 l2 l3 : Option Value} {st : List Value} {σ : nv_St} : np_X 155 5 [l0, some (.int x), l2, l3] st σ = np_X 155 6 [l0, some (.int x), l2, l3] (.int x :: st) σ := np_op k155 rfl rfl
theorem e155_6 {ls : nv_Ls} {st : List Value} {σ : nv_St} {a : Nat} {x0 : Int32} (h : st.length ≤ 4) (h0 : nv_isO σ 5 a = true) : np_X 155 6 ls (.int x0 :: .ref a :: st) σ = np_aft 155 6 9 ls st (np_X 95 0 [some (.ref a), some (.int x0)] [] σ) := np_call k155 rfl (Nat.le_add_left 2 _) rfl rfl h rfl h0 rfl
theorem e155_9n (x : Int32) {l0 l2 l3 : Option Value} {st : List Value} {σ : nv_St} : np_X 155 9 [l0, none, l2, l3] (.int x :: st) σ = np_X 155 10 [l0, none, some (.int x), l3] st σ := np_op k155 rfl rfl
theorem e155_9i (x : Int32) {z : Int32} {l0 l2 l3 : Option Value} {st : List Value} {σ : nv_St} : np_X 155 9 [l0, some (.int z), l2, l3] (.int x :: st) σ = np_X 155 10 [l0, some (.int z), some (.int x), l3] st σ := np_op k155 rfl rfl
theorem e155_9r (x : Int32) {z : Nat} {l0 l2 l3 : Option Value} {st : List Value} {σ : nv_St} : np_X 155 9 [l0, some (.ref z), l2, l3] (.int x :: st) σ = np_X 155 10 [l0, some (.ref z), some (.int x), l3] st σ := np_op k155 rfl rfl
theorem e155_9v (x : Int32) {l0 l2 l3 : Option Value} {st : List Value} {σ : nv_St} : np_X 155 9 [l0, some .null, l2, l3] (.int x :: st) σ = np_X 155 10 [l0, some .null, some (.int x), l3] st σ := np_op k155 rfl rfl
theorem e155_10 {ls : nv_Ls} {st : List Value} {σ : nv_St} : np_X 155 10 ls st σ = np_X 155 23 ls st σ := np_op k155 rfl rfl
theorem e155_14 {ls : nv_Ls} {st : List Value} {σ : nv_St} : np_X 155 14 ls st σ = np_X 155 17 ls (.int (-1000) :: st) σ := np_op k155 rfl rfl
theorem e155_17 {ls : nv_Ls} {σ : nv_St} {x : Int32} : np_X 155 17 ls [.int x] σ = some (.inl (some (.int x)), σ) := np_reti k155 rfl rfl
theorem e155_19 {ls : nv_Ls} {st : List Value} {σ : nv_St} : np_X 155 19 ls st σ = np_X 155 22 ls (.int (-1000) :: st) σ := np_op k155 rfl rfl
theorem e155_22 {ls : nv_Ls} {σ : nv_St} {x : Int32} : np_X 155 22 ls [.int x] σ = some (.inl (some (.int x)), σ) := np_reti k155 rfl rfl
theorem e155_23 (x : Int32) {l0 l1 l3 : Option Value} {st : List Value} {σ : nv_St} : np_X 155 23 [l0, l1, some (.int x), l3] st σ = np_X 155 24 [l0, l1, some (.int x), l3] (.int x :: st) σ := np_op k155 rfl rfl
theorem e155_24 {ls : nv_Ls} {σ : nv_St} {x : Int32} : np_X 155 24 ls [.int x] σ = some (.inl (some (.int x)), σ) := np_reti k155 rfl rfl
-- 156 SpoonNavyLaw.spoonAtRank
theorem k156 : np_P.1 156 = np_c156 := rfl
theorem e156_0 {ls : nv_Ls} {st : List Value} {σ : nv_St} : np_X 156 0 ls st σ = np_X 156 3 ls (.int (-1000) :: st) σ := np_op k156 rfl rfl
theorem e156_3n (x : Int32) {l0 l2 l3 : Option Value} {st : List Value} {σ : nv_St} : np_X 156 3 [l0, none, l2, l3] (.int x :: st) σ = np_X 156 4 [l0, none, some (.int x), l3] st σ := np_op k156 rfl rfl
theorem e156_3i (x : Int32) {z : Int32} {l0 l2 l3 : Option Value} {st : List Value} {σ : nv_St} : np_X 156 3 [l0, some (.int z), l2, l3] (.int x :: st) σ = np_X 156 4 [l0, some (.int z), some (.int x), l3] st σ := np_op k156 rfl rfl
theorem e156_3r (x : Int32) {z : Nat} {l0 l2 l3 : Option Value} {st : List Value} {σ : nv_St} : np_X 156 3 [l0, some (.ref z), l2, l3] (.int x :: st) σ = np_X 156 4 [l0, some (.ref z), some (.int x), l3] st σ := np_op k156 rfl rfl
theorem e156_3v (x : Int32) {l0 l2 l3 : Option Value} {st : List Value} {σ : nv_St} : np_X 156 3 [l0, some .null, l2, l3] (.int x :: st) σ = np_X 156 4 [l0, some .null, some (.int x), l3] st σ := np_op k156 rfl rfl
theorem e156_4 (x : Nat) {l1 l2 l3 : Option Value} {st : List Value} {σ : nv_St} : np_X 156 4 [some (.ref x), l1, l2, l3] st σ = np_X 156 5 [some (.ref x), l1, l2, l3] (.ref x :: st) σ := np_op k156 rfl rfl
theorem e156_4u  {l1 l2 l3 : Option Value} {st : List Value} {σ : nv_St} : np_X 156 4 [some .null, l1, l2, l3] st σ = np_X 156 5 [some .null, l1, l2, l3] (.null :: st) σ := np_op k156 rfl rfl
theorem e156_5 (x : Int32) {l0 l2 l3 : Option Value} {st : List Value} {σ : nv_St} : np_X 156 5 [l0, some (.int x), l2, l3] st σ = np_X 156 6 [l0, some (.int x), l2, l3] (.int x :: st) σ := np_op k156 rfl rfl
theorem e156_6 {ls : nv_Ls} {st : List Value} {σ : nv_St} {a : Nat} {x0 : Int32} (h : st.length ≤ 4) (h0 : nv_isO σ 5 a = true) : np_X 156 6 ls (.int x0 :: .ref a :: st) σ = np_aft 156 6 9 ls st (np_X 98 0 [some (.ref a), some (.int x0), none] [] σ) := np_call k156 rfl (Nat.le_add_left 2 _) rfl rfl h rfl h0 rfl
theorem e156_9n (x : Int32) {l0 l2 l3 : Option Value} {st : List Value} {σ : nv_St} : np_X 156 9 [l0, none, l2, l3] (.int x :: st) σ = np_X 156 10 [l0, none, some (.int x), l3] st σ := np_op k156 rfl rfl
theorem e156_9i (x : Int32) {z : Int32} {l0 l2 l3 : Option Value} {st : List Value} {σ : nv_St} : np_X 156 9 [l0, some (.int z), l2, l3] (.int x :: st) σ = np_X 156 10 [l0, some (.int z), some (.int x), l3] st σ := np_op k156 rfl rfl
theorem e156_9r (x : Int32) {z : Nat} {l0 l2 l3 : Option Value} {st : List Value} {σ : nv_St} : np_X 156 9 [l0, some (.ref z), l2, l3] (.int x :: st) σ = np_X 156 10 [l0, some (.ref z), some (.int x), l3] st σ := np_op k156 rfl rfl
theorem e156_9v (x : Int32) {l0 l2 l3 : Option Value} {st : List Value} {σ : nv_St} : np_X 156 9 [l0, some .null, l2, l3] (.int x :: st) σ = np_X 156 10 [l0, some .null, some (.int x), l3] st σ := np_op k156 rfl rfl
theorem e156_10 {ls : nv_Ls} {st : List Value} {σ : nv_St} : np_X 156 10 ls st σ = np_X 156 18 ls st σ := np_op k156 rfl rfl
theorem e156_14 {ls : nv_Ls} {st : List Value} {σ : nv_St} : np_X 156 14 ls st σ = np_X 156 17 ls (.int (-1000) :: st) σ := np_op k156 rfl rfl
theorem e156_17 {ls : nv_Ls} {σ : nv_St} {x : Int32} : np_X 156 17 ls [.int x] σ = some (.inl (some (.int x)), σ) := np_reti k156 rfl rfl
theorem e156_18 (x : Int32) {l0 l1 l3 : Option Value} {st : List Value} {σ : nv_St} : np_X 156 18 [l0, l1, some (.int x), l3] st σ = np_X 156 19 [l0, l1, some (.int x), l3] (.int x :: st) σ := np_op k156 rfl rfl
theorem e156_19 {ls : nv_Ls} {σ : nv_St} {x : Int32} : np_X 156 19 ls [.int x] σ = some (.inl (some (.int x)), σ) := np_reti k156 rfl rfl
