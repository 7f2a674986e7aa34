-- an equation for each instruction (written by wip/p56/gen30.py)
-- 43 SpoonNavy$Game.areCellsSingle
theorem k43 : np_P.1 43 = np_c43 := rfl
theorem e43_0 (x : Nat) {l1 l2 l3 l4 l5 : Option Value} {st : List Value} {σ : nv_St} : np_X 43 0 [some (.ref x), l1, l2, l3, l4, l5] st σ = np_X 43 1 [some (.ref x), l1, l2, l3, l4, l5] (.ref x :: st) σ := np_op k43 rfl rfl
theorem e43_0u  {l1 l2 l3 l4 l5 : Option Value} {st : List Value} {σ : nv_St} : np_X 43 0 [some .null, l1, l2, l3, l4, l5] st σ = np_X 43 1 [some .null, l1, l2, l3, l4, l5] (.null :: st) σ := np_op k43 rfl rfl
theorem e43_1 {ls : nv_Ls} {st : List Value} {σ : nv_St} {a : Nat} : np_X 43 1 ls (.ref a :: st) σ = np_b (nv_fld σ 2 0 a) (fun v => np_X 43 4 ls (v :: st) σ) := np_get k43 rfl
theorem e43_4n (x : Nat) {l1 l2 l3 l4 l5 : Option Value} {st : List Value} {σ : nv_St} : np_X 43 4 [none, l1, l2, l3, l4, l5] (.ref x :: st) σ = np_X 43 5 [none, some (.ref x), l2, l3, l4, l5] st σ := np_op k43 rfl rfl
theorem e43_4i (x : Nat) {z : Int32} {l1 l2 l3 l4 l5 : Option Value} {st : List Value} {σ : nv_St} : np_X 43 4 [some (.int z), l1, l2, l3, l4, l5] (.ref x :: st) σ = np_X 43 5 [some (.int z), some (.ref x), l2, l3, l4, l5] st σ := np_op k43 rfl rfl
theorem e43_4r (x : Nat) {z : Nat} {l1 l2 l3 l4 l5 : Option Value} {st : List Value} {σ : nv_St} : np_X 43 4 [some (.ref z), l1, l2, l3, l4, l5] (.ref x :: st) σ = np_X 43 5 [some (.ref z), some (.ref x), l2, l3, l4, l5] st σ := np_op k43 rfl rfl
theorem e43_4v (x : Nat) {l1 l2 l3 l4 l5 : Option Value} {st : List Value} {σ : nv_St} : np_X 43 4 [some .null, l1, l2, l3, l4, l5] (.ref x :: st) σ = np_X 43 5 [some .null, some (.ref x), l2, l3, l4, l5] st σ := np_op k43 rfl rfl
theorem e43_4un  {l1 l2 l3 l4 l5 : Option Value} {st : List Value} {σ : nv_St} : np_X 43 4 [none, l1, l2, l3, l4, l5] (.null :: st) σ = np_X 43 5 [none, some .null, l2, l3, l4, l5] st σ := np_op k43 rfl rfl
theorem e43_4ui  {z : Int32} {l1 l2 l3 l4 l5 : Option Value} {st : List Value} {σ : nv_St} : np_X 43 4 [some (.int z), l1, l2, l3, l4, l5] (.null :: st) σ = np_X 43 5 [some (.int z), some .null, l2, l3, l4, l5] st σ := np_op k43 rfl rfl
theorem e43_4ur  {z : Nat} {l1 l2 l3 l4 l5 : Option Value} {st : List Value} {σ : nv_St} : np_X 43 4 [some (.ref z), l1, l2, l3, l4, l5] (.null :: st) σ = np_X 43 5 [some (.ref z), some .null, l2, l3, l4, l5] st σ := np_op k43 rfl rfl
theorem e43_4uv  {l1 l2 l3 l4 l5 : Option Value} {st : List Value} {σ : nv_St} : np_X 43 4 [some .null, l1, l2, l3, l4, l5] (.null :: st) σ = np_X 43 5 [some .null, some .null, l2, l3, l4, l5] st σ := np_op k43 rfl rfl
theorem e43_5 (x : Nat) {l0 l2 l3 l4 l5 : Option Value} {st : List Value} {σ : nv_St} : np_X 43 5 [l0, some (.ref x), l2, l3, l4, l5] st σ = np_X 43 6 [l0, some (.ref x), l2, l3, l4, l5] (.ref x :: st) σ := np_op k43 rfl rfl
theorem e43_5u  {l0 l2 l3 l4 l5 : Option Value} {st : List Value} {σ : nv_St} : np_X 43 5 [l0, some .null, l2, l3, l4, l5] st σ = np_X 43 6 [l0, some .null, l2, l3, l4, l5] (.null :: st) σ := np_op k43 rfl rfl
theorem e43_6 {ls : nv_Ls} {st : List Value} {σ : nv_St} {a : Nat} : np_X 43 6 ls (.ref a :: st) σ = np_b (nv_len σ 2 a) (fun m => np_X 43 7 ls (.int (Int32.ofNat m) :: st) σ) := np_alen k43 rfl
theorem e43_7n (x : Int32) {l0 l2 l3 l4 l5 : Option Value} {st : List Value} {σ : nv_St} : np_X 43 7 [l0, none, l2, l3, l4, l5] (.int x :: st) σ = np_X 43 8 [l0, none, some (.int x), l3, l4, l5] st σ := np_op k43 rfl rfl
theorem e43_7i (x : Int32) {z : Int32} {l0 l2 l3 l4 l5 : Option Value} {st : List Value} {σ : nv_St} : np_X 43 7 [l0, some (.int z), l2, l3, l4, l5] (.int x :: st) σ = np_X 43 8 [l0, some (.int z), some (.int x), l3, l4, l5] st σ := np_op k43 rfl rfl
theorem e43_7r (x : Int32) {z : Nat} {l0 l2 l3 l4 l5 : Option Value} {st : List Value} {σ : nv_St} : np_X 43 7 [l0, some (.ref z), l2, l3, l4, l5] (.int x :: st) σ = np_X 43 8 [l0, some (.ref z), some (.int x), l3, l4, l5] st σ := np_op k43 rfl rfl
theorem e43_7v (x : Int32) {l0 l2 l3 l4 l5 : Option Value} {st : List Value} {σ : nv_St} : np_X 43 7 [l0, some .null, l2, l3, l4, l5] (.int x :: st) σ = np_X 43 8 [l0, some .null, some (.int x), l3, l4, l5] st σ := np_op k43 rfl rfl
theorem e43_8 {ls : nv_Ls} {st : List Value} {σ : nv_St} : np_X 43 8 ls st σ = np_X 43 9 ls (.int (0) :: st) σ := np_op k43 rfl rfl
theorem e43_9n (x : Int32) {l0 l1 l3 l4 l5 : Option Value} {st : List Value} {σ : nv_St} : np_X 43 9 [l0, l1, none, l3, l4, l5] (.int x :: st) σ = np_X 43 10 [l0, l1, none, some (.int x), l4, l5] st σ := np_op k43 rfl rfl
theorem e43_9i (x : Int32) {z : Int32} {l0 l1 l3 l4 l5 : Option Value} {st : List Value} {σ : nv_St} : np_X 43 9 [l0, l1, some (.int z), l3, l4, l5] (.int x :: st) σ = np_X 43 10 [l0, l1, some (.int z), some (.int x), l4, l5] st σ := np_op k43 rfl rfl
theorem e43_9r (x : Int32) {z : Nat} {l0 l1 l3 l4 l5 : Option Value} {st : List Value} {σ : nv_St} : np_X 43 9 [l0, l1, some (.ref z), l3, l4, l5] (.int x :: st) σ = np_X 43 10 [l0, l1, some (.ref z), some (.int x), l4, l5] st σ := np_op k43 rfl rfl
theorem e43_9v (x : Int32) {l0 l1 l3 l4 l5 : Option Value} {st : List Value} {σ : nv_St} : np_X 43 9 [l0, l1, some .null, l3, l4, l5] (.int x :: st) σ = np_X 43 10 [l0, l1, some .null, some (.int x), l4, l5] st σ := np_op k43 rfl rfl
theorem e43_10 (x : Int32) {l0 l1 l2 l4 l5 : Option Value} {st : List Value} {σ : nv_St} : np_X 43 10 [l0, l1, l2, some (.int x), l4, l5] st σ = np_X 43 11 [l0, l1, l2, some (.int x), l4, l5] (.int x :: st) σ := np_op k43 rfl rfl
theorem e43_11 (x : Int32) {l0 l1 l3 l4 l5 : Option Value} {st : List Value} {σ : nv_St} : np_X 43 11 [l0, l1, some (.int x), l3, l4, l5] st σ = np_X 43 12 [l0, l1, some (.int x), l3, l4, l5] (.int x :: st) σ := np_op k43 rfl rfl
theorem e43_12 {ls : nv_Ls} {st : List Value} {σ : nv_St} {x y : Int32} : np_X 43 12 ls (.int y :: .int x :: st) σ = if x < y then np_X 43 15 ls st σ else np_X 43 70 ls st σ := np_br inferInstance k43 rfl rfl
theorem e43_15 (x : Nat) {l0 l2 l3 l4 l5 : Option Value} {st : List Value} {σ : nv_St} : np_X 43 15 [l0, some (.ref x), l2, l3, l4, l5] st σ = np_X 43 16 [l0, some (.ref x), l2, l3, l4, l5] (.ref x :: st) σ := np_op k43 rfl rfl
theorem e43_15u  {l0 l2 l3 l4 l5 : Option Value} {st : List Value} {σ : nv_St} : np_X 43 15 [l0, some .null, l2, l3, l4, l5] st σ = np_X 43 16 [l0, some .null, l2, l3, l4, l5] (.null :: st) σ := np_op k43 rfl rfl
theorem e43_16 (x : Int32) {l0 l1 l2 l4 l5 : Option Value} {st : List Value} {σ : nv_St} : np_X 43 16 [l0, l1, l2, some (.int x), l4, l5] st σ = np_X 43 17 [l0, l1, l2, some (.int x), l4, l5] (.int x :: st) σ := np_op k43 rfl rfl
theorem e43_17 {ls : nv_Ls} {st : List Value} {σ : nv_St} {a : Nat} {x : Int32} : np_X 43 17 ls (.int x :: .ref a :: st) σ = np_b (nv_rdq σ 2 a x) (fun v => np_X 43 18 ls (v :: st) σ) := np_aldq k43 rfl
theorem e43_18n (x : Nat) {l0 l1 l2 l4 l5 : Option Value} {st : List Value} {σ : nv_St} : np_X 43 18 [l0, l1, l2, none, l4, l5] (.ref x :: st) σ = np_X 43 20 [l0, l1, l2, none, some (.ref x), l5] st σ := np_op k43 rfl rfl
theorem e43_18i (x : Nat) {z : Int32} {l0 l1 l2 l4 l5 : Option Value} {st : List Value} {σ : nv_St} : np_X 43 18 [l0, l1, l2, some (.int z), l4, l5] (.ref x :: st) σ = np_X 43 20 [l0, l1, l2, some (.int z), some (.ref x), l5] st σ := np_op k43 rfl rfl
theorem e43_18r (x : Nat) {z : Nat} {l0 l1 l2 l4 l5 : Option Value} {st : List Value} {σ : nv_St} : np_X 43 18 [l0, l1, l2, some (.ref z), l4, l5] (.ref x :: st) σ = np_X 43 20 [l0, l1, l2, some (.ref z), some (.ref x), l5] st σ := np_op k43 rfl rfl
theorem e43_18v (x : Nat) {l0 l1 l2 l4 l5 : Option Value} {st : List Value} {σ : nv_St} : np_X 43 18 [l0, l1, l2, some .null, l4, l5] (.ref x :: st) σ = np_X 43 20 [l0, l1, l2, some .null, some (.ref x), l5] st σ := np_op k43 rfl rfl
theorem e43_18un  {l0 l1 l2 l4 l5 : Option Value} {st : List Value} {σ : nv_St} : np_X 43 18 [l0, l1, l2, none, l4, l5] (.null :: st) σ = np_X 43 20 [l0, l1, l2, none, some .null, l5] st σ := np_op k43 rfl rfl
theorem e43_18ui  {z : Int32} {l0 l1 l2 l4 l5 : Option Value} {st : List Value} {σ : nv_St} : np_X 43 18 [l0, l1, l2, some (.int z), l4, l5] (.null :: st) σ = np_X 43 20 [l0, l1, l2, some (.int z), some .null, l5] st σ := np_op k43 rfl rfl
theorem e43_18ur  {z : Nat} {l0 l1 l2 l4 l5 : Option Value} {st : List Value} {σ : nv_St} : np_X 43 18 [l0, l1, l2, some (.ref z), l4, l5] (.null :: st) σ = np_X 43 20 [l0, l1, l2, some (.ref z), some .null, l5] st σ := np_op k43 rfl rfl
theorem e43_18uv  {l0 l1 l2 l4 l5 : Option Value} {st : List Value} {σ : nv_St} : np_X 43 18 [l0, l1, l2, some .null, l4, l5] (.null :: st) σ = np_X 43 20 [l0, l1, l2, some .null, some .null, l5] st σ := np_op k43 rfl rfl
theorem e43_20 (x : Nat) {l1 l2 l3 l4 l5 : Option Value} {st : List Value} {σ : nv_St} : np_X 43 20 [some (.ref x), l1, l2, l3, l4, l5] st σ = np_X 43 21 [some (.ref x), l1, l2, l3, l4, l5] (.ref x :: st) σ := np_op k43 rfl rfl
theorem e43_20u  {l1 l2 l3 l4 l5 : Option Value} {st : List Value} {σ : nv_St} : np_X 43 20 [some .null, l1, l2, l3, l4, l5] st σ = np_X 43 21 [some .null, l1, l2, l3, l4, l5] (.null :: st) σ := np_op k43 rfl rfl
theorem e43_21 (x : Nat) {l0 l1 l2 l3 l5 : Option Value} {st : List Value} {σ : nv_St} : np_X 43 21 [l0, l1, l2, l3, some (.ref x), l5] st σ = np_X 43 23 [l0, l1, l2, l3, some (.ref x), l5] (.ref x :: st) σ := np_op k43 rfl rfl
theorem e43_21u  {l0 l1 l2 l3 l5 : Option Value} {st : List Value} {σ : nv_St} : np_X 43 21 [l0, l1, l2, l3, some .null, l5] st σ = np_X 43 23 [l0, l1, l2, l3, some .null, l5] (.null :: st) σ := np_op k43 rfl rfl
theorem e43_23 {ls : nv_Ls} {st : List Value} {σ : nv_St} {a : Nat} : np_X 43 23 ls (.ref a :: st) σ = np_b (nv_fld σ 4 2 a) (fun v => np_X 43 26 ls (v :: st) σ) := np_get k43 rfl
theorem e43_26 (x : Nat) {l0 l1 l2 l3 l5 : Option Value} {st : List Value} {σ : nv_St} : np_X 43 26 [l0, l1, l2, l3, some (.ref x), l5] st σ = np_X 43 28 [l0, l1, l2, l3, some (.ref x), l5] (.ref x :: st) σ := np_op k43 rfl rfl
theorem e43_26u  {l0 l1 l2 l3 l5 : Option Value} {st : List Value} {σ : nv_St} : np_X 43 26 [l0, l1, l2, l3, some .null, l5] st σ = np_X 43 28 [l0, l1, l2, l3, some .null, l5] (.null :: st) σ := np_op k43 rfl rfl
theorem e43_28 {ls : nv_Ls} {st : List Value} {σ : nv_St} {a : Nat} : np_X 43 28 ls (.ref a :: st) σ = np_b (nv_fld σ 4 3 a) (fun v => np_X 43 31 ls (v :: st) σ) := np_get k43 rfl
theorem e43_31 {ls : nv_Ls} {st : List Value} {σ : nv_St} {a : Nat} {x0 : Int32} {x1 : Int32} (h : st.length ≤ 4) (h0 : nv_isO σ 2 a = true) : np_X 43 31 ls (.int x1 :: .int x0 :: .ref a :: st) σ = np_aft 43 31 34 ls st (np_X 32 0 [some (.ref a), some (.int x0), some (.int x1), none, none, none, none] [] σ) := np_call k43 rfl (Nat.le_add_left 3 _) rfl rfl h rfl h0 rfl
theorem e43_34n (x : Nat) {l0 l1 l2 l3 l5 : Option Value} {st : List Value} {σ : nv_St} : np_X 43 34 [l0, l1, l2, l3, none, l5] (.ref x :: st) σ = np_X 43 36 [l0, l1, l2, l3, none, some (.ref x)] st σ := np_op k43 rfl rfl
theorem e43_34i (x : Nat) {z : Int32} {l0 l1 l2 l3 l5 : Option Value} {st : List Value} {σ : nv_St} : np_X 43 34 [l0, l1, l2, l3, some (.int z), l5] (.ref x :: st) σ = np_X 43 36 [l0, l1, l2, l3, some (.int z), some (.ref x)] st σ := np_op k43 rfl rfl
theorem e43_34r (x : Nat) {z : Nat} {l0 l1 l2 l3 l5 : Option Value} {st : List Value} {σ : nv_St} : np_X 43 34 [l0, l1, l2, l3, some (.ref z), l5] (.ref x :: st) σ = np_X 43 36 [l0, l1, l2, l3, some (.ref z), some (.ref x)] st σ := np_op k43 rfl rfl
theorem e43_34v (x : Nat) {l0 l1 l2 l3 l5 : Option Value} {st : List Value} {σ : nv_St} : np_X 43 34 [l0, l1, l2, l3, some .null, l5] (.ref x :: st) σ = np_X 43 36 [l0, l1, l2, l3, some .null, some (.ref x)] st σ := np_op k43 rfl rfl
theorem e43_34un  {l0 l1 l2 l3 l5 : Option Value} {st : List Value} {σ : nv_St} : np_X 43 34 [l0, l1, l2, l3, none, l5] (.null :: st) σ = np_X 43 36 [l0, l1, l2, l3, none, some .null] st σ := np_op k43 rfl rfl
theorem e43_34ui  {z : Int32} {l0 l1 l2 l3 l5 : Option Value} {st : List Value} {σ : nv_St} : np_X 43 34 [l0, l1, l2, l3, some (.int z), l5] (.null :: st) σ = np_X 43 36 [l0, l1, l2, l3, some (.int z), some .null] st σ := np_op k43 rfl rfl
theorem e43_34ur  {z : Nat} {l0 l1 l2 l3 l5 : Option Value} {st : List Value} {σ : nv_St} : np_X 43 34 [l0, l1, l2, l3, some (.ref z), l5] (.null :: st) σ = np_X 43 36 [l0, l1, l2, l3, some (.ref z), some .null] st σ := np_op k43 rfl rfl
theorem e43_34uv  {l0 l1 l2 l3 l5 : Option Value} {st : List Value} {σ : nv_St} : np_X 43 34 [l0, l1, l2, l3, some .null, l5] (.null :: st) σ = np_X 43 36 [l0, l1, l2, l3, some .null, some .null] st σ := np_op k43 rfl rfl
theorem e43_36 (x : Nat) {l0 l1 l2 l3 l5 : Option Value} {st : List Value} {σ : nv_St} : np_X 43 36 [l0, l1, l2, l3, some (.ref x), l5] st σ = np_X 43 38 [l0, l1, l2, l3, some (.ref x), l5] (.ref x :: st) σ := np_op k43 rfl rfl
theorem e43_36u  {l0 l1 l2 l3 l5 : Option Value} {st : List Value} {σ : nv_St} : np_X 43 36 [l0, l1, l2, l3, some .null, l5] st σ = np_X 43 38 [l0, l1, l2, l3, some .null, l5] (.null :: st) σ := np_op k43 rfl rfl
theorem e43_38 {ls : nv_Ls} {st : List Value} {σ : nv_St} {a : Nat}  (h : st.length ≤ 4) (h0 : nv_isO σ 4 a = true) : np_X 43 38 ls (.ref a :: st) σ = np_aft 43 38 41 ls st (np_X 62 0 [some (.ref a)] [] σ) := np_call k43 rfl (Nat.le_add_left 1 _) rfl rfl h rfl h0 rfl
theorem e43_41 {ls : nv_Ls} {st : List Value} {σ : nv_St} {x : Int32} : np_X 43 41 ls (.int x :: st) σ = if x = 0 then np_X 43 64 ls st σ else np_X 43 44 ls st σ := np_br inferInstance k43 rfl rfl
theorem e43_44 (x : Nat) {l0 l1 l2 l3 l4 : Option Value} {st : List Value} {σ : nv_St} : np_X 43 44 [l0, l1, l2, l3, l4, some (.ref x)] st σ = np_X 43 46 [l0, l1, l2, l3, l4, some (.ref x)] (.ref x :: st) σ := np_op k43 rfl rfl
theorem e43_44u  {l0 l1 l2 l3 l4 : Option Value} {st : List Value} {σ : nv_St} : np_X 43 44 [l0, l1, l2, l3, l4, some .null] st σ = np_X 43 46 [l0, l1, l2, l3, l4, some .null] (.null :: st) σ := np_op k43 rfl rfl
theorem e43_46 {ls : nv_Ls} {st : List Value} {σ : nv_St} {a : Nat} (h : a < 1000000) : np_X 43 46 ls (.ref a :: st) σ = np_X 43 49 ls st σ := np_ifnull k43 rfl h
theorem e43_46u {ls : nv_Ls} {st : List Value} {σ : nv_St} : np_X 43 46 ls (.null :: st) σ = np_X 43 64 ls st σ := np_op k43 rfl rfl
theorem e43_49 (x : Nat) {l0 l1 l2 l3 l4 : Option Value} {st : List Value} {σ : nv_St} : np_X 43 49 [l0, l1, l2, l3, l4, some (.ref x)] st σ = np_X 43 51 [l0, l1, l2, l3, l4, some (.ref x)] (.ref x :: st) σ := np_op k43 rfl rfl
theorem e43_49u  {l0 l1 l2 l3 l4 : Option Value} {st : List Value} {σ : nv_St} : np_X 43 49 [l0, l1, l2, l3, l4, some .null] st σ = np_X 43 51 [l0, l1, l2, l3, l4, some .null] (.null :: st) σ := np_op k43 rfl rfl
theorem e43_51 {ls : nv_Ls} {st : List Value} {σ : nv_St} {a : Nat} : np_X 43 51 ls (.ref a :: st) σ = np_b (nv_fld σ 4 0 a) (fun v => np_X 43 54 ls (v :: st) σ) := np_get k43 rfl
theorem e43_54 (x : Nat) {l0 l1 l2 l3 l5 : Option Value} {st : List Value} {σ : nv_St} : np_X 43 54 [l0, l1, l2, l3, some (.ref x), l5] st σ = np_X 43 56 [l0, l1, l2, l3, some (.ref x), l5] (.ref x :: st) σ := np_op k43 rfl rfl
theorem e43_54u  {l0 l1 l2 l3 l5 : Option Value} {st : List Value} {σ : nv_St} : np_X 43 54 [l0, l1, l2, l3, some .null, l5] st σ = np_X 43 56 [l0, l1, l2, l3, some .null, l5] (.null :: st) σ := np_op k43 rfl rfl
theorem e43_56 {ls : nv_Ls} {st : List Value} {σ : nv_St} {a : Nat} : np_X 43 56 ls (.ref a :: st) σ = np_b (nv_fld σ 4 0 a) (fun v => np_X 43 59 ls (v :: st) σ) := np_get k43 rfl
theorem e43_59 {ls : nv_Ls} {st : List Value} {σ : nv_St} {x y : Int32} : np_X 43 59 ls (.int y :: .int x :: st) σ = if x = y then np_X 43 64 ls st σ else np_X 43 62 ls st σ := np_br inferInstance k43 rfl rfl
theorem e43_62 {ls : nv_Ls} {st : List Value} {σ : nv_St} : np_X 43 62 ls st σ = np_X 43 63 ls (.int (0) :: st) σ := np_op k43 rfl rfl
theorem e43_63 {ls : nv_Ls} {σ : nv_St} {x : Int32} (h : narrow .boolean (.int x) = .int x) : np_X 43 63 ls [.int x] σ = some (.inl (some (.int x)), σ) := np_reti k43 rfl h
theorem e43_64n (x : Int32) {l0 l1 l4 l5 : Option Value} {st : List Value} {σ : nv_St} : np_X 43 64 [l0, l1, none, some (.int x), l4, l5] st σ = np_X 43 67 [l0, l1, none, some (.int (x + (1))), l4, l5] st σ := np_op k43 rfl rfl
theorem e43_64i (x : Int32) {z : Int32} {l0 l1 l4 l5 : Option Value} {st : List Value} {σ : nv_St} : np_X 43 64 [l0, l1, some (.int z), some (.int x), l4, l5] st σ = np_X 43 67 [l0, l1, some (.int z), some (.int (x + (1))), l4, l5] st σ := np_op k43 rfl rfl
theorem e43_64r (x : Int32) {z : Nat} {l0 l1 l4 l5 : Option Value} {st : List Value} {σ : nv_St} : np_X 43 64 [l0, l1, some (.ref z), some (.int x), l4, l5] st σ = np_X 43 67 [l0, l1, some (.ref z), some (.int (x + (1))), l4, l5] st σ := np_op k43 rfl rfl
theorem e43_64v (x : Int32) {l0 l1 l4 l5 : Option Value} {st : List Value} {σ : nv_St} : np_X 43 64 [l0, l1, some .null, some (.int x), l4, l5] st σ = np_X 43 67 [l0, l1, some .null, some (.int (x + (1))), l4, l5] st σ := np_op k43 rfl rfl
theorem e43_67 {ls : nv_Ls} {st : List Value} {σ : nv_St} : np_X 43 67 ls st σ = np_X 43 10 ls st σ := np_op k43 rfl rfl
theorem e43_70 {ls : nv_Ls} {st : List Value} {σ : nv_St} : np_X 43 70 ls st σ = np_X 43 71 ls (.int (1) :: st) σ := np_op k43 rfl rfl
theorem e43_71 {ls : nv_Ls} {σ : nv_St} {x : Int32} (h : narrow .boolean (.int x) = .int x) : np_X 43 71 ls [.int x] σ = some (.inl (some (.int x)), σ) := np_reti k43 rfl h
-- 44 SpoonNavy$Game.place
theorem k44 : np_P.1 44 = np_c44 := rfl
theorem e44_0 (x : Int32) {l0 l2 l3 l4 l5 l6 l7 : Option Value} {st : List Value} {σ : nv_St} : np_X 44 0 [l0, some (.int x), l2, l3, l4, l5, l6, l7] st σ = np_X 44 1 [l0, some (.int x), l2, l3, l4, l5, l6, l7] (.int x :: st) σ := np_op k44 rfl rfl
theorem e44_1 {ls : nv_Ls} {st : List Value} {σ : nv_St}  {x0 : Int32} (h : st.length ≤ 4) : np_X 44 1 ls (.int x0 :: st) σ = np_aft 44 1 4 ls st (np_X 132 0 [some (.int x0)] [] σ) := np_call k44 rfl (Nat.le_add_left 1 _) rfl rfl h rfl rfl rfl
theorem e44_4 {ls : nv_Ls} {st : List Value} {σ : nv_St} {x : Int32} : np_X 44 4 ls (.int x :: st) σ = if x = 0 then np_X 44 7 ls st σ else np_X 44 9 ls st σ := np_br inferInstance k44 rfl rfl
theorem e44_7 {ls : nv_Ls} {st : List Value} {σ : nv_St} : np_X 44 7 ls st σ = np_X 44 8 ls (.int (-1) :: st) σ := np_op k44 rfl rfl
theorem e44_8 {ls : nv_Ls} {σ : nv_St} {x : Int32} : np_X 44 8 ls [.int x] σ = some (.inl (some (.int x)), σ) := np_reti k44 rfl rfl
theorem e44_9 (x : Int32) {l0 l1 l3 l4 l5 l6 l7 : Option Value} {st : List Value} {σ : nv_St} : np_X 44 9 [l0, l1, some (.int x), l3, l4, l5, l6, l7] st σ = np_X 44 10 [l0, l1, some (.int x), l3, l4, l5, l6, l7] (.int x :: st) σ := np_op k44 rfl rfl
theorem e44_10 (x : Int32) {l0 l1 l2 l4 l5 l6 l7 : Option Value} {st : List Value} {σ : nv_St} : np_X 44 10 [l0, l1, l2, some (.int x), l4, l5, l6, l7] st σ = np_X 44 11 [l0, l1, l2, some (.int x), l4, l5, l6, l7] (.int x :: st) σ := np_op k44 rfl rfl
theorem e44_11 {ls : nv_Ls} {st : List Value} {σ : nv_St}  {x0 : Int32} {x1 : Int32} (h : st.length ≤ 4) : np_X 44 11 ls (.int x1 :: .int x0 :: st) σ = np_aft 44 11 14 ls st (np_X 133 0 [some (.int x0), some (.int x1)] [] σ) := np_call k44 rfl (Nat.le_add_left 2 _) rfl rfl h rfl rfl rfl
theorem e44_14 {ls : nv_Ls} {st : List Value} {σ : nv_St} {x : Int32} : np_X 44 14 ls (.int x :: st) σ = if x = 0 then np_X 44 33 ls st σ else np_X 44 17 ls st σ := np_br inferInstance k44 rfl rfl
theorem e44_17 (x : Int32) {l0 l1 l2 l3 l5 l6 l7 : Option Value} {st : List Value} {σ : nv_St} : np_X 44 17 [l0, l1, l2, l3, some (.int x), l5, l6, l7] st σ = np_X 44 19 [l0, l1, l2, l3, some (.int x), l5, l6, l7] (.int x :: st) σ := np_op k44 rfl rfl
theorem e44_19 {ls : nv_Ls} {st : List Value} {σ : nv_St}  {x0 : Int32} (h : st.length ≤ 4) : np_X 44 19 ls (.int x0 :: st) σ = np_aft 44 19 22 ls st (np_X 134 0 [some (.int x0)] [] σ) := np_call k44 rfl (Nat.le_add_left 1 _) rfl rfl h rfl rfl rfl
theorem e44_22 {ls : nv_Ls} {st : List Value} {σ : nv_St} {x : Int32} : np_X 44 22 ls (.int x :: st) σ = if x = 0 then np_X 44 33 ls st σ else np_X 44 25 ls st σ := np_br inferInstance k44 rfl rfl
theorem e44_25 (x : Int32) {l0 l1 l2 l3 l4 l6 l7 : Option Value} {st : List Value} {σ : nv_St} : np_X 44 25 [l0, l1, l2, l3, l4, some (.int x), l6, l7] st σ = np_X 44 27 [l0, l1, l2, l3, l4, some (.int x), l6, l7] (.int x :: st) σ := np_op k44 rfl rfl
theorem e44_27 {ls : nv_Ls} {st : List Value} {σ : nv_St}  {x0 : Int32} (h : st.length ≤ 4) : np_X 44 27 ls (.int x0 :: st) σ = np_aft 44 27 30 ls st (np_X 135 0 [some (.int x0)] [] σ) := np_call k44 rfl (Nat.le_add_left 1 _) rfl rfl h rfl rfl rfl
theorem e44_30 {ls : nv_Ls} {st : List Value} {σ : nv_St} {x : Int32} : np_X 44 30 ls (.int x :: st) σ = if x = 0 then np_X 44 33 ls st σ else np_X 44 36 ls st σ := np_br inferInstance k44 rfl rfl
theorem e44_33 {ls : nv_Ls} {st : List Value} {σ : nv_St} : np_X 44 33 ls st σ = np_X 44 35 ls (.int (-2) :: st) σ := np_op k44 rfl rfl
theorem e44_35 {ls : nv_Ls} {σ : nv_St} {x : Int32} : np_X 44 35 ls [.int x] σ = some (.inl (some (.int x)), σ) := np_reti k44 rfl rfl
theorem e44_36 (x : Nat) {l1 l2 l3 l4 l5 l6 l7 : Option Value} {st : List Value} {σ : nv_St} : np_X 44 36 [some (.ref x), l1, l2, l3, l4, l5, l6, l7] st σ = np_X 44 37 [some (.ref x), l1, l2, l3, l4, l5, l6, l7] (.ref x :: st) σ := np_op k44 rfl rfl
theorem e44_36u  {l1 l2 l3 l4 l5 l6 l7 : Option Value} {st : List Value} {σ : nv_St} : np_X 44 36 [some .null, l1, l2, l3, l4, l5, l6, l7] st σ = np_X 44 37 [some .null, l1, l2, l3, l4, l5, l6, l7] (.null :: st) σ := np_op k44 rfl rfl
theorem e44_37 (x : Int32) {l0 l2 l3 l4 l5 l6 l7 : Option Value} {st : List Value} {σ : nv_St} : np_X 44 37 [l0, some (.int x), l2, l3, l4, l5, l6, l7] st σ = np_X 44 38 [l0, some (.int x), l2, l3, l4, l5, l6, l7] (.int x :: st) σ := np_op k44 rfl rfl
theorem e44_38 {ls : nv_Ls} {st : List Value} {σ : nv_St} {a : Nat} {x0 : Int32} (h : st.length ≤ 4) (h0 : nv_isO σ 2 a = true) : np_X 44 38 ls (.int x0 :: .ref a :: st) σ = np_aft 44 38 41 ls st (np_X 29 0 [some (.ref a), some (.int x0)] [] σ) := np_call k44 rfl (Nat.le_add_left 2 _) rfl rfl h rfl h0 rfl
theorem e44_41n (x : Nat) {l0 l1 l2 l3 l4 l6 l7 : Option Value} {st : List Value} {σ : nv_St} : np_X 44 41 [l0, l1, l2, l3, l4, none, l6, l7] (.ref x :: st) σ = np_X 44 43 [l0, l1, l2, l3, l4, none, some (.ref x), l7] st σ := np_op k44 rfl rfl
theorem e44_41i (x : Nat) {z : Int32} {l0 l1 l2 l3 l4 l6 l7 : Option Value} {st : List Value} {σ : nv_St} : np_X 44 41 [l0, l1, l2, l3, l4, some (.int z), l6, l7] (.ref x :: st) σ = np_X 44 43 [l0, l1, l2, l3, l4, some (.int z), some (.ref x), l7] st σ := np_op k44 rfl rfl
theorem e44_41r (x : Nat) {z : Nat} {l0 l1 l2 l3 l4 l6 l7 : Option Value} {st : List Value} {σ : nv_St} : np_X 44 41 [l0, l1, l2, l3, l4, some (.ref z), l6, l7] (.ref x :: st) σ = np_X 44 43 [l0, l1, l2, l3, l4, some (.ref z), some (.ref x), l7] st σ := np_op k44 rfl rfl
theorem e44_41v (x : Nat) {l0 l1 l2 l3 l4 l6 l7 : Option Value} {st : List Value} {σ : nv_St} : np_X 44 41 [l0, l1, l2, l3, l4, some .null, l6, l7] (.ref x :: st) σ = np_X 44 43 [l0, l1, l2, l3, l4, some .null, some (.ref x), l7] st σ := np_op k44 rfl rfl
theorem e44_41un  {l0 l1 l2 l3 l4 l6 l7 : Option Value} {st : List Value} {σ : nv_St} : np_X 44 41 [l0, l1, l2, l3, l4, none, l6, l7] (.null :: st) σ = np_X 44 43 [l0, l1, l2, l3, l4, none, some .null, l7] st σ := np_op k44 rfl rfl
theorem e44_41ui  {z : Int32} {l0 l1 l2 l3 l4 l6 l7 : Option Value} {st : List Value} {σ : nv_St} : np_X 44 41 [l0, l1, l2, l3, l4, some (.int z), l6, l7] (.null :: st) σ = np_X 44 43 [l0, l1, l2, l3, l4, some (.int z), some .null, l7] st σ := np_op k44 rfl rfl
theorem e44_41ur  {z : Nat} {l0 l1 l2 l3 l4 l6 l7 : Option Value} {st : List Value} {σ : nv_St} : np_X 44 41 [l0, l1, l2, l3, l4, some (.ref z), l6, l7] (.null :: st) σ = np_X 44 43 [l0, l1, l2, l3, l4, some (.ref z), some .null, l7] st σ := np_op k44 rfl rfl
theorem e44_41uv  {l0 l1 l2 l3 l4 l6 l7 : Option Value} {st : List Value} {σ : nv_St} : np_X 44 41 [l0, l1, l2, l3, l4, some .null, l6, l7] (.null :: st) σ = np_X 44 43 [l0, l1, l2, l3, l4, some .null, some .null, l7] st σ := np_op k44 rfl rfl
theorem e44_43 (x : Nat) {l1 l2 l3 l4 l5 l6 l7 : Option Value} {st : List Value} {σ : nv_St} : np_X 44 43 [some (.ref x), l1, l2, l3, l4, l5, l6, l7] st σ = np_X 44 44 [some (.ref x), l1, l2, l3, l4, l5, l6, l7] (.ref x :: st) σ := np_op k44 rfl rfl
theorem e44_43u  {l1 l2 l3 l4 l5 l6 l7 : Option Value} {st : List Value} {σ : nv_St} : np_X 44 43 [some .null, l1, l2, l3, l4, l5, l6, l7] st σ = np_X 44 44 [some .null, l1, l2, l3, l4, l5, l6, l7] (.null :: st) σ := np_op k44 rfl rfl
theorem e44_44 {ls : nv_Ls} {st : List Value} {σ : nv_St} {a : Nat} : np_X 44 44 ls (.ref a :: st) σ = np_b (nv_fld σ 2 4 a) (fun v => np_X 44 47 ls (v :: st) σ) := np_get k44 rfl
theorem e44_47 {ls : nv_Ls} {st : List Value} {σ : nv_St} {x : Int32} : np_X 44 47 ls (.int x :: st) σ = if x = 0 then np_X 44 50 ls st σ else np_X 44 72 ls st σ := np_br inferInstance k44 rfl rfl
theorem e44_50 (x : Nat) {l0 l1 l2 l3 l4 l5 l7 : Option Value} {st : List Value} {σ : nv_St} : np_X 44 50 [l0, l1, l2, l3, l4, l5, some (.ref x), l7] st σ = np_X 44 52 [l0, l1, l2, l3, l4, l5, some (.ref x), l7] (.ref x :: st) σ := np_op k44 rfl rfl
theorem e44_50u  {l0 l1 l2 l3 l4 l5 l7 : Option Value} {st : List Value} {σ : nv_St} : np_X 44 50 [l0, l1, l2, l3, l4, l5, some .null, l7] st σ = np_X 44 52 [l0, l1, l2, l3, l4, l5, some .null, l7] (.null :: st) σ := np_op k44 rfl rfl
theorem e44_52 {ls : nv_Ls} {st : List Value} {σ : nv_St} {a : Nat} : np_X 44 52 ls (.ref a :: st) σ = np_b (nv_fld σ 0 0 a) (fun v => np_X 44 55 ls (v :: st) σ) := np_get k44 rfl
theorem e44_55 {ls : nv_Ls} {st : List Value} {σ : nv_St} : np_X 44 55 ls st σ = np_X 44 57 ls (.int (6) :: st) σ := np_op k44 rfl rfl
theorem e44_57 {ls : nv_Ls} {st : List Value} {σ : nv_St} {x y : Int32} : np_X 44 57 ls (.int y :: .int x :: st) σ = if x < y then np_X 44 60 ls st σ else np_X 44 72 ls st σ := np_br inferInstance k44 rfl rfl
theorem e44_60 (x : Nat) {l1 l2 l3 l4 l5 l6 l7 : Option Value} {st : List Value} {σ : nv_St} : np_X 44 60 [some (.ref x), l1, l2, l3, l4, l5, l6, l7] st σ = np_X 44 61 [some (.ref x), l1, l2, l3, l4, l5, l6, l7] (.ref x :: st) σ := np_op k44 rfl rfl
theorem e44_60u  {l1 l2 l3 l4 l5 l6 l7 : Option Value} {st : List Value} {σ : nv_St} : np_X 44 60 [some .null, l1, l2, l3, l4, l5, l6, l7] st σ = np_X 44 61 [some .null, l1, l2, l3, l4, l5, l6, l7] (.null :: st) σ := np_op k44 rfl rfl
theorem e44_61 {ls : nv_Ls} {st : List Value} {σ : nv_St} {a : Nat} : np_X 44 61 ls (.ref a :: st) σ = np_b (nv_fld σ 2 3 a) (fun v => np_X 44 64 ls (v :: st) σ) := np_get k44 rfl
theorem e44_64 (x : Nat) {l1 l2 l3 l4 l5 l6 l7 : Option Value} {st : List Value} {σ : nv_St} : np_X 44 64 [some (.ref x), l1, l2, l3, l4, l5, l6, l7] st σ = np_X 44 65 [some (.ref x), l1, l2, l3, l4, l5, l6, l7] (.ref x :: st) σ := np_op k44 rfl rfl
theorem e44_64u  {l1 l2 l3 l4 l5 l6 l7 : Option Value} {st : List Value} {σ : nv_St} : np_X 44 64 [some .null, l1, l2, l3, l4, l5, l6, l7] st σ = np_X 44 65 [some .null, l1, l2, l3, l4, l5, l6, l7] (.null :: st) σ := np_op k44 rfl rfl
theorem e44_65 {ls : nv_Ls} {st : List Value} {σ : nv_St} {a : Nat} : np_X 44 65 ls (.ref a :: st) σ = np_b (nv_fld σ 2 0 a) (fun v => np_X 44 68 ls (v :: st) σ) := np_get k44 rfl
theorem e44_68 {ls : nv_Ls} {st : List Value} {σ : nv_St} {a : Nat} : np_X 44 68 ls (.ref a :: st) σ = np_b (nv_len σ 2 a) (fun m => np_X 44 69 ls (.int (Int32.ofNat m) :: st) σ) := np_alen k44 rfl
theorem e44_69 {ls : nv_Ls} {st : List Value} {σ : nv_St} {x y : Int32} : np_X 44 69 ls (.int y :: .int x :: st) σ = if x < y then np_X 44 75 ls st σ else np_X 44 72 ls st σ := np_br inferInstance k44 rfl rfl
theorem e44_72 {ls : nv_Ls} {st : List Value} {σ : nv_St} : np_X 44 72 ls st σ = np_X 44 74 ls (.int (-3) :: st) σ := np_op k44 rfl rfl
theorem e44_74 {ls : nv_Ls} {σ : nv_St} {x : Int32} : np_X 44 74 ls [.int x] σ = some (.inl (some (.int x)), σ) := np_reti k44 rfl rfl
theorem e44_75 (x : Nat) {l1 l2 l3 l4 l5 l6 l7 : Option Value} {st : List Value} {σ : nv_St} : np_X 44 75 [some (.ref x), l1, l2, l3, l4, l5, l6, l7] st σ = np_X 44 76 [some (.ref x), l1, l2, l3, l4, l5, l6, l7] (.ref x :: st) σ := np_op k44 rfl rfl
theorem e44_75u  {l1 l2 l3 l4 l5 l6 l7 : Option Value} {st : List Value} {σ : nv_St} : np_X 44 75 [some .null, l1, l2, l3, l4, l5, l6, l7] st σ = np_X 44 76 [some .null, l1, l2, l3, l4, l5, l6, l7] (.null :: st) σ := np_op k44 rfl rfl
theorem e44_76 (x : Int32) {l0 l1 l3 l4 l5 l6 l7 : Option Value} {st : List Value} {σ : nv_St} : np_X 44 76 [l0, l1, some (.int x), l3, l4, l5, l6, l7] st σ = np_X 44 77 [l0, l1, some (.int x), l3, l4, l5, l6, l7] (.int x :: st) σ := np_op k44 rfl rfl
theorem e44_77 (x : Int32) {l0 l1 l2 l4 l5 l6 l7 : Option Value} {st : List Value} {σ : nv_St} : np_X 44 77 [l0, l1, l2, some (.int x), l4, l5, l6, l7] st σ = np_X 44 78 [l0, l1, l2, some (.int x), l4, l5, l6, l7] (.int x :: st) σ := np_op k44 rfl rfl
theorem e44_78 {ls : nv_Ls} {st : List Value} {σ : nv_St} {a : Nat} {x0 : Int32} {x1 : Int32} (h : st.length ≤ 4) (h0 : nv_isO σ 2 a = true) : np_X 44 78 ls (.int x1 :: .int x0 :: .ref a :: st) σ = np_aft 44 78 81 ls st (np_X 32 0 [some (.ref a), some (.int x0), some (.int x1), none, none, none, none] [] σ) := np_call k44 rfl (Nat.le_add_left 3 _) rfl rfl h rfl h0 rfl
theorem e44_81 {ls : nv_Ls} {st : List Value} {σ : nv_St} {a : Nat} (h : a < 1000000) : np_X 44 81 ls (.ref a :: st) σ = np_X 44 84 ls st σ := np_ifnull k44 rfl h
theorem e44_81u {ls : nv_Ls} {st : List Value} {σ : nv_St} : np_X 44 81 ls (.null :: st) σ = np_X 44 87 ls st σ := np_op k44 rfl rfl
theorem e44_84 {ls : nv_Ls} {st : List Value} {σ : nv_St} : np_X 44 84 ls st σ = np_X 44 86 ls (.int (-4) :: st) σ := np_op k44 rfl rfl
theorem e44_86 {ls : nv_Ls} {σ : nv_St} {x : Int32} : np_X 44 86 ls [.int x] σ = some (.inl (some (.int x)), σ) := np_reti k44 rfl rfl
theorem e44_87 (x : Nat) {l1 l2 l3 l4 l5 l6 l7 : Option Value} {st : List Value} {σ : nv_St} : np_X 44 87 [some (.ref x), l1, l2, l3, l4, l5, l6, l7] st σ = np_X 44 88 [some (.ref x), l1, l2, l3, l4, l5, l6, l7] (.ref x :: st) σ := np_op k44 rfl rfl
theorem e44_87u  {l1 l2 l3 l4 l5 l6 l7 : Option Value} {st : List Value} {σ : nv_St} : np_X 44 87 [some .null, l1, l2, l3, l4, l5, l6, l7] st σ = np_X 44 88 [some .null, l1, l2, l3, l4, l5, l6, l7] (.null :: st) σ := np_op k44 rfl rfl
theorem e44_88 {ls : nv_Ls} {st : List Value} {σ : nv_St} {a : Nat} : np_X 44 88 ls (.ref a :: st) σ = np_b (nv_fld σ 2 0 a) (fun v => np_X 44 91 ls (v :: st) σ) := np_get k44 rfl
theorem e44_91 (x : Nat) {l1 l2 l3 l4 l5 l6 l7 : Option Value} {st : List Value} {σ : nv_St} : np_X 44 91 [some (.ref x), l1, l2, l3, l4, l5, l6, l7] st σ = np_X 44 92 [some (.ref x), l1, l2, l3, l4, l5, l6, l7] (.ref x :: st) σ := np_op k44 rfl rfl
theorem e44_91u  {l1 l2 l3 l4 l5 l6 l7 : Option Value} {st : List Value} {σ : nv_St} : np_X 44 91 [some .null, l1, l2, l3, l4, l5, l6, l7] st σ = np_X 44 92 [some .null, l1, l2, l3, l4, l5, l6, l7] (.null :: st) σ := np_op k44 rfl rfl
theorem e44_92 {ls : nv_Ls} {st : List Value} {σ : nv_St} {a : Nat} : np_X 44 92 ls (.ref a :: st) σ = np_b (nv_fld σ 2 3 a) (fun v => np_X 44 95 ls (v :: st) σ) := np_get k44 rfl
theorem e44_95 {ls : nv_Ls} {st : List Value} {σ : nv_St} {a : Nat} {x : Int32} : np_X 44 95 ls (.int x :: .ref a :: st) σ = np_b (nv_rdq σ 2 a x) (fun v => np_X 44 96 ls (v :: st) σ) := np_aldq k44 rfl
theorem e44_96n (x : Nat) {l0 l1 l2 l3 l4 l5 l7 : Option Value} {st : List Value} {σ : nv_St} : np_X 44 96 [l0, l1, l2, l3, l4, l5, none, l7] (.ref x :: st) σ = np_X 44 98 [l0, l1, l2, l3, l4, l5, none, some (.ref x)] st σ := np_op k44 rfl rfl
theorem e44_96i (x : Nat) {z : Int32} {l0 l1 l2 l3 l4 l5 l7 : Option Value} {st : List Value} {σ : nv_St} : np_X 44 96 [l0, l1, l2, l3, l4, l5, some (.int z), l7] (.ref x :: st) σ = np_X 44 98 [l0, l1, l2, l3, l4, l5, some (.int z), some (.ref x)] st σ := np_op k44 rfl rfl
theorem e44_96r (x : Nat) {z : Nat} {l0 l1 l2 l3 l4 l5 l7 : Option Value} {st : List Value} {σ : nv_St} : np_X 44 96 [l0, l1, l2, l3, l4, l5, some (.ref z), l7] (.ref x :: st) σ = np_X 44 98 [l0, l1, l2, l3, l4, l5, some (.ref z), some (.ref x)] st σ := np_op k44 rfl rfl
theorem e44_96v (x : Nat) {l0 l1 l2 l3 l4 l5 l7 : Option Value} {st : List Value} {σ : nv_St} : np_X 44 96 [l0, l1, l2, l3, l4, l5, some .null, l7] (.ref x :: st) σ = np_X 44 98 [l0, l1, l2, l3, l4, l5, some .null, some (.ref x)] st σ := np_op k44 rfl rfl
theorem e44_96un  {l0 l1 l2 l3 l4 l5 l7 : Option Value} {st : List Value} {σ : nv_St} : np_X 44 96 [l0, l1, l2, l3, l4, l5, none, l7] (.null :: st) σ = np_X 44 98 [l0, l1, l2, l3, l4, l5, none, some .null] st σ := np_op k44 rfl rfl
theorem e44_96ui  {z : Int32} {l0 l1 l2 l3 l4 l5 l7 : Option Value} {st : List Value} {σ : nv_St} : np_X 44 96 [l0, l1, l2, l3, l4, l5, some (.int z), l7] (.null :: st) σ = np_X 44 98 [l0, l1, l2, l3, l4, l5, some (.int z), some .null] st σ := np_op k44 rfl rfl
theorem e44_96ur  {z : Nat} {l0 l1 l2 l3 l4 l5 l7 : Option Value} {st : List Value} {σ : nv_St} : np_X 44 96 [l0, l1, l2, l3, l4, l5, some (.ref z), l7] (.null :: st) σ = np_X 44 98 [l0, l1, l2, l3, l4, l5, some (.ref z), some .null] st σ := np_op k44 rfl rfl
theorem e44_96uv  {l0 l1 l2 l3 l4 l5 l7 : Option Value} {st : List Value} {σ : nv_St} : np_X 44 96 [l0, l1, l2, l3, l4, l5, some .null, l7] (.null :: st) σ = np_X 44 98 [l0, l1, l2, l3, l4, l5, some .null, some .null] st σ := np_op k44 rfl rfl
theorem e44_98 (x : Nat) {l0 l1 l2 l3 l4 l5 l6 : Option Value} {st : List Value} {σ : nv_St} : np_X 44 98 [l0, l1, l2, l3, l4, l5, l6, some (.ref x)] st σ = np_X 44 100 [l0, l1, l2, l3, l4, l5, l6, some (.ref x)] (.ref x :: st) σ := np_op k44 rfl rfl
theorem e44_98u  {l0 l1 l2 l3 l4 l5 l6 : Option Value} {st : List Value} {σ : nv_St} : np_X 44 98 [l0, l1, l2, l3, l4, l5, l6, some .null] st σ = np_X 44 100 [l0, l1, l2, l3, l4, l5, l6, some .null] (.null :: st) σ := np_op k44 rfl rfl
theorem e44_100 (x : Int32) {l0 l2 l3 l4 l5 l6 l7 : Option Value} {st : List Value} {σ : nv_St} : np_X 44 100 [l0, some (.int x), l2, l3, l4, l5, l6, l7] st σ = np_X 44 101 [l0, some (.int x), l2, l3, l4, l5, l6, l7] (.int x :: st) σ := np_op k44 rfl rfl
theorem e44_101 {ls : nv_Ls} {st : List Value} {σ : nv_St} {a : Nat} {v : Value} : np_X 44 101 ls (v :: .ref a :: st) σ = np_b (nv_sto σ 4 1 .int a v) (fun σ' => np_X 44 104 ls st σ') := np_put k44 rfl
theorem e44_104 (x : Nat) {l0 l1 l2 l3 l4 l5 l6 : Option Value} {st : List Value} {σ : nv_St} : np_X 44 104 [l0, l1, l2, l3, l4, l5, l6, some (.ref x)] st σ = np_X 44 106 [l0, l1, l2, l3, l4, l5, l6, some (.ref x)] (.ref x :: st) σ := np_op k44 rfl rfl
theorem e44_104u  {l0 l1 l2 l3 l4 l5 l6 : Option Value} {st : List Value} {σ : nv_St} : np_X 44 104 [l0, l1, l2, l3, l4, l5, l6, some .null] st σ = np_X 44 106 [l0, l1, l2, l3, l4, l5, l6, some .null] (.null :: st) σ := np_op k44 rfl rfl
theorem e44_106 (x : Int32) {l0 l1 l3 l4 l5 l6 l7 : Option Value} {st : List Value} {σ : nv_St} : np_X 44 106 [l0, l1, some (.int x), l3, l4, l5, l6, l7] st σ = np_X 44 107 [l0, l1, some (.int x), l3, l4, l5, l6, l7] (.int x :: st) σ := np_op k44 rfl rfl
theorem e44_107 {ls : nv_Ls} {st : List Value} {σ : nv_St} {a : Nat} {v : Value} : np_X 44 107 ls (v :: .ref a :: st) σ = np_b (nv_sto σ 4 2 .int a v) (fun σ' => np_X 44 110 ls st σ') := np_put k44 rfl
theorem e44_110 (x : Nat) {l0 l1 l2 l3 l4 l5 l6 : Option Value} {st : List Value} {σ : nv_St} : np_X 44 110 [l0, l1, l2, l3, l4, l5, l6, some (.ref x)] st σ = np_X 44 112 [l0, l1, l2, l3, l4, l5, l6, some (.ref x)] (.ref x :: st) σ := np_op k44 rfl rfl
theorem e44_110u  {l0 l1 l2 l3 l4 l5 l6 : Option Value} {st : List Value} {σ : nv_St} : np_X 44 110 [l0, l1, l2, l3, l4, l5, l6, some .null] st σ = np_X 44 112 [l0, l1, l2, l3, l4, l5, l6, some .null] (.null :: st) σ := np_op k44 rfl rfl
theorem e44_112 (x : Int32) {l0 l1 l2 l4 l5 l6 l7 : Option Value} {st : List Value} {σ : nv_St} : np_X 44 112 [l0, l1, l2, some (.int x), l4, l5, l6, l7] st σ = np_X 44 113 [l0, l1, l2, some (.int x), l4, l5, l6, l7] (.int x :: st) σ := np_op k44 rfl rfl
theorem e44_113 {ls : nv_Ls} {st : List Value} {σ : nv_St} {a : Nat} {v : Value} : np_X 44 113 ls (v :: .ref a :: st) σ = np_b (nv_sto σ 4 3 .int a v) (fun σ' => np_X 44 116 ls st σ') := np_put k44 rfl
theorem e44_116 (x : Nat) {l0 l1 l2 l3 l4 l5 l6 : Option Value} {st : List Value} {σ : nv_St} : np_X 44 116 [l0, l1, l2, l3, l4, l5, l6, some (.ref x)] st σ = np_X 44 118 [l0, l1, l2, l3, l4, l5, l6, some (.ref x)] (.ref x :: st) σ := np_op k44 rfl rfl
theorem e44_116u  {l0 l1 l2 l3 l4 l5 l6 : Option Value} {st : List Value} {σ : nv_St} : np_X 44 116 [l0, l1, l2, l3, l4, l5, l6, some .null] st σ = np_X 44 118 [l0, l1, l2, l3, l4, l5, l6, some .null] (.null :: st) σ := np_op k44 rfl rfl
theorem e44_118 (x : Int32) {l0 l1 l2 l3 l5 l6 l7 : Option Value} {st : List Value} {σ : nv_St} : np_X 44 118 [l0, l1, l2, l3, some (.int x), l5, l6, l7] st σ = np_X 44 120 [l0, l1, l2, l3, some (.int x), l5, l6, l7] (.int x :: st) σ := np_op k44 rfl rfl
theorem e44_120 {ls : nv_Ls} {st : List Value} {σ : nv_St} {a : Nat} {v : Value} : np_X 44 120 ls (v :: .ref a :: st) σ = np_b (nv_sto σ 4 4 .int a v) (fun σ' => np_X 44 123 ls st σ') := np_put k44 rfl
theorem e44_123 (x : Nat) {l0 l1 l2 l3 l4 l5 l6 : Option Value} {st : List Value} {σ : nv_St} : np_X 44 123 [l0, l1, l2, l3, l4, l5, l6, some (.ref x)] st σ = np_X 44 125 [l0, l1, l2, l3, l4, l5, l6, some (.ref x)] (.ref x :: st) σ := np_op k44 rfl rfl
theorem e44_123u  {l0 l1 l2 l3 l4 l5 l6 : Option Value} {st : List Value} {σ : nv_St} : np_X 44 123 [l0, l1, l2, l3, l4, l5, l6, some .null] st σ = np_X 44 125 [l0, l1, l2, l3, l4, l5, l6, some .null] (.null :: st) σ := np_op k44 rfl rfl
theorem e44_125 {ls : nv_Ls} {st : List Value} {σ : nv_St} : np_X 44 125 ls st σ = np_X 44 126 ls (.int (2) :: st) σ := np_op k44 rfl rfl
theorem e44_126 {ls : nv_Ls} {st : List Value} {σ : nv_St} {a : Nat} {v : Value} : np_X 44 126 ls (v :: .ref a :: st) σ = np_b (nv_sto σ 4 5 .int a v) (fun σ' => np_X 44 129 ls st σ') := np_put k44 rfl
theorem e44_129 (x : Nat) {l0 l1 l2 l3 l4 l5 l6 : Option Value} {st : List Value} {σ : nv_St} : np_X 44 129 [l0, l1, l2, l3, l4, l5, l6, some (.ref x)] st σ = np_X 44 131 [l0, l1, l2, l3, l4, l5, l6, some (.ref x)] (.ref x :: st) σ := np_op k44 rfl rfl
theorem e44_129u  {l0 l1 l2 l3 l4 l5 l6 : Option Value} {st : List Value} {σ : nv_St} : np_X 44 129 [l0, l1, l2, l3, l4, l5, l6, some .null] st σ = np_X 44 131 [l0, l1, l2, l3, l4, l5, l6, some .null] (.null :: st) σ := np_op k44 rfl rfl
theorem e44_131 (x : Int32) {l0 l1 l2 l3 l4 l6 l7 : Option Value} {st : List Value} {σ : nv_St} : np_X 44 131 [l0, l1, l2, l3, l4, some (.int x), l6, l7] st σ = np_X 44 133 [l0, l1, l2, l3, l4, some (.int x), l6, l7] (.int x :: st) σ := np_op k44 rfl rfl
theorem e44_133 {ls : nv_Ls} {st : List Value} {σ : nv_St} {a : Nat} {v : Value} : np_X 44 133 ls (v :: .ref a :: st) σ = np_b (nv_sto σ 4 6 .int a v) (fun σ' => np_X 44 136 ls st σ') := np_put k44 rfl
theorem e44_136 (x : Nat) {l0 l1 l2 l3 l4 l5 l6 : Option Value} {st : List Value} {σ : nv_St} : np_X 44 136 [l0, l1, l2, l3, l4, l5, l6, some (.ref x)] st σ = np_X 44 138 [l0, l1, l2, l3, l4, l5, l6, some (.ref x)] (.ref x :: st) σ := np_op k44 rfl rfl
theorem e44_136u  {l0 l1 l2 l3 l4 l5 l6 : Option Value} {st : List Value} {σ : nv_St} : np_X 44 136 [l0, l1, l2, l3, l4, l5, l6, some .null] st σ = np_X 44 138 [l0, l1, l2, l3, l4, l5, l6, some .null] (.null :: st) σ := np_op k44 rfl rfl
theorem e44_138 {ls : nv_Ls} {st : List Value} {σ : nv_St} {a : Nat}  (h : st.length ≤ 4) (h0 : nv_isO σ 4 a = true) : np_X 44 138 ls (.ref a :: st) σ = np_aft 44 138 141 ls st (np_X 68 0 [some (.ref a)] [] σ) := np_call k44 rfl (Nat.le_add_left 1 _) rfl rfl h rfl h0 rfl
theorem e44_141 (x : Nat) {l0 l1 l2 l3 l4 l5 l7 : Option Value} {st : List Value} {σ : nv_St} : np_X 44 141 [l0, l1, l2, l3, l4, l5, some (.ref x), l7] st σ = np_X 44 143 [l0, l1, l2, l3, l4, l5, some (.ref x), l7] (.ref x :: st) σ := np_op k44 rfl rfl
theorem e44_141u  {l0 l1 l2 l3 l4 l5 l7 : Option Value} {st : List Value} {σ : nv_St} : np_X 44 141 [l0, l1, l2, l3, l4, l5, some .null, l7] st σ = np_X 44 143 [l0, l1, l2, l3, l4, l5, some .null, l7] (.null :: st) σ := np_op k44 rfl rfl
theorem e44_143 {ls : nv_Ls} {st : List Value} {σ : nv_St} {x : Nat} : np_X 44 143 ls (.ref x :: st) σ = np_X 44 144 ls (.ref x :: .ref x :: st) σ := np_op k44 rfl rfl
theorem e44_143i {ls : nv_Ls} {st : List Value} {σ : nv_St} {x : Int32} : np_X 44 143 ls (.int x :: st) σ = np_X 44 144 ls (.int x :: .int x :: st) σ := np_op k44 rfl rfl
theorem e44_144 {ls : nv_Ls} {st : List Value} {σ : nv_St} {a : Nat} : np_X 44 144 ls (.ref a :: st) σ = np_b (nv_fld σ 0 0 a) (fun v => np_X 44 147 ls (v :: st) σ) := np_get k44 rfl
theorem e44_147 {ls : nv_Ls} {st : List Value} {σ : nv_St} : np_X 44 147 ls st σ = np_X 44 148 ls (.int (1) :: st) σ := np_op k44 rfl rfl
theorem e44_148 {ls : nv_Ls} {st : List Value} {σ : nv_St} {x y : Int32} : np_X 44 148 ls (.int y :: .int x :: st) σ = np_X 44 149 ls (.int (x + y) :: st) σ := np_op k44 rfl rfl
theorem e44_149 {ls : nv_Ls} {st : List Value} {σ : nv_St} {a : Nat} {v : Value} : np_X 44 149 ls (v :: .ref a :: st) σ = np_b (nv_sto σ 0 0 .int a v) (fun σ' => np_X 44 152 ls st σ') := np_put k44 rfl
theorem e44_152 (x : Nat) {l0 l1 l2 l3 l4 l5 l7 : Option Value} {st : List Value} {σ : nv_St} : np_X 44 152 [l0, l1, l2, l3, l4, l5, some (.ref x), l7] st σ = np_X 44 154 [l0, l1, l2, l3, l4, l5, some (.ref x), l7] (.ref x :: st) σ := np_op k44 rfl rfl
theorem e44_152u  {l0 l1 l2 l3 l4 l5 l7 : Option Value} {st : List Value} {σ : nv_St} : np_X 44 152 [l0, l1, l2, l3, l4, l5, some .null, l7] st σ = np_X 44 154 [l0, l1, l2, l3, l4, l5, some .null, l7] (.null :: st) σ := np_op k44 rfl rfl
theorem e44_154 {ls : nv_Ls} {st : List Value} {σ : nv_St} {x : Nat} : np_X 44 154 ls (.ref x :: st) σ = np_X 44 155 ls (.ref x :: .ref x :: st) σ := np_op k44 rfl rfl
theorem e44_154i {ls : nv_Ls} {st : List Value} {σ : nv_St} {x : Int32} : np_X 44 154 ls (.int x :: st) σ = np_X 44 155 ls (.int x :: .int x :: st) σ := np_op k44 rfl rfl
theorem e44_155 {ls : nv_Ls} {st : List Value} {σ : nv_St} {a : Nat} : np_X 44 155 ls (.ref a :: st) σ = np_b (nv_fld σ 0 1 a) (fun v => np_X 44 158 ls (v :: st) σ) := np_get k44 rfl
theorem e44_158 {ls : nv_Ls} {st : List Value} {σ : nv_St} : np_X 44 158 ls st σ = np_X 44 159 ls (.int (1) :: st) σ := np_op k44 rfl rfl
theorem e44_159 {ls : nv_Ls} {st : List Value} {σ : nv_St} {x y : Int32} : np_X 44 159 ls (.int y :: .int x :: st) σ = np_X 44 160 ls (.int (x + y) :: st) σ := np_op k44 rfl rfl
theorem e44_160 {ls : nv_Ls} {st : List Value} {σ : nv_St} {a : Nat} {v : Value} : np_X 44 160 ls (v :: .ref a :: st) σ = np_b (nv_sto σ 0 1 .int a v) (fun σ' => np_X 44 163 ls st σ') := np_put k44 rfl
theorem e44_163 (x : Nat) {l0 l1 l2 l3 l4 l5 l7 : Option Value} {st : List Value} {σ : nv_St} : np_X 44 163 [l0, l1, l2, l3, l4, l5, some (.ref x), l7] st σ = np_X 44 165 [l0, l1, l2, l3, l4, l5, some (.ref x), l7] (.ref x :: st) σ := np_op k44 rfl rfl
theorem e44_163u  {l0 l1 l2 l3 l4 l5 l7 : Option Value} {st : List Value} {σ : nv_St} : np_X 44 163 [l0, l1, l2, l3, l4, l5, some .null, l7] st σ = np_X 44 165 [l0, l1, l2, l3, l4, l5, some .null, l7] (.null :: st) σ := np_op k44 rfl rfl
theorem e44_165 {ls : nv_Ls} {st : List Value} {σ : nv_St} {x : Nat} : np_X 44 165 ls (.ref x :: st) σ = np_X 44 166 ls (.ref x :: .ref x :: st) σ := np_op k44 rfl rfl
theorem e44_165i {ls : nv_Ls} {st : List Value} {σ : nv_St} {x : Int32} : np_X 44 165 ls (.int x :: st) σ = np_X 44 166 ls (.int x :: .int x :: st) σ := np_op k44 rfl rfl
theorem e44_166 {ls : nv_Ls} {st : List Value} {σ : nv_St} {a : Nat} : np_X 44 166 ls (.ref a :: st) σ = np_b (nv_fld σ 0 3 a) (fun v => np_X 44 169 ls (v :: st) σ) := np_get k44 rfl
theorem e44_169 (x : Int32) {l0 l1 l2 l3 l4 l6 l7 : Option Value} {st : List Value} {σ : nv_St} : np_X 44 169 [l0, l1, l2, l3, l4, some (.int x), l6, l7] st σ = np_X 44 171 [l0, l1, l2, l3, l4, some (.int x), l6, l7] (.int x :: st) σ := np_op k44 rfl rfl
theorem e44_171 {ls : nv_Ls} {st : List Value} {σ : nv_St} {x y : Int32} : np_X 44 171 ls (.int y :: .int x :: st) σ = np_X 44 172 ls (.int (x + y) :: st) σ := np_op k44 rfl rfl
theorem e44_172 {ls : nv_Ls} {st : List Value} {σ : nv_St} {a : Nat} {v : Value} : np_X 44 172 ls (v :: .ref a :: st) σ = np_b (nv_sto σ 0 3 .int a v) (fun σ' => np_X 44 175 ls st σ') := np_put k44 rfl
theorem e44_175 (x : Nat) {l1 l2 l3 l4 l5 l6 l7 : Option Value} {st : List Value} {σ : nv_St} : np_X 44 175 [some (.ref x), l1, l2, l3, l4, l5, l6, l7] st σ = np_X 44 176 [some (.ref x), l1, l2, l3, l4, l5, l6, l7] (.ref x :: st) σ := np_op k44 rfl rfl
theorem e44_175u  {l1 l2 l3 l4 l5 l6 l7 : Option Value} {st : List Value} {σ : nv_St} : np_X 44 175 [some .null, l1, l2, l3, l4, l5, l6, l7] st σ = np_X 44 176 [some .null, l1, l2, l3, l4, l5, l6, l7] (.null :: st) σ := np_op k44 rfl rfl
theorem e44_176 {ls : nv_Ls} {st : List Value} {σ : nv_St} {x : Nat} : np_X 44 176 ls (.ref x :: st) σ = np_X 44 177 ls (.ref x :: .ref x :: st) σ := np_op k44 rfl rfl
theorem e44_176i {ls : nv_Ls} {st : List Value} {σ : nv_St} {x : Int32} : np_X 44 176 ls (.int x :: st) σ = np_X 44 177 ls (.int x :: .int x :: st) σ := np_op k44 rfl rfl
theorem e44_177 {ls : nv_Ls} {st : List Value} {σ : nv_St} {a : Nat} : np_X 44 177 ls (.ref a :: st) σ = np_b (nv_fld σ 2 3 a) (fun v => np_X 44 180 ls (v :: st) σ) := np_get k44 rfl
theorem e44_180 {ls : nv_Ls} {st : List Value} {σ : nv_St} : np_X 44 180 ls st σ = np_X 44 181 ls (.int (1) :: st) σ := np_op k44 rfl rfl
theorem e44_181 {ls : nv_Ls} {st : List Value} {σ : nv_St} {x y : Int32} : np_X 44 181 ls (.int y :: .int x :: st) σ = np_X 44 182 ls (.int (x + y) :: st) σ := np_op k44 rfl rfl
theorem e44_182 {ls : nv_Ls} {st : List Value} {σ : nv_St} {a : Nat} {v : Value} : np_X 44 182 ls (v :: .ref a :: st) σ = np_b (nv_sto σ 2 3 .int a v) (fun σ' => np_X 44 185 ls st σ') := np_put k44 rfl
theorem e44_185 (x : Nat) {l0 l1 l2 l3 l4 l5 l6 : Option Value} {st : List Value} {σ : nv_St} : np_X 44 185 [l0, l1, l2, l3, l4, l5, l6, some (.ref x)] st σ = np_X 44 187 [l0, l1, l2, l3, l4, l5, l6, some (.ref x)] (.ref x :: st) σ := np_op k44 rfl rfl
theorem e44_185u  {l0 l1 l2 l3 l4 l5 l6 : Option Value} {st : List Value} {σ : nv_St} : np_X 44 185 [l0, l1, l2, l3, l4, l5, l6, some .null] st σ = np_X 44 187 [l0, l1, l2, l3, l4, l5, l6, some .null] (.null :: st) σ := np_op k44 rfl rfl
theorem e44_187 {ls : nv_Ls} {st : List Value} {σ : nv_St} {a : Nat} : np_X 44 187 ls (.ref a :: st) σ = np_b (nv_fld σ 4 0 a) (fun v => np_X 44 190 ls (v :: st) σ) := np_get k44 rfl
theorem e44_190 {ls : nv_Ls} {σ : nv_St} {x : Int32} : np_X 44 190 ls [.int x] σ = some (.inl (some (.int x)), σ) := np_reti k44 rfl rfl
-- 45 SpoonNavy$Game.begin
theorem k45 : np_P.1 45 = np_c45 := rfl
theorem e45_0 (x : Nat) {st : List Value} {σ : nv_St} : np_X 45 0 [some (.ref x)] st σ = np_X 45 1 [some (.ref x)] (.ref x :: st) σ := np_op k45 rfl rfl
theorem e45_0u  {st : List Value} {σ : nv_St} : np_X 45 0 [some .null] st σ = np_X 45 1 [some .null] (.null :: st) σ := np_op k45 rfl rfl
theorem e45_1 {ls : nv_Ls} {st : List Value} {σ : nv_St} {a : Nat} : np_X 45 1 ls (.ref a :: st) σ = np_b (nv_fld σ 2 4 a) (fun v => np_X 45 4 ls (v :: st) σ) := np_get k45 rfl
theorem e45_4 {ls : nv_Ls} {st : List Value} {σ : nv_St} {x : Int32} : np_X 45 4 ls (.int x :: st) σ = if x = 0 then np_X 45 7 ls st σ else np_X 45 27 ls st σ := np_br inferInstance k45 rfl rfl
theorem e45_7 (x : Nat) {st : List Value} {σ : nv_St} : np_X 45 7 [some (.ref x)] st σ = np_X 45 8 [some (.ref x)] (.ref x :: st) σ := np_op k45 rfl rfl
theorem e45_7u  {st : List Value} {σ : nv_St} : np_X 45 7 [some .null] st σ = np_X 45 8 [some .null] (.null :: st) σ := np_op k45 rfl rfl
theorem e45_8 {ls : nv_Ls} {st : List Value} {σ : nv_St} {a : Nat} : np_X 45 8 ls (.ref a :: st) σ = np_b (nv_fld σ 2 1 a) (fun v => np_X 45 11 ls (v :: st) σ) := np_get k45 rfl
theorem e45_11 {ls : nv_Ls} {st : List Value} {σ : nv_St} {a : Nat} : np_X 45 11 ls (.ref a :: st) σ = np_b (nv_fld σ 0 0 a) (fun v => np_X 45 14 ls (v :: st) σ) := np_get k45 rfl
theorem e45_14 {ls : nv_Ls} {st : List Value} {σ : nv_St} {x : Int32} : np_X 45 14 ls (.int x :: st) σ = if x = 0 then np_X 45 27 ls st σ else np_X 45 17 ls st σ := np_br inferInstance k45 rfl rfl
theorem e45_17 (x : Nat) {st : List Value} {σ : nv_St} : np_X 45 17 [some (.ref x)] st σ = np_X 45 18 [some (.ref x)] (.ref x :: st) σ := np_op k45 rfl rfl
theorem e45_17u  {st : List Value} {σ : nv_St} : np_X 45 17 [some .null] st σ = np_X 45 18 [some .null] (.null :: st) σ := np_op k45 rfl rfl
theorem e45_18 {ls : nv_Ls} {st : List Value} {σ : nv_St} {a : Nat} : np_X 45 18 ls (.ref a :: st) σ = np_b (nv_fld σ 2 2 a) (fun v => np_X 45 21 ls (v :: st) σ) := np_get k45 rfl
theorem e45_21 {ls : nv_Ls} {st : List Value} {σ : nv_St} {a : Nat} : np_X 45 21 ls (.ref a :: st) σ = np_b (nv_fld σ 0 0 a) (fun v => np_X 45 24 ls (v :: st) σ) := np_get k45 rfl
theorem e45_24 {ls : nv_Ls} {st : List Value} {σ : nv_St} {x : Int32} : np_X 45 24 ls (.int x :: st) σ = if x = 0 then np_X 45 27 ls st σ else np_X 45 30 ls st σ := np_br inferInstance k45 rfl rfl
theorem e45_27 {ls : nv_Ls} {st : List Value} {σ : nv_St} : np_X 45 27 ls st σ = np_X 45 29 ls (.int (-3) :: st) σ := np_op k45 rfl rfl
theorem e45_29 {ls : nv_Ls} {σ : nv_St} {x : Int32} : np_X 45 29 ls [.int x] σ = some (.inl (some (.int x)), σ) := np_reti k45 rfl rfl
theorem e45_30 (x : Nat) {st : List Value} {σ : nv_St} : np_X 45 30 [some (.ref x)] st σ = np_X 45 31 [some (.ref x)] (.ref x :: st) σ := np_op k45 rfl rfl
theorem e45_30u  {st : List Value} {σ : nv_St} : np_X 45 30 [some .null] st σ = np_X 45 31 [some .null] (.null :: st) σ := np_op k45 rfl rfl
theorem e45_31 {ls : nv_Ls} {st : List Value} {σ : nv_St} : np_X 45 31 ls st σ = np_X 45 32 ls (.int (1) :: st) σ := np_op k45 rfl rfl
theorem e45_32 {ls : nv_Ls} {st : List Value} {σ : nv_St} {a : Nat} {v : Value} : np_X 45 32 ls (v :: .ref a :: st) σ = np_b (nv_sto σ 2 4 .boolean a v) (fun σ' => np_X 45 35 ls st σ') := np_put k45 rfl
theorem e45_35 (x : Nat) {st : List Value} {σ : nv_St} : np_X 45 35 [some (.ref x)] st σ = np_X 45 36 [some (.ref x)] (.ref x :: st) σ := np_op k45 rfl rfl
theorem e45_35u  {st : List Value} {σ : nv_St} : np_X 45 35 [some .null] st σ = np_X 45 36 [some .null] (.null :: st) σ := np_op k45 rfl rfl
theorem e45_36 {ls : nv_Ls} {st : List Value} {σ : nv_St} : np_X 45 36 ls st σ = np_X 45 37 ls (.int (0) :: st) σ := np_op k45 rfl rfl
theorem e45_37 {ls : nv_Ls} {st : List Value} {σ : nv_St} {a : Nat} {v : Value} : np_X 45 37 ls (v :: .ref a :: st) σ = np_b (nv_sto σ 2 5 .int a v) (fun σ' => np_X 45 40 ls st σ') := np_put k45 rfl
theorem e45_40 (x : Nat) {st : List Value} {σ : nv_St} : np_X 45 40 [some (.ref x)] st σ = np_X 45 41 [some (.ref x)] (.ref x :: st) σ := np_op k45 rfl rfl
theorem e45_40u  {st : List Value} {σ : nv_St} : np_X 45 40 [some .null] st σ = np_X 45 41 [some .null] (.null :: st) σ := np_op k45 rfl rfl
theorem e45_41 {ls : nv_Ls} {st : List Value} {σ : nv_St} : np_X 45 41 ls st σ = np_X 45 42 ls (.int (3) :: st) σ := np_op k45 rfl rfl
theorem e45_42 {ls : nv_Ls} {st : List Value} {σ : nv_St} {a : Nat} {v : Value} : np_X 45 42 ls (v :: .ref a :: st) σ = np_b (nv_sto σ 2 6 .int a v) (fun σ' => np_X 45 45 ls st σ') := np_put k45 rfl
theorem e45_45 (x : Nat) {st : List Value} {σ : nv_St} : np_X 45 45 [some (.ref x)] st σ = np_X 45 46 [some (.ref x)] (.ref x :: st) σ := np_op k45 rfl rfl
theorem e45_45u  {st : List Value} {σ : nv_St} : np_X 45 45 [some .null] st σ = np_X 45 46 [some .null] (.null :: st) σ := np_op k45 rfl rfl
theorem e45_46 {ls : nv_Ls} {st : List Value} {σ : nv_St} {a : Nat} : np_X 45 46 ls (.ref a :: st) σ = np_b (nv_fld σ 2 3 a) (fun v => np_X 45 49 ls (v :: st) σ) := np_get k45 rfl
theorem e45_49 {ls : nv_Ls} {σ : nv_St} {x : Int32} : np_X 45 49 ls [.int x] σ = some (.inl (some (.int x)), σ) := np_reti k45 rfl rfl
-- 46 SpoonNavy$Game.passTurn
theorem k46 : np_P.1 46 = np_c46 := rfl
theorem e46_0 (x : Nat) {st : List Value} {σ : nv_St} : np_X 46 0 [some (.ref x)] st σ = np_X 46 1 [some (.ref x)] (.ref x :: st) σ := np_op k46 rfl rfl
theorem e46_0u  {st : List Value} {σ : nv_St} : np_X 46 0 [some .null] st σ = np_X 46 1 [some .null] (.null :: st) σ := np_op k46 rfl rfl
theorem e46_1 {ls : nv_Ls} {st : List Value} {σ : nv_St} {a : Nat}  (h : st.length ≤ 4) (h0 : nv_isO σ 2 a = true) : np_X 46 1 ls (.ref a :: st) σ = np_aft 46 1 4 ls st (np_X 31 0 [some (.ref a)] [] σ) := np_call k46 rfl (Nat.le_add_left 1 _) rfl rfl h rfl h0 rfl
theorem e46_4 {ls : nv_Ls} {st : List Value} {σ : nv_St} {x : Int32} : np_X 46 4 ls (.int x :: st) σ = if x = 0 then np_X 46 7 ls st σ else np_X 46 10 ls st σ := np_br inferInstance k46 rfl rfl
theorem e46_7 {ls : nv_Ls} {st : List Value} {σ : nv_St} : np_X 46 7 ls st σ = np_X 46 9 ls (.int (-3) :: st) σ := np_op k46 rfl rfl
theorem e46_9 {ls : nv_Ls} {σ : nv_St} {x : Int32} : np_X 46 9 ls [.int x] σ = some (.inl (some (.int x)), σ) := np_reti k46 rfl rfl
theorem e46_10 (x : Nat) {st : List Value} {σ : nv_St} : np_X 46 10 [some (.ref x)] st σ = np_X 46 11 [some (.ref x)] (.ref x :: st) σ := np_op k46 rfl rfl
theorem e46_10u  {st : List Value} {σ : nv_St} : np_X 46 10 [some .null] st σ = np_X 46 11 [some .null] (.null :: st) σ := np_op k46 rfl rfl
theorem e46_11 {ls : nv_Ls} {st : List Value} {σ : nv_St} : np_X 46 11 ls st σ = np_X 46 12 ls (.int (1) :: st) σ := np_op k46 rfl rfl
theorem e46_12 (x : Nat) {st : List Value} {σ : nv_St} : np_X 46 12 [some (.ref x)] st σ = np_X 46 13 [some (.ref x)] (.ref x :: st) σ := np_op k46 rfl rfl
theorem e46_12u  {st : List Value} {σ : nv_St} : np_X 46 12 [some .null] st σ = np_X 46 13 [some .null] (.null :: st) σ := np_op k46 rfl rfl
theorem e46_13 {ls : nv_Ls} {st : List Value} {σ : nv_St} {a : Nat} : np_X 46 13 ls (.ref a :: st) σ = np_b (nv_fld σ 2 5 a) (fun v => np_X 46 16 ls (v :: st) σ) := np_get k46 rfl
theorem e46_16 {ls : nv_Ls} {st : List Value} {σ : nv_St} {x y : Int32} : np_X 46 16 ls (.int y :: .int x :: st) σ = np_X 46 17 ls (.int (x - y) :: st) σ := np_op k46 rfl rfl
theorem e46_17 {ls : nv_Ls} {st : List Value} {σ : nv_St} {a : Nat} {v : Value} : np_X 46 17 ls (v :: .ref a :: st) σ = np_b (nv_sto σ 2 5 .int a v) (fun σ' => np_X 46 20 ls st σ') := np_put k46 rfl
theorem e46_20 (x : Nat) {st : List Value} {σ : nv_St} : np_X 46 20 [some (.ref x)] st σ = np_X 46 21 [some (.ref x)] (.ref x :: st) σ := np_op k46 rfl rfl
theorem e46_20u  {st : List Value} {σ : nv_St} : np_X 46 20 [some .null] st σ = np_X 46 21 [some .null] (.null :: st) σ := np_op k46 rfl rfl
theorem e46_21 {ls : nv_Ls} {st : List Value} {σ : nv_St} : np_X 46 21 ls st σ = np_X 46 22 ls (.int (3) :: st) σ := np_op k46 rfl rfl
theorem e46_22 {ls : nv_Ls} {st : List Value} {σ : nv_St} {a : Nat} {v : Value} : np_X 46 22 ls (v :: .ref a :: st) σ = np_b (nv_sto σ 2 6 .int a v) (fun σ' => np_X 46 25 ls st σ') := np_put k46 rfl
theorem e46_25 (x : Nat) {st : List Value} {σ : nv_St} : np_X 46 25 [some (.ref x)] st σ = np_X 46 26 [some (.ref x)] (.ref x :: st) σ := np_op k46 rfl rfl
theorem e46_25u  {st : List Value} {σ : nv_St} : np_X 46 25 [some .null] st σ = np_X 46 26 [some .null] (.null :: st) σ := np_op k46 rfl rfl
theorem e46_26 {ls : nv_Ls} {st : List Value} {σ : nv_St} {x : Nat} : np_X 46 26 ls (.ref x :: st) σ = np_X 46 27 ls (.ref x :: .ref x :: st) σ := np_op k46 rfl rfl
theorem e46_26i {ls : nv_Ls} {st : List Value} {σ : nv_St} {x : Int32} : np_X 46 26 ls (.int x :: st) σ = np_X 46 27 ls (.int x :: .int x :: st) σ := np_op k46 rfl rfl
theorem e46_27 {ls : nv_Ls} {st : List Value} {σ : nv_St} {a : Nat} : np_X 46 27 ls (.ref a :: st) σ = np_b (nv_fld σ 2 7 a) (fun v => np_X 46 30 ls (v :: st) σ) := np_get k46 rfl
theorem e46_30 {ls : nv_Ls} {st : List Value} {σ : nv_St} : np_X 46 30 ls st σ = np_X 46 31 ls (.int (1) :: st) σ := np_op k46 rfl rfl
theorem e46_31 {ls : nv_Ls} {st : List Value} {σ : nv_St} {x y : Int32} : np_X 46 31 ls (.int y :: .int x :: st) σ = np_X 46 32 ls (.int (x + y) :: st) σ := np_op k46 rfl rfl
theorem e46_32 {ls : nv_Ls} {st : List Value} {σ : nv_St} {a : Nat} {v : Value} : np_X 46 32 ls (v :: .ref a :: st) σ = np_b (nv_sto σ 2 7 .int a v) (fun σ' => np_X 46 35 ls st σ') := np_put k46 rfl
theorem e46_35 (x : Nat) {st : List Value} {σ : nv_St} : np_X 46 35 [some (.ref x)] st σ = np_X 46 36 [some (.ref x)] (.ref x :: st) σ := np_op k46 rfl rfl
theorem e46_35u  {st : List Value} {σ : nv_St} : np_X 46 35 [some .null] st σ = np_X 46 36 [some .null] (.null :: st) σ := np_op k46 rfl rfl
theorem e46_36 {ls : nv_Ls} {st : List Value} {σ : nv_St} {a : Nat} : np_X 46 36 ls (.ref a :: st) σ = np_b (nv_fld σ 2 5 a) (fun v => np_X 46 39 ls (v :: st) σ) := np_get k46 rfl
theorem e46_39 {ls : nv_Ls} {σ : nv_St} {x : Int32} : np_X 46 39 ls [.int x] σ = some (.inl (some (.int x)), σ) := np_reti k46 rfl rfl
-- 47 SpoonNavy$Game.rotate
theorem k47 : np_P.1 47 = np_c47 := rfl
theorem e47_0 (x : Nat) {l1 l2 l3 l4 l5 : Option Value} {st : List Value} {σ : nv_St} : np_X 47 0 [some (.ref x), l1, l2, l3, l4, l5] st σ = np_X 47 1 [some (.ref x), l1, l2, l3, l4, l5] (.ref x :: st) σ := np_op k47 rfl rfl
theorem e47_0u  {l1 l2 l3 l4 l5 : Option Value} {st : List Value} {σ : nv_St} : np_X 47 0 [some .null, l1, l2, l3, l4, l5] st σ = np_X 47 1 [some .null, l1, l2, l3, l4, l5] (.null :: st) σ := np_op k47 rfl rfl
theorem e47_1 (x : Int32) {l0 l2 l3 l4 l5 : Option Value} {st : List Value} {σ : nv_St} : np_X 47 1 [l0, some (.int x), l2, l3, l4, l5] st σ = np_X 47 2 [l0, some (.int x), l2, l3, l4, l5] (.int x :: st) σ := np_op k47 rfl rfl
theorem e47_2 {ls : nv_Ls} {st : List Value} {σ : nv_St} {a : Nat} {x0 : Int32} (h : st.length ≤ 4) (h0 : nv_isO σ 2 a = true) : np_X 47 2 ls (.int x0 :: .ref a :: st) σ = np_aft 47 2 5 ls st (np_X 28 0 [some (.ref a), some (.int x0)] [] σ) := np_call k47 rfl (Nat.le_add_left 2 _) rfl rfl h rfl h0 rfl
theorem e47_5n (x : Nat) {l0 l1 l3 l4 l5 : Option Value} {st : List Value} {σ : nv_St} : np_X 47 5 [l0, l1, none, l3, l4, l5] (.ref x :: st) σ = np_X 47 6 [l0, l1, none, some (.ref x), l4, l5] st σ := np_op k47 rfl rfl
theorem e47_5i (x : Nat) {z : Int32} {l0 l1 l3 l4 l5 : Option Value} {st : List Value} {σ : nv_St} : np_X 47 5 [l0, l1, some (.int z), l3, l4, l5] (.ref x :: st) σ = np_X 47 6 [l0, l1, some (.int z), some (.ref x), l4, l5] st σ := np_op k47 rfl rfl
theorem e47_5r (x : Nat) {z : Nat} {l0 l1 l3 l4 l5 : Option Value} {st : List Value} {σ : nv_St} : np_X 47 5 [l0, l1, some (.ref z), l3, l4, l5] (.ref x :: st) σ = np_X 47 6 [l0, l1, some (.ref z), some (.ref x), l4, l5] st σ := np_op k47 rfl rfl
theorem e47_5v (x : Nat) {l0 l1 l3 l4 l5 : Option Value} {st : List Value} {σ : nv_St} : np_X 47 5 [l0, l1, some .null, l3, l4, l5] (.ref x :: st) σ = np_X 47 6 [l0, l1, some .null, some (.ref x), l4, l5] st σ := np_op k47 rfl rfl
theorem e47_5un  {l0 l1 l3 l4 l5 : Option Value} {st : List Value} {σ : nv_St} : np_X 47 5 [l0, l1, none, l3, l4, l5] (.null :: st) σ = np_X 47 6 [l0, l1, none, some .null, l4, l5] st σ := np_op k47 rfl rfl
theorem e47_5ui  {z : Int32} {l0 l1 l3 l4 l5 : Option Value} {st : List Value} {σ : nv_St} : np_X 47 5 [l0, l1, some (.int z), l3, l4, l5] (.null :: st) σ = np_X 47 6 [l0, l1, some (.int z), some .null, l4, l5] st σ := np_op k47 rfl rfl
theorem e47_5ur  {z : Nat} {l0 l1 l3 l4 l5 : Option Value} {st : List Value} {σ : nv_St} : np_X 47 5 [l0, l1, some (.ref z), l3, l4, l5] (.null :: st) σ = np_X 47 6 [l0, l1, some (.ref z), some .null, l4, l5] st σ := np_op k47 rfl rfl
theorem e47_5uv  {l0 l1 l3 l4 l5 : Option Value} {st : List Value} {σ : nv_St} : np_X 47 5 [l0, l1, some .null, l3, l4, l5] (.null :: st) σ = np_X 47 6 [l0, l1, some .null, some .null, l4, l5] st σ := np_op k47 rfl rfl
theorem e47_6 (x : Nat) {l0 l1 l2 l4 l5 : Option Value} {st : List Value} {σ : nv_St} : np_X 47 6 [l0, l1, l2, some (.ref x), l4, l5] st σ = np_X 47 7 [l0, l1, l2, some (.ref x), l4, l5] (.ref x :: st) σ := np_op k47 rfl rfl
theorem e47_6u  {l0 l1 l2 l4 l5 : Option Value} {st : List Value} {σ : nv_St} : np_X 47 6 [l0, l1, l2, some .null, l4, l5] st σ = np_X 47 7 [l0, l1, l2, some .null, l4, l5] (.null :: st) σ := np_op k47 rfl rfl
theorem e47_7 {ls : nv_Ls} {st : List Value} {σ : nv_St} {a : Nat} (h : a < 1000000) : np_X 47 7 ls (.ref a :: st) σ = np_X 47 12 ls st σ := np_ifnonnull k47 rfl h
theorem e47_7u {ls : nv_Ls} {st : List Value} {σ : nv_St} : np_X 47 7 ls (.null :: st) σ = np_X 47 10 ls st σ := np_op k47 rfl rfl
theorem e47_10 {ls : nv_Ls} {st : List Value} {σ : nv_St} : np_X 47 10 ls st σ = np_X 47 11 ls (.int (-1) :: st) σ := np_op k47 rfl rfl
theorem e47_11 {ls : nv_Ls} {σ : nv_St} {x : Int32} : np_X 47 11 ls [.int x] σ = some (.inl (some (.int x)), σ) := np_reti k47 rfl rfl
theorem e47_12 (x : Nat) {l1 l2 l3 l4 l5 : Option Value} {st : List Value} {σ : nv_St} : np_X 47 12 [some (.ref x), l1, l2, l3, l4, l5] st σ = np_X 47 13 [some (.ref x), l1, l2, l3, l4, l5] (.ref x :: st) σ := np_op k47 rfl rfl
theorem e47_12u  {l1 l2 l3 l4 l5 : Option Value} {st : List Value} {σ : nv_St} : np_X 47 12 [some .null, l1, l2, l3, l4, l5] st σ = np_X 47 13 [some .null, l1, l2, l3, l4, l5] (.null :: st) σ := np_op k47 rfl rfl
theorem e47_13 (x : Nat) {l0 l1 l2 l4 l5 : Option Value} {st : List Value} {σ : nv_St} : np_X 47 13 [l0, l1, l2, some (.ref x), l4, l5] st σ = np_X 47 14 [l0, l1, l2, some (.ref x), l4, l5] (.ref x :: st) σ := np_op k47 rfl rfl
theorem e47_13u  {l0 l1 l2 l4 l5 : Option Value} {st : List Value} {σ : nv_St} : np_X 47 13 [l0, l1, l2, some .null, l4, l5] st σ = np_X 47 14 [l0, l1, l2, some .null, l4, l5] (.null :: st) σ := np_op k47 rfl rfl
theorem e47_14 (x : Int32) {l0 l1 l3 l4 l5 : Option Value} {st : List Value} {σ : nv_St} : np_X 47 14 [l0, l1, some (.int x), l3, l4, l5] st σ = np_X 47 15 [l0, l1, some (.int x), l3, l4, l5] (.int x :: st) σ := np_op k47 rfl rfl
theorem e47_15 {ls : nv_Ls} {st : List Value} {σ : nv_St}  {x0 : Int32} (h : st.length ≤ 4) : np_X 47 15 ls (.int x0 :: st) σ = np_aft 47 15 18 ls st (np_X 134 0 [some (.int x0)] [] σ) := np_call k47 rfl (Nat.le_add_left 1 _) rfl rfl h rfl rfl rfl
theorem e47_18 {ls : nv_Ls} {st : List Value} {σ : nv_St} {a : Nat} {x0 : Nat} {x1 : Int32} (h : st.length ≤ 4) (h0 : nv_isO σ 2 a = true) : np_X 47 18 ls (.int x1 :: .ref x0 :: .ref a :: st) σ = np_aft 47 18 21 ls st (np_X 55 0 [some (.ref a), some (.ref x0), some (.int x1)] [] σ) := np_call k47 rfl (Nat.le_add_left 3 _) rfl rfl h rfl h0 rfl
theorem e47_21n (x : Int32) {l0 l1 l2 l4 l5 : Option Value} {st : List Value} {σ : nv_St} : np_X 47 21 [l0, l1, l2, none, l4, l5] (.int x :: st) σ = np_X 47 23 [l0, l1, l2, none, some (.int x), l5] st σ := np_op k47 rfl rfl
theorem e47_21i (x : Int32) {z : Int32} {l0 l1 l2 l4 l5 : Option Value} {st : List Value} {σ : nv_St} : np_X 47 21 [l0, l1, l2, some (.int z), l4, l5] (.int x :: st) σ = np_X 47 23 [l0, l1, l2, some (.int z), some (.int x), l5] st σ := np_op k47 rfl rfl
theorem e47_21r (x : Int32) {z : Nat} {l0 l1 l2 l4 l5 : Option Value} {st : List Value} {σ : nv_St} : np_X 47 21 [l0, l1, l2, some (.ref z), l4, l5] (.int x :: st) σ = np_X 47 23 [l0, l1, l2, some (.ref z), some (.int x), l5] st σ := np_op k47 rfl rfl
theorem e47_21v (x : Int32) {l0 l1 l2 l4 l5 : Option Value} {st : List Value} {σ : nv_St} : np_X 47 21 [l0, l1, l2, some .null, l4, l5] (.int x :: st) σ = np_X 47 23 [l0, l1, l2, some .null, some (.int x), l5] st σ := np_op k47 rfl rfl
theorem e47_23 (x : Int32) {l0 l1 l2 l3 l5 : Option Value} {st : List Value} {σ : nv_St} : np_X 47 23 [l0, l1, l2, l3, some (.int x), l5] st σ = np_X 47 25 [l0, l1, l2, l3, some (.int x), l5] (.int x :: st) σ := np_op k47 rfl rfl
theorem e47_25 {ls : nv_Ls} {st : List Value} {σ : nv_St} {x : Int32} : np_X 47 25 ls (.int x :: st) σ = if x = 0 then np_X 47 31 ls st σ else np_X 47 28 ls st σ := np_br inferInstance k47 rfl rfl
theorem e47_28 (x : Int32) {l0 l1 l2 l3 l5 : Option Value} {st : List Value} {σ : nv_St} : np_X 47 28 [l0, l1, l2, l3, some (.int x), l5] st σ = np_X 47 30 [l0, l1, l2, l3, some (.int x), l5] (.int x :: st) σ := np_op k47 rfl rfl
theorem e47_30 {ls : nv_Ls} {σ : nv_St} {x : Int32} : np_X 47 30 ls [.int x] σ = some (.inl (some (.int x)), σ) := np_reti k47 rfl rfl
theorem e47_31 (x : Nat) {l0 l1 l2 l4 l5 : Option Value} {st : List Value} {σ : nv_St} : np_X 47 31 [l0, l1, l2, some (.ref x), l4, l5] st σ = np_X 47 32 [l0, l1, l2, some (.ref x), l4, l5] (.ref x :: st) σ := np_op k47 rfl rfl
theorem e47_31u  {l0 l1 l2 l4 l5 : Option Value} {st : List Value} {σ : nv_St} : np_X 47 31 [l0, l1, l2, some .null, l4, l5] st σ = np_X 47 32 [l0, l1, l2, some .null, l4, l5] (.null :: st) σ := np_op k47 rfl rfl
theorem e47_32 {ls : nv_Ls} {st : List Value} {σ : nv_St} {a : Nat} : np_X 47 32 ls (.ref a :: st) σ = np_b (nv_fld σ 4 4 a) (fun v => np_X 47 35 ls (v :: st) σ) := np_get k47 rfl
theorem e47_35 (x : Int32) {l0 l1 l3 l4 l5 : Option Value} {st : List Value} {σ : nv_St} : np_X 47 35 [l0, l1, some (.int x), l3, l4, l5] st σ = np_X 47 36 [l0, l1, some (.int x), l3, l4, l5] (.int x :: st) σ := np_op k47 rfl rfl
theorem e47_36 {ls : nv_Ls} {st : List Value} {σ : nv_St}  {x0 : Int32} {x1 : Int32} (h : st.length ≤ 4) : np_X 47 36 ls (.int x1 :: .int x0 :: st) σ = np_aft 47 36 39 ls st (np_X 139 0 [some (.int x0), some (.int x1), none] [] σ) := np_call k47 rfl (Nat.le_add_left 2 _) rfl rfl h rfl rfl rfl
theorem e47_39n (x : Int32) {l0 l1 l2 l3 l5 : Option Value} {st : List Value} {σ : nv_St} : np_X 47 39 [l0, l1, l2, l3, none, l5] (.int x :: st) σ = np_X 47 41 [l0, l1, l2, l3, none, some (.int x)] st σ := np_op k47 rfl rfl
theorem e47_39i (x : Int32) {z : Int32} {l0 l1 l2 l3 l5 : Option Value} {st : List Value} {σ : nv_St} : np_X 47 39 [l0, l1, l2, l3, some (.int z), l5] (.int x :: st) σ = np_X 47 41 [l0, l1, l2, l3, some (.int z), some (.int x)] st σ := np_op k47 rfl rfl
theorem e47_39r (x : Int32) {z : Nat} {l0 l1 l2 l3 l5 : Option Value} {st : List Value} {σ : nv_St} : np_X 47 39 [l0, l1, l2, l3, some (.ref z), l5] (.int x :: st) σ = np_X 47 41 [l0, l1, l2, l3, some (.ref z), some (.int x)] st σ := np_op k47 rfl rfl
theorem e47_39v (x : Int32) {l0 l1 l2 l3 l5 : Option Value} {st : List Value} {σ : nv_St} : np_X 47 39 [l0, l1, l2, l3, some .null, l5] (.int x :: st) σ = np_X 47 41 [l0, l1, l2, l3, some .null, some (.int x)] st σ := np_op k47 rfl rfl
theorem e47_41 (x : Nat) {l0 l1 l2 l4 l5 : Option Value} {st : List Value} {σ : nv_St} : np_X 47 41 [l0, l1, l2, some (.ref x), l4, l5] st σ = np_X 47 42 [l0, l1, l2, some (.ref x), l4, l5] (.ref x :: st) σ := np_op k47 rfl rfl
theorem e47_41u  {l0 l1 l2 l4 l5 : Option Value} {st : List Value} {σ : nv_St} : np_X 47 41 [l0, l1, l2, some .null, l4, l5] st σ = np_X 47 42 [l0, l1, l2, some .null, l4, l5] (.null :: st) σ := np_op k47 rfl rfl
theorem e47_42 (x : Int32) {l0 l1 l3 l4 l5 : Option Value} {st : List Value} {σ : nv_St} : np_X 47 42 [l0, l1, some (.int x), l3, l4, l5] st σ = np_X 47 43 [l0, l1, some (.int x), l3, l4, l5] (.int x :: st) σ := np_op k47 rfl rfl
theorem e47_43 {ls : nv_Ls} {st : List Value} {σ : nv_St} {a : Nat} {v : Value} : np_X 47 43 ls (v :: .ref a :: st) σ = np_b (nv_sto σ 4 4 .int a v) (fun σ' => np_X 47 46 ls st σ') := np_put k47 rfl
theorem e47_46 (x : Nat) {l1 l2 l3 l4 l5 : Option Value} {st : List Value} {σ : nv_St} : np_X 47 46 [some (.ref x), l1, l2, l3, l4, l5] st σ = np_X 47 47 [some (.ref x), l1, l2, l3, l4, l5] (.ref x :: st) σ := np_op k47 rfl rfl
theorem e47_46u  {l1 l2 l3 l4 l5 : Option Value} {st : List Value} {σ : nv_St} : np_X 47 46 [some .null, l1, l2, l3, l4, l5] st σ = np_X 47 47 [some .null, l1, l2, l3, l4, l5] (.null :: st) σ := np_op k47 rfl rfl
theorem e47_47 {ls : nv_Ls} {st : List Value} {σ : nv_St} {x : Nat} : np_X 47 47 ls (.ref x :: st) σ = np_X 47 48 ls (.ref x :: .ref x :: st) σ := np_op k47 rfl rfl
theorem e47_47i {ls : nv_Ls} {st : List Value} {σ : nv_St} {x : Int32} : np_X 47 47 ls (.int x :: st) σ = np_X 47 48 ls (.int x :: .int x :: st) σ := np_op k47 rfl rfl
theorem e47_48 {ls : nv_Ls} {st : List Value} {σ : nv_St} {a : Nat} : np_X 47 48 ls (.ref a :: st) σ = np_b (nv_fld σ 2 6 a) (fun v => np_X 47 51 ls (v :: st) σ) := np_get k47 rfl
theorem e47_51 {ls : nv_Ls} {st : List Value} {σ : nv_St} : np_X 47 51 ls st σ = np_X 47 52 ls (.int (1) :: st) σ := np_op k47 rfl rfl
theorem e47_52 {ls : nv_Ls} {st : List Value} {σ : nv_St} {x y : Int32} : np_X 47 52 ls (.int y :: .int x :: st) σ = np_X 47 53 ls (.int (x - y) :: st) σ := np_op k47 rfl rfl
theorem e47_53 {ls : nv_Ls} {st : List Value} {σ : nv_St} {a : Nat} {v : Value} : np_X 47 53 ls (v :: .ref a :: st) σ = np_b (nv_sto σ 2 6 .int a v) (fun σ' => np_X 47 56 ls st σ') := np_put k47 rfl
theorem e47_56 (x : Int32) {l0 l1 l2 l3 l4 : Option Value} {st : List Value} {σ : nv_St} : np_X 47 56 [l0, l1, l2, l3, l4, some (.int x)] st σ = np_X 47 58 [l0, l1, l2, l3, l4, some (.int x)] (.int x :: st) σ := np_op k47 rfl rfl
theorem e47_58 {ls : nv_Ls} {σ : nv_St} {x : Int32} : np_X 47 58 ls [.int x] σ = some (.inl (some (.int x)), σ) := np_reti k47 rfl rfl
-- 48 SpoonNavy$Game.move
theorem k48 : np_P.1 48 = np_c48 := rfl
theorem e48_0 (x : Nat) {l1 l2 l3 l4 l5 l6 : Option Value} {st : List Value} {σ : nv_St} : np_X 48 0 [some (.ref x), l1, l2, l3, l4, l5, l6] st σ = np_X 48 1 [some (.ref x), l1, l2, l3, l4, l5, l6] (.ref x :: st) σ := np_op k48 rfl rfl
theorem e48_0u  {l1 l2 l3 l4 l5 l6 : Option Value} {st : List Value} {σ : nv_St} : np_X 48 0 [some .null, l1, l2, l3, l4, l5, l6] st σ = np_X 48 1 [some .null, l1, l2, l3, l4, l5, l6] (.null :: st) σ := np_op k48 rfl rfl
theorem e48_1 (x : Int32) {l0 l2 l3 l4 l5 l6 : Option Value} {st : List Value} {σ : nv_St} : np_X 48 1 [l0, some (.int x), l2, l3, l4, l5, l6] st σ = np_X 48 2 [l0, some (.int x), l2, l3, l4, l5, l6] (.int x :: st) σ := np_op k48 rfl rfl
theorem e48_2 {ls : nv_Ls} {st : List Value} {σ : nv_St} {a : Nat} {x0 : Int32} (h : st.length ≤ 4) (h0 : nv_isO σ 2 a = true) : np_X 48 2 ls (.int x0 :: .ref a :: st) σ = np_aft 48 2 5 ls st (np_X 28 0 [some (.ref a), some (.int x0)] [] σ) := np_call k48 rfl (Nat.le_add_left 2 _) rfl rfl h rfl h0 rfl
theorem e48_5n (x : Nat) {l0 l1 l2 l4 l5 l6 : Option Value} {st : List Value} {σ : nv_St} : np_X 48 5 [l0, l1, l2, none, l4, l5, l6] (.ref x :: st) σ = np_X 48 7 [l0, l1, l2, none, some (.ref x), l5, l6] st σ := np_op k48 rfl rfl
theorem e48_5i (x : Nat) {z : Int32} {l0 l1 l2 l4 l5 l6 : Option Value} {st : List Value} {σ : nv_St} : np_X 48 5 [l0, l1, l2, some (.int z), l4, l5, l6] (.ref x :: st) σ = np_X 48 7 [l0, l1, l2, some (.int z), some (.ref x), l5, l6] st σ := np_op k48 rfl rfl
theorem e48_5r (x : Nat) {z : Nat} {l0 l1 l2 l4 l5 l6 : Option Value} {st : List Value} {σ : nv_St} : np_X 48 5 [l0, l1, l2, some (.ref z), l4, l5, l6] (.ref x :: st) σ = np_X 48 7 [l0, l1, l2, some (.ref z), some (.ref x), l5, l6] st σ := np_op k48 rfl rfl
theorem e48_5v (x : Nat) {l0 l1 l2 l4 l5 l6 : Option Value} {st : List Value} {σ : nv_St} : np_X 48 5 [l0, l1, l2, some .null, l4, l5, l6] (.ref x :: st) σ = np_X 48 7 [l0, l1, l2, some .null, some (.ref x), l5, l6] st σ := np_op k48 rfl rfl
theorem e48_5un  {l0 l1 l2 l4 l5 l6 : Option Value} {st : List Value} {σ : nv_St} : np_X 48 5 [l0, l1, l2, none, l4, l5, l6] (.null :: st) σ = np_X 48 7 [l0, l1, l2, none, some .null, l5, l6] st σ := np_op k48 rfl rfl
theorem e48_5ui  {z : Int32} {l0 l1 l2 l4 l5 l6 : Option Value} {st : List Value} {σ : nv_St} : np_X 48 5 [l0, l1, l2, some (.int z), l4, l5, l6] (.null :: st) σ = np_X 48 7 [l0, l1, l2, some (.int z), some .null, l5, l6] st σ := np_op k48 rfl rfl
theorem e48_5ur  {z : Nat} {l0 l1 l2 l4 l5 l6 : Option Value} {st : List Value} {σ : nv_St} : np_X 48 5 [l0, l1, l2, some (.ref z), l4, l5, l6] (.null :: st) σ = np_X 48 7 [l0, l1, l2, some (.ref z), some .null, l5, l6] st σ := np_op k48 rfl rfl
theorem e48_5uv  {l0 l1 l2 l4 l5 l6 : Option Value} {st : List Value} {σ : nv_St} : np_X 48 5 [l0, l1, l2, some .null, l4, l5, l6] (.null :: st) σ = np_X 48 7 [l0, l1, l2, some .null, some .null, l5, l6] st σ := np_op k48 rfl rfl
theorem e48_7 (x : Nat) {l0 l1 l2 l3 l5 l6 : Option Value} {st : List Value} {σ : nv_St} : np_X 48 7 [l0, l1, l2, l3, some (.ref x), l5, l6] st σ = np_X 48 9 [l0, l1, l2, l3, some (.ref x), l5, l6] (.ref x :: st) σ := np_op k48 rfl rfl
theorem e48_7u  {l0 l1 l2 l3 l5 l6 : Option Value} {st : List Value} {σ : nv_St} : np_X 48 7 [l0, l1, l2, l3, some .null, l5, l6] st σ = np_X 48 9 [l0, l1, l2, l3, some .null, l5, l6] (.null :: st) σ := np_op k48 rfl rfl
theorem e48_9 {ls : nv_Ls} {st : List Value} {σ : nv_St} {a : Nat} (h : a < 1000000) : np_X 48 9 ls (.ref a :: st) σ = np_X 48 14 ls st σ := np_ifnonnull k48 rfl h
theorem e48_9u {ls : nv_Ls} {st : List Value} {σ : nv_St} : np_X 48 9 ls (.null :: st) σ = np_X 48 12 ls st σ := np_op k48 rfl rfl
theorem e48_12 {ls : nv_Ls} {st : List Value} {σ : nv_St} : np_X 48 12 ls st σ = np_X 48 13 ls (.int (-1) :: st) σ := np_op k48 rfl rfl
theorem e48_13 {ls : nv_Ls} {σ : nv_St} {x : Int32} : np_X 48 13 ls [.int x] σ = some (.inl (some (.int x)), σ) := np_reti k48 rfl rfl
theorem e48_14 (x : Nat) {l1 l2 l3 l4 l5 l6 : Option Value} {st : List Value} {σ : nv_St} : np_X 48 14 [some (.ref x), l1, l2, l3, l4, l5, l6] st σ = np_X 48 15 [some (.ref x), l1, l2, l3, l4, l5, l6] (.ref x :: st) σ := np_op k48 rfl rfl
theorem e48_14u  {l1 l2 l3 l4 l5 l6 : Option Value} {st : List Value} {σ : nv_St} : np_X 48 14 [some .null, l1, l2, l3, l4, l5, l6] st σ = np_X 48 15 [some .null, l1, l2, l3, l4, l5, l6] (.null :: st) σ := np_op k48 rfl rfl
theorem e48_15 (x : Nat) {l0 l1 l2 l3 l5 l6 : Option Value} {st : List Value} {σ : nv_St} : np_X 48 15 [l0, l1, l2, l3, some (.ref x), l5, l6] st σ = np_X 48 17 [l0, l1, l2, l3, some (.ref x), l5, l6] (.ref x :: st) σ := np_op k48 rfl rfl
theorem e48_15u  {l0 l1 l2 l3 l5 l6 : Option Value} {st : List Value} {σ : nv_St} : np_X 48 15 [l0, l1, l2, l3, some .null, l5, l6] st σ = np_X 48 17 [l0, l1, l2, l3, some .null, l5, l6] (.null :: st) σ := np_op k48 rfl rfl
theorem e48_17 (x : Int32) {l0 l1 l3 l4 l5 l6 : Option Value} {st : List Value} {σ : nv_St} : np_X 48 17 [l0, l1, some (.int x), l3, l4, l5, l6] st σ = np_X 48 18 [l0, l1, some (.int x), l3, l4, l5, l6] (.int x :: st) σ := np_op k48 rfl rfl
theorem e48_18 {ls : nv_Ls} {st : List Value} {σ : nv_St} : np_X 48 18 ls st σ = np_X 48 19 ls (.int (1) :: st) σ := np_op k48 rfl rfl
theorem e48_19 {ls : nv_Ls} {st : List Value} {σ : nv_St} {x y : Int32} : np_X 48 19 ls (.int y :: .int x :: st) σ = if x < y then np_X 48 31 ls st σ else np_X 48 22 ls st σ := np_br inferInstance k48 rfl rfl
theorem e48_22 (x : Int32) {l0 l1 l3 l4 l5 l6 : Option Value} {st : List Value} {σ : nv_St} : np_X 48 22 [l0, l1, some (.int x), l3, l4, l5, l6] st σ = np_X 48 23 [l0, l1, some (.int x), l3, l4, l5, l6] (.int x :: st) σ := np_op k48 rfl rfl
theorem e48_23 {ls : nv_Ls} {st : List Value} {σ : nv_St} : np_X 48 23 ls st σ = np_X 48 24 ls (.int (3) :: st) σ := np_op k48 rfl rfl
theorem e48_24 {ls : nv_Ls} {st : List Value} {σ : nv_St} {x y : Int32} : np_X 48 24 ls (.int y :: .int x :: st) σ = if y < x then np_X 48 31 ls st σ else np_X 48 27 ls st σ := np_br inferInstance k48 rfl rfl
theorem e48_27 {ls : nv_Ls} {st : List Value} {σ : nv_St} : np_X 48 27 ls st σ = np_X 48 28 ls (.int (1) :: st) σ := np_op k48 rfl rfl
theorem e48_28 {ls : nv_Ls} {st : List Value} {σ : nv_St} : np_X 48 28 ls st σ = np_X 48 32 ls st σ := np_op k48 rfl rfl
theorem e48_31 {ls : nv_Ls} {st : List Value} {σ : nv_St} : np_X 48 31 ls st σ = np_X 48 32 ls (.int (0) :: st) σ := np_op k48 rfl rfl
theorem e48_32 {ls : nv_Ls} {st : List Value} {σ : nv_St} {a : Nat} {x0 : Nat} {x1 : Int32} (h : st.length ≤ 4) (h0 : nv_isO σ 2 a = true) : np_X 48 32 ls (.int x1 :: .ref x0 :: .ref a :: st) σ = np_aft 48 32 35 ls st (np_X 55 0 [some (.ref a), some (.ref x0), some (.int x1)] [] σ) := np_call k48 rfl (Nat.le_add_left 3 _) rfl rfl h rfl h0 rfl
theorem e48_35n (x : Int32) {l0 l1 l2 l3 l5 l6 : Option Value} {st : List Value} {σ : nv_St} : np_X 48 35 [l0, l1, l2, l3, none, l5, l6] (.int x :: st) σ = np_X 48 37 [l0, l1, l2, l3, none, some (.int x), l6] st σ := np_op k48 rfl rfl
theorem e48_35i (x : Int32) {z : Int32} {l0 l1 l2 l3 l5 l6 : Option Value} {st : List Value} {σ : nv_St} : np_X 48 35 [l0, l1, l2, l3, some (.int z), l5, l6] (.int x :: st) σ = np_X 48 37 [l0, l1, l2, l3, some (.int z), some (.int x), l6] st σ := np_op k48 rfl rfl
theorem e48_35r (x : Int32) {z : Nat} {l0 l1 l2 l3 l5 l6 : Option Value} {st : List Value} {σ : nv_St} : np_X 48 35 [l0, l1, l2, l3, some (.ref z), l5, l6] (.int x :: st) σ = np_X 48 37 [l0, l1, l2, l3, some (.ref z), some (.int x), l6] st σ := np_op k48 rfl rfl
theorem e48_35v (x : Int32) {l0 l1 l2 l3 l5 l6 : Option Value} {st : List Value} {σ : nv_St} : np_X 48 35 [l0, l1, l2, l3, some .null, l5, l6] (.int x :: st) σ = np_X 48 37 [l0, l1, l2, l3, some .null, some (.int x), l6] st σ := np_op k48 rfl rfl
theorem e48_37 (x : Int32) {l0 l1 l2 l3 l4 l6 : Option Value} {st : List Value} {σ : nv_St} : np_X 48 37 [l0, l1, l2, l3, l4, some (.int x), l6] st σ = np_X 48 39 [l0, l1, l2, l3, l4, some (.int x), l6] (.int x :: st) σ := np_op k48 rfl rfl
theorem e48_39 {ls : nv_Ls} {st : List Value} {σ : nv_St} {x : Int32} : np_X 48 39 ls (.int x :: st) σ = if x = 0 then np_X 48 45 ls st σ else np_X 48 42 ls st σ := np_br inferInstance k48 rfl rfl
theorem e48_42 (x : Int32) {l0 l1 l2 l3 l4 l6 : Option Value} {st : List Value} {σ : nv_St} : np_X 48 42 [l0, l1, l2, l3, l4, some (.int x), l6] st σ = np_X 48 44 [l0, l1, l2, l3, l4, some (.int x), l6] (.int x :: st) σ := np_op k48 rfl rfl
theorem e48_44 {ls : nv_Ls} {σ : nv_St} {x : Int32} : np_X 48 44 ls [.int x] σ = some (.inl (some (.int x)), σ) := np_reti k48 rfl rfl
theorem e48_45 (x : Int32) {l0 l1 l2 l4 l5 l6 : Option Value} {st : List Value} {σ : nv_St} : np_X 48 45 [l0, l1, l2, some (.int x), l4, l5, l6] st σ = np_X 48 46 [l0, l1, l2, some (.int x), l4, l5, l6] (.int x :: st) σ := np_op k48 rfl rfl
theorem e48_46 {ls : nv_Ls} {st : List Value} {σ : nv_St} {x : Int32} : np_X 48 46 ls (.int x :: st) σ = if x = 0 then np_X 48 60 ls st σ else np_X 48 49 ls st σ := np_br inferInstance k48 rfl rfl
theorem e48_49 (x : Nat) {l0 l1 l2 l3 l5 l6 : Option Value} {st : List Value} {σ : nv_St} : np_X 48 49 [l0, l1, l2, l3, some (.ref x), l5, l6] st σ = np_X 48 51 [l0, l1, l2, l3, some (.ref x), l5, l6] (.ref x :: st) σ := np_op k48 rfl rfl
theorem e48_49u  {l0 l1 l2 l3 l5 l6 : Option Value} {st : List Value} {σ : nv_St} : np_X 48 49 [l0, l1, l2, l3, some .null, l5, l6] st σ = np_X 48 51 [l0, l1, l2, l3, some .null, l5, l6] (.null :: st) σ := np_op k48 rfl rfl
theorem e48_51 {ls : nv_Ls} {st : List Value} {σ : nv_St} {a : Nat} : np_X 48 51 ls (.ref a :: st) σ = np_b (nv_fld σ 4 6 a) (fun v => np_X 48 54 ls (v :: st) σ) := np_get k48 rfl
theorem e48_54 {ls : nv_Ls} {st : List Value} {σ : nv_St} {x : Int32} : np_X 48 54 ls (.int x :: st) σ = if x = 0 then np_X 48 57 ls st σ else np_X 48 60 ls st σ := np_br inferInstance k48 rfl rfl
theorem e48_57 {ls : nv_Ls} {st : List Value} {σ : nv_St} : np_X 48 57 ls st σ = np_X 48 59 ls (.int (-12) :: st) σ := np_op k48 rfl rfl
theorem e48_59 {ls : nv_Ls} {σ : nv_St} {x : Int32} : np_X 48 59 ls [.int x] σ = some (.inl (some (.int x)), σ) := np_reti k48 rfl rfl
theorem e48_60 (x : Int32) {l0 l1 l3 l4 l5 l6 : Option Value} {st : List Value} {σ : nv_St} : np_X 48 60 [l0, l1, some (.int x), l3, l4, l5, l6] st σ = np_X 48 61 [l0, l1, some (.int x), l3, l4, l5, l6] (.int x :: st) σ := np_op k48 rfl rfl
theorem e48_61 (x : Nat) {l1 l2 l3 l4 l5 l6 : Option Value} {st : List Value} {σ : nv_St} : np_X 48 61 [some (.ref x), l1, l2, l3, l4, l5, l6] st σ = np_X 48 62 [some (.ref x), l1, l2, l3, l4, l5, l6] (.ref x :: st) σ := np_op k48 rfl rfl
theorem e48_61u  {l1 l2 l3 l4 l5 l6 : Option Value} {st : List Value} {σ : nv_St} : np_X 48 61 [some .null, l1, l2, l3, l4, l5, l6] st σ = np_X 48 62 [some .null, l1, l2, l3, l4, l5, l6] (.null :: st) σ := np_op k48 rfl rfl
theorem e48_62 (x : Nat) {l0 l1 l2 l3 l5 l6 : Option Value} {st : List Value} {σ : nv_St} : np_X 48 62 [l0, l1, l2, l3, some (.ref x), l5, l6] st σ = np_X 48 64 [l0, l1, l2, l3, some (.ref x), l5, l6] (.ref x :: st) σ := np_op k48 rfl rfl
theorem e48_62u  {l0 l1 l2 l3 l5 l6 : Option Value} {st : List Value} {σ : nv_St} : np_X 48 62 [l0, l1, l2, l3, some .null, l5, l6] st σ = np_X 48 64 [l0, l1, l2, l3, some .null, l5, l6] (.null :: st) σ := np_op k48 rfl rfl
theorem e48_64 {ls : nv_Ls} {st : List Value} {σ : nv_St} {a : Nat} {x0 : Nat} (h : st.length ≤ 4) (h0 : nv_isO σ 2 a = true) : np_X 48 64 ls (.ref x0 :: .ref a :: st) σ = np_aft 48 64 67 ls st (np_X 38 0 [some (.ref a), some (.ref x0), none, none, none] [] σ) := np_call k48 rfl (Nat.le_add_left 2 _) rfl rfl h rfl h0 rfl
theorem e48_67 {ls : nv_Ls} {st : List Value} {σ : nv_St} {x y : Int32} (h : st.length ≤ 4) : np_X 48 67 ls (.int y :: .int x :: st) σ = np_X 48 70 ls (.int (if y < x then y else x) :: st) σ := np_min k48 rfl h
theorem e48_70n (x : Int32) {l0 l1 l2 l3 l4 l6 : Option Value} {st : List Value} {σ : nv_St} : np_X 48 70 [l0, l1, l2, l3, l4, none, l6] (.int x :: st) σ = np_X 48 72 [l0, l1, l2, l3, l4, none, some (.int x)] st σ := np_op k48 rfl rfl
theorem e48_70i (x : Int32) {z : Int32} {l0 l1 l2 l3 l4 l6 : Option Value} {st : List Value} {σ : nv_St} : np_X 48 70 [l0, l1, l2, l3, l4, some (.int z), l6] (.int x :: st) σ = np_X 48 72 [l0, l1, l2, l3, l4, some (.int z), some (.int x)] st σ := np_op k48 rfl rfl
theorem e48_70r (x : Int32) {z : Nat} {l0 l1 l2 l3 l4 l6 : Option Value} {st : List Value} {σ : nv_St} : np_X 48 70 [l0, l1, l2, l3, l4, some (.ref z), l6] (.int x :: st) σ = np_X 48 72 [l0, l1, l2, l3, l4, some (.ref z), some (.int x)] st σ := np_op k48 rfl rfl
theorem e48_70v (x : Int32) {l0 l1 l2 l3 l4 l6 : Option Value} {st : List Value} {σ : nv_St} : np_X 48 70 [l0, l1, l2, l3, l4, some .null, l6] (.int x :: st) σ = np_X 48 72 [l0, l1, l2, l3, l4, some .null, some (.int x)] st σ := np_op k48 rfl rfl
theorem e48_72 (x : Int32) {l0 l1 l2 l3 l4 l5 : Option Value} {st : List Value} {σ : nv_St} : np_X 48 72 [l0, l1, l2, l3, l4, l5, some (.int x)] st σ = np_X 48 74 [l0, l1, l2, l3, l4, l5, some (.int x)] (.int x :: st) σ := np_op k48 rfl rfl
theorem e48_74 {ls : nv_Ls} {st : List Value} {σ : nv_St} {x : Int32} : np_X 48 74 ls (.int x :: st) σ = if x = 0 then np_X 48 77 ls st σ else np_X 48 80 ls st σ := np_br inferInstance k48 rfl rfl
theorem e48_77 {ls : nv_Ls} {st : List Value} {σ : nv_St} : np_X 48 77 ls st σ = np_X 48 79 ls (.int (-13) :: st) σ := np_op k48 rfl rfl
theorem e48_79 {ls : nv_Ls} {σ : nv_St} {x : Int32} : np_X 48 79 ls [.int x] σ = some (.inl (some (.int x)), σ) := np_reti k48 rfl rfl
theorem e48_80 (x : Nat) {l0 l1 l2 l3 l5 l6 : Option Value} {st : List Value} {σ : nv_St} : np_X 48 80 [l0, l1, l2, l3, some (.ref x), l5, l6] st σ = np_X 48 82 [l0, l1, l2, l3, some (.ref x), l5, l6] (.ref x :: st) σ := np_op k48 rfl rfl
theorem e48_80u  {l0 l1 l2 l3 l5 l6 : Option Value} {st : List Value} {σ : nv_St} : np_X 48 80 [l0, l1, l2, l3, some .null, l5, l6] st σ = np_X 48 82 [l0, l1, l2, l3, some .null, l5, l6] (.null :: st) σ := np_op k48 rfl rfl
theorem e48_82 {ls : nv_Ls} {st : List Value} {σ : nv_St} {x : Nat} : np_X 48 82 ls (.ref x :: st) σ = np_X 48 83 ls (.ref x :: .ref x :: st) σ := np_op k48 rfl rfl
theorem e48_82i {ls : nv_Ls} {st : List Value} {σ : nv_St} {x : Int32} : np_X 48 82 ls (.int x :: st) σ = np_X 48 83 ls (.int x :: .int x :: st) σ := np_op k48 rfl rfl
theorem e48_83 {ls : nv_Ls} {st : List Value} {σ : nv_St} {a : Nat} : np_X 48 83 ls (.ref a :: st) σ = np_b (nv_fld σ 4 2 a) (fun v => np_X 48 86 ls (v :: st) σ) := np_get k48 rfl
theorem e48_86 (x : Int32) {l0 l1 l2 l3 l4 l5 : Option Value} {st : List Value} {σ : nv_St} : np_X 48 86 [l0, l1, l2, l3, l4, l5, some (.int x)] st σ = np_X 48 88 [l0, l1, l2, l3, l4, l5, some (.int x)] (.int x :: st) σ := np_op k48 rfl rfl
theorem e48_88 (x : Nat) {l0 l1 l2 l3 l5 l6 : Option Value} {st : List Value} {σ : nv_St} : np_X 48 88 [l0, l1, l2, l3, some (.ref x), l5, l6] st σ = np_X 48 90 [l0, l1, l2, l3, some (.ref x), l5, l6] (.ref x :: st) σ := np_op k48 rfl rfl
theorem e48_88u  {l0 l1 l2 l3 l5 l6 : Option Value} {st : List Value} {σ : nv_St} : np_X 48 88 [l0, l1, l2, l3, some .null, l5, l6] st σ = np_X 48 90 [l0, l1, l2, l3, some .null, l5, l6] (.null :: st) σ := np_op k48 rfl rfl
theorem e48_90 {ls : nv_Ls} {st : List Value} {σ : nv_St} {a : Nat} : np_X 48 90 ls (.ref a :: st) σ = np_b (nv_fld σ 4 4 a) (fun v => np_X 48 93 ls (v :: st) σ) := np_get k48 rfl
theorem e48_93 {ls : nv_Ls} {st : List Value} {σ : nv_St}  {x0 : Int32} (h : st.length ≤ 4) : np_X 48 93 ls (.int x0 :: st) σ = np_aft 48 93 96 ls st (np_X 136 0 [some (.int x0)] [] σ) := np_call k48 rfl (Nat.le_add_left 1 _) rfl rfl h rfl rfl rfl
theorem e48_96 {ls : nv_Ls} {st : List Value} {σ : nv_St} {x y : Int32} : np_X 48 96 ls (.int y :: .int x :: st) σ = np_X 48 97 ls (.int (x * y) :: st) σ := np_op k48 rfl rfl
theorem e48_97 {ls : nv_Ls} {st : List Value} {σ : nv_St} {x y : Int32} : np_X 48 97 ls (.int y :: .int x :: st) σ = np_X 48 98 ls (.int (x + y) :: st) σ := np_op k48 rfl rfl
theorem e48_98 {ls : nv_Ls} {st : List Value} {σ : nv_St} {a : Nat} {v : Value} : np_X 48 98 ls (v :: .ref a :: st) σ = np_b (nv_sto σ 4 2 .int a v) (fun σ' => np_X 48 101 ls st σ') := np_put k48 rfl
theorem e48_101 (x : Nat) {l0 l1 l2 l3 l5 l6 : Option Value} {st : List Value} {σ : nv_St} : np_X 48 101 [l0, l1, l2, l3, some (.ref x), l5, l6] st σ = np_X 48 103 [l0, l1, l2, l3, some (.ref x), l5, l6] (.ref x :: st) σ := np_op k48 rfl rfl
theorem e48_101u  {l0 l1 l2 l3 l5 l6 : Option Value} {st : List Value} {σ : nv_St} : np_X 48 101 [l0, l1, l2, l3, some .null, l5, l6] st σ = np_X 48 103 [l0, l1, l2, l3, some .null, l5, l6] (.null :: st) σ := np_op k48 rfl rfl
theorem e48_103 {ls : nv_Ls} {st : List Value} {σ : nv_St} {x : Nat} : np_X 48 103 ls (.ref x :: st) σ = np_X 48 104 ls (.ref x :: .ref x :: st) σ := np_op k48 rfl rfl
theorem e48_103i {ls : nv_Ls} {st : List Value} {σ : nv_St} {x : Int32} : np_X 48 103 ls (.int x :: st) σ = np_X 48 104 ls (.int x :: .int x :: st) σ := np_op k48 rfl rfl
theorem e48_104 {ls : nv_Ls} {st : List Value} {σ : nv_St} {a : Nat} : np_X 48 104 ls (.ref a :: st) σ = np_b (nv_fld σ 4 3 a) (fun v => np_X 48 107 ls (v :: st) σ) := np_get k48 rfl
theorem e48_107 (x : Int32) {l0 l1 l2 l3 l4 l5 : Option Value} {st : List Value} {σ : nv_St} : np_X 48 107 [l0, l1, l2, l3, l4, l5, some (.int x)] st σ = np_X 48 109 [l0, l1, l2, l3, l4, l5, some (.int x)] (.int x :: st) σ := np_op k48 rfl rfl
theorem e48_109 (x : Nat) {l0 l1 l2 l3 l5 l6 : Option Value} {st : List Value} {σ : nv_St} : np_X 48 109 [l0, l1, l2, l3, some (.ref x), l5, l6] st σ = np_X 48 111 [l0, l1, l2, l3, some (.ref x), l5, l6] (.ref x :: st) σ := np_op k48 rfl rfl
theorem e48_109u  {l0 l1 l2 l3 l5 l6 : Option Value} {st : List Value} {σ : nv_St} : np_X 48 109 [l0, l1, l2, l3, some .null, l5, l6] st σ = np_X 48 111 [l0, l1, l2, l3, some .null, l5, l6] (.null :: st) σ := np_op k48 rfl rfl
theorem e48_111 {ls : nv_Ls} {st : List Value} {σ : nv_St} {a : Nat} : np_X 48 111 ls (.ref a :: st) σ = np_b (nv_fld σ 4 4 a) (fun v => np_X 48 114 ls (v :: st) σ) := np_get k48 rfl
theorem e48_114 {ls : nv_Ls} {st : List Value} {σ : nv_St}  {x0 : Int32} (h : st.length ≤ 4) : np_X 48 114 ls (.int x0 :: st) σ = np_aft 48 114 117 ls st (np_X 137 0 [some (.int x0)] [] σ) := np_call k48 rfl (Nat.le_add_left 1 _) rfl rfl h rfl rfl rfl
theorem e48_117 {ls : nv_Ls} {st : List Value} {σ : nv_St} {x y : Int32} : np_X 48 117 ls (.int y :: .int x :: st) σ = np_X 48 118 ls (.int (x * y) :: st) σ := np_op k48 rfl rfl
theorem e48_118 {ls : nv_Ls} {st : List Value} {σ : nv_St} {x y : Int32} : np_X 48 118 ls (.int y :: .int x :: st) σ = np_X 48 119 ls (.int (x + y) :: st) σ := np_op k48 rfl rfl
theorem e48_119 {ls : nv_Ls} {st : List Value} {σ : nv_St} {a : Nat} {v : Value} : np_X 48 119 ls (v :: .ref a :: st) σ = np_b (nv_sto σ 4 3 .int a v) (fun σ' => np_X 48 122 ls st σ') := np_put k48 rfl
theorem e48_122 (x : Nat) {l1 l2 l3 l4 l5 l6 : Option Value} {st : List Value} {σ : nv_St} : np_X 48 122 [some (.ref x), l1, l2, l3, l4, l5, l6] st σ = np_X 48 123 [some (.ref x), l1, l2, l3, l4, l5, l6] (.ref x :: st) σ := np_op k48 rfl rfl
theorem e48_122u  {l1 l2 l3 l4 l5 l6 : Option Value} {st : List Value} {σ : nv_St} : np_X 48 122 [some .null, l1, l2, l3, l4, l5, l6] st σ = np_X 48 123 [some .null, l1, l2, l3, l4, l5, l6] (.null :: st) σ := np_op k48 rfl rfl
theorem e48_123 {ls : nv_Ls} {st : List Value} {σ : nv_St} {x : Nat} : np_X 48 123 ls (.ref x :: st) σ = np_X 48 124 ls (.ref x :: .ref x :: st) σ := np_op k48 rfl rfl
theorem e48_123i {ls : nv_Ls} {st : List Value} {σ : nv_St} {x : Int32} : np_X 48 123 ls (.int x :: st) σ = np_X 48 124 ls (.int x :: .int x :: st) σ := np_op k48 rfl rfl
theorem e48_124 {ls : nv_Ls} {st : List Value} {σ : nv_St} {a : Nat} : np_X 48 124 ls (.ref a :: st) σ = np_b (nv_fld σ 2 10 a) (fun v => np_X 48 127 ls (v :: st) σ) := np_get k48 rfl
theorem e48_127 (x : Int32) {l0 l1 l2 l3 l4 l5 : Option Value} {st : List Value} {σ : nv_St} : np_X 48 127 [l0, l1, l2, l3, l4, l5, some (.int x)] st σ = np_X 48 129 [l0, l1, l2, l3, l4, l5, some (.int x)] (.int x :: st) σ := np_op k48 rfl rfl
theorem e48_129 {ls : nv_Ls} {st : List Value} {σ : nv_St} {x : Int32} : np_X 48 129 ls (.int x :: st) σ = np_X 48 130 ls (.long x.toInt64 :: st) σ := np_op k48 rfl rfl
theorem e48_130 {ls : nv_Ls} {st : List Value} {σ : nv_St} {x y : Int64} : np_X 48 130 ls (.long y :: .long x :: st) σ = np_X 48 131 ls (.long (x + y) :: st) σ := np_op k48 rfl rfl
theorem e48_131 {ls : nv_Ls} {st : List Value} {σ : nv_St} {a : Nat} {v : Value} : np_X 48 131 ls (v :: .ref a :: st) σ = np_b (nv_sto σ 2 10 .long a v) (fun σ' => np_X 48 134 ls st σ') := np_put k48 rfl
theorem e48_134 (x : Nat) {l1 l2 l3 l4 l5 l6 : Option Value} {st : List Value} {σ : nv_St} : np_X 48 134 [some (.ref x), l1, l2, l3, l4, l5, l6] st σ = np_X 48 135 [some (.ref x), l1, l2, l3, l4, l5, l6] (.ref x :: st) σ := np_op k48 rfl rfl
theorem e48_134u  {l1 l2 l3 l4 l5 l6 : Option Value} {st : List Value} {σ : nv_St} : np_X 48 134 [some .null, l1, l2, l3, l4, l5, l6] st σ = np_X 48 135 [some .null, l1, l2, l3, l4, l5, l6] (.null :: st) σ := np_op k48 rfl rfl
theorem e48_135 {ls : nv_Ls} {st : List Value} {σ : nv_St} {x : Nat} : np_X 48 135 ls (.ref x :: st) σ = np_X 48 136 ls (.ref x :: .ref x :: st) σ := np_op k48 rfl rfl
theorem e48_135i {ls : nv_Ls} {st : List Value} {σ : nv_St} {x : Int32} : np_X 48 135 ls (.int x :: st) σ = np_X 48 136 ls (.int x :: .int x :: st) σ := np_op k48 rfl rfl
theorem e48_136 {ls : nv_Ls} {st : List Value} {σ : nv_St} {a : Nat} : np_X 48 136 ls (.ref a :: st) σ = np_b (nv_fld σ 2 6 a) (fun v => np_X 48 139 ls (v :: st) σ) := np_get k48 rfl
theorem e48_139 {ls : nv_Ls} {st : List Value} {σ : nv_St} : np_X 48 139 ls st σ = np_X 48 140 ls (.int (1) :: st) σ := np_op k48 rfl rfl
theorem e48_140 {ls : nv_Ls} {st : List Value} {σ : nv_St} {x y : Int32} : np_X 48 140 ls (.int y :: .int x :: st) σ = np_X 48 141 ls (.int (x - y) :: st) σ := np_op k48 rfl rfl
theorem e48_141 {ls : nv_Ls} {st : List Value} {σ : nv_St} {a : Nat} {v : Value} : np_X 48 141 ls (v :: .ref a :: st) σ = np_b (nv_sto σ 2 6 .int a v) (fun σ' => np_X 48 144 ls st σ') := np_put k48 rfl
theorem e48_144 (x : Int32) {l0 l1 l2 l4 l5 l6 : Option Value} {st : List Value} {σ : nv_St} : np_X 48 144 [l0, l1, l2, some (.int x), l4, l5, l6] st σ = np_X 48 145 [l0, l1, l2, some (.int x), l4, l5, l6] (.int x :: st) σ := np_op k48 rfl rfl
theorem e48_145 {ls : nv_Ls} {st : List Value} {σ : nv_St} {x : Int32} : np_X 48 145 ls (.int x :: st) σ = if x = 0 then np_X 48 157 ls st σ else np_X 48 148 ls st σ := np_br inferInstance k48 rfl rfl
theorem e48_148 (x : Nat) {l1 l2 l3 l4 l5 l6 : Option Value} {st : List Value} {σ : nv_St} : np_X 48 148 [some (.ref x), l1, l2, l3, l4, l5, l6] st σ = np_X 48 149 [some (.ref x), l1, l2, l3, l4, l5, l6] (.ref x :: st) σ := np_op k48 rfl rfl
theorem e48_148u  {l1 l2 l3 l4 l5 l6 : Option Value} {st : List Value} {σ : nv_St} : np_X 48 148 [some .null, l1, l2, l3, l4, l5, l6] st σ = np_X 48 149 [some .null, l1, l2, l3, l4, l5, l6] (.null :: st) σ := np_op k48 rfl rfl
theorem e48_149 (x : Nat) {l0 l1 l2 l3 l5 l6 : Option Value} {st : List Value} {σ : nv_St} : np_X 48 149 [l0, l1, l2, l3, some (.ref x), l5, l6] st σ = np_X 48 151 [l0, l1, l2, l3, some (.ref x), l5, l6] (.ref x :: st) σ := np_op k48 rfl rfl
theorem e48_149u  {l0 l1 l2 l3 l5 l6 : Option Value} {st : List Value} {σ : nv_St} : np_X 48 149 [l0, l1, l2, l3, some .null, l5, l6] st σ = np_X 48 151 [l0, l1, l2, l3, some .null, l5, l6] (.null :: st) σ := np_op k48 rfl rfl
theorem e48_151 {ls : nv_Ls} {st : List Value} {σ : nv_St} {a : Nat} {x0 : Nat} (h : st.length ≤ 4) (h0 : nv_isO σ 2 a = true) : np_X 48 151 ls (.ref x0 :: .ref a :: st) σ = np_aft 48 151 154 ls st (np_X 49 0 [some (.ref a), some (.ref x0)] [] σ) := np_call k48 rfl (Nat.le_add_left 2 _) rfl rfl h rfl h0 rfl
theorem e48_154 {ls : nv_Ls} {st : List Value} {σ : nv_St} : np_X 48 154 ls st σ = np_X 48 162 ls st σ := np_op k48 rfl rfl
theorem e48_157 (x : Nat) {l0 l1 l2 l3 l5 l6 : Option Value} {st : List Value} {σ : nv_St} : np_X 48 157 [l0, l1, l2, l3, some (.ref x), l5, l6] st σ = np_X 48 159 [l0, l1, l2, l3, some (.ref x), l5, l6] (.ref x :: st) σ := np_op k48 rfl rfl
theorem e48_157u  {l0 l1 l2 l3 l5 l6 : Option Value} {st : List Value} {σ : nv_St} : np_X 48 157 [l0, l1, l2, l3, some .null, l5, l6] st σ = np_X 48 159 [l0, l1, l2, l3, some .null, l5, l6] (.null :: st) σ := np_op k48 rfl rfl
theorem e48_159 {ls : nv_Ls} {st : List Value} {σ : nv_St} {a : Nat}  (h : st.length ≤ 4) (h0 : nv_isO σ 4 a = true) : np_X 48 159 ls (.ref a :: st) σ = np_aft 48 159 162 ls st (np_X 68 0 [some (.ref a)] [] σ) := np_call k48 rfl (Nat.le_add_left 1 _) rfl rfl h rfl h0 rfl
theorem e48_162 (x : Nat) {l1 l2 l3 l4 l5 l6 : Option Value} {st : List Value} {σ : nv_St} : np_X 48 162 [some (.ref x), l1, l2, l3, l4, l5, l6] st σ = np_X 48 163 [some (.ref x), l1, l2, l3, l4, l5, l6] (.ref x :: st) σ := np_op k48 rfl rfl
theorem e48_162u  {l1 l2 l3 l4 l5 l6 : Option Value} {st : List Value} {σ : nv_St} : np_X 48 162 [some .null, l1, l2, l3, l4, l5, l6] st σ = np_X 48 163 [some .null, l1, l2, l3, l4, l5, l6] (.null :: st) σ := np_op k48 rfl rfl
theorem e48_163 {ls : nv_Ls} {st : List Value} {σ : nv_St} {a : Nat}  (h : st.length ≤ 4) (h0 : nv_isO σ 2 a = true) : np_X 48 163 ls (.ref a :: st) σ = np_aft 48 163 166 ls st (np_X 50 0 [some (.ref a), none, none, none, none] [] σ) := np_call k48 rfl (Nat.le_add_left 1 _) rfl rfl h rfl h0 rfl
theorem e48_166 (x : Int32) {l0 l1 l2 l3 l4 l5 : Option Value} {st : List Value} {σ : nv_St} : np_X 48 166 [l0, l1, l2, l3, l4, l5, some (.int x)] st σ = np_X 48 168 [l0, l1, l2, l3, l4, l5, some (.int x)] (.int x :: st) σ := np_op k48 rfl rfl
theorem e48_168 {ls : nv_Ls} {σ : nv_St} {x : Int32} : np_X 48 168 ls [.int x] σ = some (.inl (some (.int x)), σ) := np_reti k48 rfl rfl
-- 49 SpoonNavy$Game.payForSecret
theorem k49 : np_P.1 49 = np_c49 := rfl
theorem e49_0 (x : Nat) {l0 : Option Value} {st : List Value} {σ : nv_St} : np_X 49 0 [l0, some (.ref x)] st σ = np_X 49 1 [l0, some (.ref x)] (.ref x :: st) σ := np_op k49 rfl rfl
theorem e49_0u  {l0 : Option Value} {st : List Value} {σ : nv_St} : np_X 49 0 [l0, some .null] st σ = np_X 49 1 [l0, some .null] (.null :: st) σ := np_op k49 rfl rfl
theorem e49_1 {ls : nv_Ls} {st : List Value} {σ : nv_St} {x : Nat} : np_X 49 1 ls (.ref x :: st) σ = np_X 49 2 ls (.ref x :: .ref x :: st) σ := np_op k49 rfl rfl
theorem e49_1i {ls : nv_Ls} {st : List Value} {σ : nv_St} {x : Int32} : np_X 49 1 ls (.int x :: st) σ = np_X 49 2 ls (.int x :: .int x :: st) σ := np_op k49 rfl rfl
theorem e49_2 {ls : nv_Ls} {st : List Value} {σ : nv_St} {a : Nat} : np_X 49 2 ls (.ref a :: st) σ = np_b (nv_fld σ 4 6 a) (fun v => np_X 49 5 ls (v :: st) σ) := np_get k49 rfl
theorem e49_5 {ls : nv_Ls} {st : List Value} {σ : nv_St} : np_X 49 5 ls st σ = np_X 49 6 ls (.int (1) :: st) σ := np_op k49 rfl rfl
theorem e49_6 {ls : nv_Ls} {st : List Value} {σ : nv_St} {x y : Int32} : np_X 49 6 ls (.int y :: .int x :: st) σ = np_X 49 7 ls (.int (x - y) :: st) σ := np_op k49 rfl rfl
theorem e49_7 {ls : nv_Ls} {st : List Value} {σ : nv_St} {a : Nat} {v : Value} : np_X 49 7 ls (v :: .ref a :: st) σ = np_b (nv_sto σ 4 6 .int a v) (fun σ' => np_X 49 10 ls st σ') := np_put k49 rfl
theorem e49_10 (x : Nat) {l1 : Option Value} {st : List Value} {σ : nv_St} : np_X 49 10 [some (.ref x), l1] st σ = np_X 49 11 [some (.ref x), l1] (.ref x :: st) σ := np_op k49 rfl rfl
theorem e49_10u  {l1 : Option Value} {st : List Value} {σ : nv_St} : np_X 49 10 [some .null, l1] st σ = np_X 49 11 [some .null, l1] (.null :: st) σ := np_op k49 rfl rfl
theorem e49_11 (x : Nat) {l0 : Option Value} {st : List Value} {σ : nv_St} : np_X 49 11 [l0, some (.ref x)] st σ = np_X 49 12 [l0, some (.ref x)] (.ref x :: st) σ := np_op k49 rfl rfl
theorem e49_11u  {l0 : Option Value} {st : List Value} {σ : nv_St} : np_X 49 11 [l0, some .null] st σ = np_X 49 12 [l0, some .null] (.null :: st) σ := np_op k49 rfl rfl
theorem e49_12 {ls : nv_Ls} {st : List Value} {σ : nv_St} {a : Nat} : np_X 49 12 ls (.ref a :: st) σ = np_b (nv_fld σ 4 1 a) (fun v => np_X 49 15 ls (v :: st) σ) := np_get k49 rfl
theorem e49_15 {ls : nv_Ls} {st : List Value} {σ : nv_St} {a : Nat} {x0 : Int32} (h : st.length ≤ 4) (h0 : nv_isO σ 2 a = true) : np_X 49 15 ls (.int x0 :: .ref a :: st) σ = np_aft 49 15 18 ls st (np_X 29 0 [some (.ref a), some (.int x0)] [] σ) := np_call k49 rfl (Nat.le_add_left 2 _) rfl rfl h rfl h0 rfl
theorem e49_18 {ls : nv_Ls} {st : List Value} {σ : nv_St} {x : Nat} : np_X 49 18 ls (.ref x :: st) σ = np_X 49 19 ls (.ref x :: .ref x :: st) σ := np_op k49 rfl rfl
theorem e49_18i {ls : nv_Ls} {st : List Value} {σ : nv_St} {x : Int32} : np_X 49 18 ls (.int x :: st) σ = np_X 49 19 ls (.int x :: .int x :: st) σ := np_op k49 rfl rfl
theorem e49_19 {ls : nv_Ls} {st : List Value} {σ : nv_St} {a : Nat} : np_X 49 19 ls (.ref a :: st) σ = np_b (nv_fld σ 0 6 a) (fun v => np_X 49 22 ls (v :: st) σ) := np_get k49 rfl
theorem e49_22 {ls : nv_Ls} {st : List Value} {σ : nv_St} : np_X 49 22 ls st σ = np_X 49 23 ls (.int (1) :: st) σ := np_op k49 rfl rfl
theorem e49_23 {ls : nv_Ls} {st : List Value} {σ : nv_St} {x y : Int32} : np_X 49 23 ls (.int y :: .int x :: st) σ = np_X 49 24 ls (.int (x + y) :: st) σ := np_op k49 rfl rfl
theorem e49_24 {ls : nv_Ls} {st : List Value} {σ : nv_St} {a : Nat} {v : Value} : np_X 49 24 ls (v :: .ref a :: st) σ = np_b (nv_sto σ 0 6 .int a v) (fun σ' => np_X 49 27 ls st σ') := np_put k49 rfl
theorem e49_27 (x : Nat) {l1 : Option Value} {st : List Value} {σ : nv_St} : np_X 49 27 [some (.ref x), l1] st σ = np_X 49 28 [some (.ref x), l1] (.ref x :: st) σ := np_op k49 rfl rfl
theorem e49_27u  {l1 : Option Value} {st : List Value} {σ : nv_St} : np_X 49 27 [some .null, l1] st σ = np_X 49 28 [some .null, l1] (.null :: st) σ := np_op k49 rfl rfl
theorem e49_28 {ls : nv_Ls} {st : List Value} {σ : nv_St} {x : Nat} : np_X 49 28 ls (.ref x :: st) σ = np_X 49 29 ls (.ref x :: .ref x :: st) σ := np_op k49 rfl rfl
theorem e49_28i {ls : nv_Ls} {st : List Value} {σ : nv_St} {x : Int32} : np_X 49 28 ls (.int x :: st) σ = np_X 49 29 ls (.int x :: .int x :: st) σ := np_op k49 rfl rfl
theorem e49_29 {ls : nv_Ls} {st : List Value} {σ : nv_St} {a : Nat} : np_X 49 29 ls (.ref a :: st) σ = np_b (nv_fld σ 2 11 a) (fun v => np_X 49 32 ls (v :: st) σ) := np_get k49 rfl
theorem e49_32 {ls : nv_Ls} {st : List Value} {σ : nv_St} : np_X 49 32 ls st σ = np_X 49 33 ls (.int (1) :: st) σ := np_op k49 rfl rfl
theorem e49_33 {ls : nv_Ls} {st : List Value} {σ : nv_St} {x y : Int32} : np_X 49 33 ls (.int y :: .int x :: st) σ = np_X 49 34 ls (.int (x + y) :: st) σ := np_op k49 rfl rfl
theorem e49_34 {ls : nv_Ls} {st : List Value} {σ : nv_St} {a : Nat} {v : Value} : np_X 49 34 ls (v :: .ref a :: st) σ = np_b (nv_sto σ 2 11 .int a v) (fun σ' => np_X 49 37 ls st σ') := np_put k49 rfl
theorem e49_37 {ls : nv_Ls} {σ : nv_St} : np_X 49 37 ls [] σ = some (.inl none, σ) := np_ret k49 rfl rfl
-- 50 SpoonNavy$Game.discover
theorem k50 : np_P.1 50 = np_c50 := rfl
theorem e50_0 (x : Nat) {l1 l2 l3 l4 : Option Value} {st : List Value} {σ : nv_St} : np_X 50 0 [some (.ref x), l1, l2, l3, l4] st σ = np_X 50 1 [some (.ref x), l1, l2, l3, l4] (.ref x :: st) σ := np_op k50 rfl rfl
theorem e50_0u  {l1 l2 l3 l4 : Option Value} {st : List Value} {σ : nv_St} : np_X 50 0 [some .null, l1, l2, l3, l4] st σ = np_X 50 1 [some .null, l1, l2, l3, l4] (.null :: st) σ := np_op k50 rfl rfl
theorem e50_1 {ls : nv_Ls} {st : List Value} {σ : nv_St} {a : Nat} : np_X 50 1 ls (.ref a :: st) σ = np_b (nv_fld σ 2 0 a) (fun v => np_X 50 4 ls (v :: st) σ) := np_get k50 rfl
theorem e50_4n (x : Nat) {l1 l2 l3 l4 : Option Value} {st : List Value} {σ : nv_St} : np_X 50 4 [none, l1, l2, l3, l4] (.ref x :: st) σ = np_X 50 5 [none, some (.ref x), l2, l3, l4] st σ := np_op k50 rfl rfl
theorem e50_4i (x : Nat) {z : Int32} {l1 l2 l3 l4 : Option Value} {st : List Value} {σ : nv_St} : np_X 50 4 [some (.int z), l1, l2, l3, l4] (.ref x :: st) σ = np_X 50 5 [some (.int z), some (.ref x), l2, l3, l4] st σ := np_op k50 rfl rfl
theorem e50_4r (x : Nat) {z : Nat} {l1 l2 l3 l4 : Option Value} {st : List Value} {σ : nv_St} : np_X 50 4 [some (.ref z), l1, l2, l3, l4] (.ref x :: st) σ = np_X 50 5 [some (.ref z), some (.ref x), l2, l3, l4] st σ := np_op k50 rfl rfl
theorem e50_4v (x : Nat) {l1 l2 l3 l4 : Option Value} {st : List Value} {σ : nv_St} : np_X 50 4 [some .null, l1, l2, l3, l4] (.ref x :: st) σ = np_X 50 5 [some .null, some (.ref x), l2, l3, l4] st σ := np_op k50 rfl rfl
theorem e50_4un  {l1 l2 l3 l4 : Option Value} {st : List Value} {σ : nv_St} : np_X 50 4 [none, l1, l2, l3, l4] (.null :: st) σ = np_X 50 5 [none, some .null, l2, l3, l4] st σ := np_op k50 rfl rfl
theorem e50_4ui  {z : Int32} {l1 l2 l3 l4 : Option Value} {st : List Value} {σ : nv_St} : np_X 50 4 [some (.int z), l1, l2, l3, l4] (.null :: st) σ = np_X 50 5 [some (.int z), some .null, l2, l3, l4] st σ := np_op k50 rfl rfl
theorem e50_4ur  {z : Nat} {l1 l2 l3 l4 : Option Value} {st : List Value} {σ : nv_St} : np_X 50 4 [some (.ref z), l1, l2, l3, l4] (.null :: st) σ = np_X 50 5 [some (.ref z), some .null, l2, l3, l4] st σ := np_op k50 rfl rfl
theorem e50_4uv  {l1 l2 l3 l4 : Option Value} {st : List Value} {σ : nv_St} : np_X 50 4 [some .null, l1, l2, l3, l4] (.null :: st) σ = np_X 50 5 [some .null, some .null, l2, l3, l4] st σ := np_op k50 rfl rfl
theorem e50_5 (x : Nat) {l0 l2 l3 l4 : Option Value} {st : List Value} {σ : nv_St} : np_X 50 5 [l0, some (.ref x), l2, l3, l4] st σ = np_X 50 6 [l0, some (.ref x), l2, l3, l4] (.ref x :: st) σ := np_op k50 rfl rfl
theorem e50_5u  {l0 l2 l3 l4 : Option Value} {st : List Value} {σ : nv_St} : np_X 50 5 [l0, some .null, l2, l3, l4] st σ = np_X 50 6 [l0, some .null, l2, l3, l4] (.null :: st) σ := np_op k50 rfl rfl
theorem e50_6 {ls : nv_Ls} {st : List Value} {σ : nv_St} {a : Nat} : np_X 50 6 ls (.ref a :: st) σ = np_b (nv_len σ 2 a) (fun m => np_X 50 7 ls (.int (Int32.ofNat m) :: st) σ) := np_alen k50 rfl
theorem e50_7n (x : Int32) {l0 l2 l3 l4 : Option Value} {st : List Value} {σ : nv_St} : np_X 50 7 [l0, none, l2, l3, l4] (.int x :: st) σ = np_X 50 8 [l0, none, some (.int x), l3, l4] st σ := np_op k50 rfl rfl
theorem e50_7i (x : Int32) {z : Int32} {l0 l2 l3 l4 : Option Value} {st : List Value} {σ : nv_St} : np_X 50 7 [l0, some (.int z), l2, l3, l4] (.int x :: st) σ = np_X 50 8 [l0, some (.int z), some (.int x), l3, l4] st σ := np_op k50 rfl rfl
theorem e50_7r (x : Int32) {z : Nat} {l0 l2 l3 l4 : Option Value} {st : List Value} {σ : nv_St} : np_X 50 7 [l0, some (.ref z), l2, l3, l4] (.int x :: st) σ = np_X 50 8 [l0, some (.ref z), some (.int x), l3, l4] st σ := np_op k50 rfl rfl
theorem e50_7v (x : Int32) {l0 l2 l3 l4 : Option Value} {st : List Value} {σ : nv_St} : np_X 50 7 [l0, some .null, l2, l3, l4] (.int x :: st) σ = np_X 50 8 [l0, some .null, some (.int x), l3, l4] st σ := np_op k50 rfl rfl
theorem e50_8 {ls : nv_Ls} {st : List Value} {σ : nv_St} : np_X 50 8 ls st σ = np_X 50 9 ls (.int (0) :: st) σ := np_op k50 rfl rfl
theorem e50_9n (x : Int32) {l0 l1 l3 l4 : Option Value} {st : List Value} {σ : nv_St} : np_X 50 9 [l0, l1, none, l3, l4] (.int x :: st) σ = np_X 50 10 [l0, l1, none, some (.int x), l4] st σ := np_op k50 rfl rfl
theorem e50_9i (x : Int32) {z : Int32} {l0 l1 l3 l4 : Option Value} {st : List Value} {σ : nv_St} : np_X 50 9 [l0, l1, some (.int z), l3, l4] (.int x :: st) σ = np_X 50 10 [l0, l1, some (.int z), some (.int x), l4] st σ := np_op k50 rfl rfl
theorem e50_9r (x : Int32) {z : Nat} {l0 l1 l3 l4 : Option Value} {st : List Value} {σ : nv_St} : np_X 50 9 [l0, l1, some (.ref z), l3, l4] (.int x :: st) σ = np_X 50 10 [l0, l1, some (.ref z), some (.int x), l4] st σ := np_op k50 rfl rfl
theorem e50_9v (x : Int32) {l0 l1 l3 l4 : Option Value} {st : List Value} {σ : nv_St} : np_X 50 9 [l0, l1, some .null, l3, l4] (.int x :: st) σ = np_X 50 10 [l0, l1, some .null, some (.int x), l4] st σ := np_op k50 rfl rfl
theorem e50_10 (x : Int32) {l0 l1 l2 l4 : Option Value} {st : List Value} {σ : nv_St} : np_X 50 10 [l0, l1, l2, some (.int x), l4] st σ = np_X 50 11 [l0, l1, l2, some (.int x), l4] (.int x :: st) σ := np_op k50 rfl rfl
theorem e50_11 (x : Int32) {l0 l1 l3 l4 : Option Value} {st : List Value} {σ : nv_St} : np_X 50 11 [l0, l1, some (.int x), l3, l4] st σ = np_X 50 12 [l0, l1, some (.int x), l3, l4] (.int x :: st) σ := np_op k50 rfl rfl
theorem e50_12 {ls : nv_Ls} {st : List Value} {σ : nv_St} {x y : Int32} : np_X 50 12 ls (.int y :: .int x :: st) σ = if x < y then np_X 50 15 ls st σ else np_X 50 48 ls st σ := np_br inferInstance k50 rfl rfl
theorem e50_15 (x : Nat) {l0 l2 l3 l4 : Option Value} {st : List Value} {σ : nv_St} : np_X 50 15 [l0, some (.ref x), l2, l3, l4] st σ = np_X 50 16 [l0, some (.ref x), l2, l3, l4] (.ref x :: st) σ := np_op k50 rfl rfl
theorem e50_15u  {l0 l2 l3 l4 : Option Value} {st : List Value} {σ : nv_St} : np_X 50 15 [l0, some .null, l2, l3, l4] st σ = np_X 50 16 [l0, some .null, l2, l3, l4] (.null :: st) σ := np_op k50 rfl rfl
theorem e50_16 (x : Int32) {l0 l1 l2 l4 : Option Value} {st : List Value} {σ : nv_St} : np_X 50 16 [l0, l1, l2, some (.int x), l4] st σ = np_X 50 17 [l0, l1, l2, some (.int x), l4] (.int x :: st) σ := np_op k50 rfl rfl
theorem e50_17 {ls : nv_Ls} {st : List Value} {σ : nv_St} {a : Nat} {x : Int32} : np_X 50 17 ls (.int x :: .ref a :: st) σ = np_b (nv_rdq σ 2 a x) (fun v => np_X 50 18 ls (v :: st) σ) := np_aldq k50 rfl
theorem e50_18n (x : Nat) {l0 l1 l2 l4 : Option Value} {st : List Value} {σ : nv_St} : np_X 50 18 [l0, l1, l2, none, l4] (.ref x :: st) σ = np_X 50 20 [l0, l1, l2, none, some (.ref x)] st σ := np_op k50 rfl rfl
theorem e50_18i (x : Nat) {z : Int32} {l0 l1 l2 l4 : Option Value} {st : List Value} {σ : nv_St} : np_X 50 18 [l0, l1, l2, some (.int z), l4] (.ref x :: st) σ = np_X 50 20 [l0, l1, l2, some (.int z), some (.ref x)] st σ := np_op k50 rfl rfl
theorem e50_18r (x : Nat) {z : Nat} {l0 l1 l2 l4 : Option Value} {st : List Value} {σ : nv_St} : np_X 50 18 [l0, l1, l2, some (.ref z), l4] (.ref x :: st) σ = np_X 50 20 [l0, l1, l2, some (.ref z), some (.ref x)] st σ := np_op k50 rfl rfl
theorem e50_18v (x : Nat) {l0 l1 l2 l4 : Option Value} {st : List Value} {σ : nv_St} : np_X 50 18 [l0, l1, l2, some .null, l4] (.ref x :: st) σ = np_X 50 20 [l0, l1, l2, some .null, some (.ref x)] st σ := np_op k50 rfl rfl
theorem e50_18un  {l0 l1 l2 l4 : Option Value} {st : List Value} {σ : nv_St} : np_X 50 18 [l0, l1, l2, none, l4] (.null :: st) σ = np_X 50 20 [l0, l1, l2, none, some .null] st σ := np_op k50 rfl rfl
theorem e50_18ui  {z : Int32} {l0 l1 l2 l4 : Option Value} {st : List Value} {σ : nv_St} : np_X 50 18 [l0, l1, l2, some (.int z), l4] (.null :: st) σ = np_X 50 20 [l0, l1, l2, some (.int z), some .null] st σ := np_op k50 rfl rfl
theorem e50_18ur  {z : Nat} {l0 l1 l2 l4 : Option Value} {st : List Value} {σ : nv_St} : np_X 50 18 [l0, l1, l2, some (.ref z), l4] (.null :: st) σ = np_X 50 20 [l0, l1, l2, some (.ref z), some .null] st σ := np_op k50 rfl rfl
theorem e50_18uv  {l0 l1 l2 l4 : Option Value} {st : List Value} {σ : nv_St} : np_X 50 18 [l0, l1, l2, some .null, l4] (.null :: st) σ = np_X 50 20 [l0, l1, l2, some .null, some .null] st σ := np_op k50 rfl rfl
theorem e50_20 (x : Nat) {l0 l1 l2 l3 : Option Value} {st : List Value} {σ : nv_St} : np_X 50 20 [l0, l1, l2, l3, some (.ref x)] st σ = np_X 50 22 [l0, l1, l2, l3, some (.ref x)] (.ref x :: st) σ := np_op k50 rfl rfl
theorem e50_20u  {l0 l1 l2 l3 : Option Value} {st : List Value} {σ : nv_St} : np_X 50 20 [l0, l1, l2, l3, some .null] st σ = np_X 50 22 [l0, l1, l2, l3, some .null] (.null :: st) σ := np_op k50 rfl rfl
theorem e50_22 {ls : nv_Ls} {st : List Value} {σ : nv_St} {a : Nat}  (h : st.length ≤ 4) (h0 : nv_isO σ 4 a = true) : np_X 50 22 ls (.ref a :: st) σ = np_aft 50 22 25 ls st (np_X 62 0 [some (.ref a)] [] σ) := np_call k50 rfl (Nat.le_add_left 1 _) rfl rfl h rfl h0 rfl
theorem e50_25 {ls : nv_Ls} {st : List Value} {σ : nv_St} {x : Int32} : np_X 50 25 ls (.int x :: st) σ = if x = 0 then np_X 50 42 ls st σ else np_X 50 28 ls st σ := np_br inferInstance k50 rfl rfl
theorem e50_28 (x : Nat) {l1 l2 l3 l4 : Option Value} {st : List Value} {σ : nv_St} : np_X 50 28 [some (.ref x), l1, l2, l3, l4] st σ = np_X 50 29 [some (.ref x), l1, l2, l3, l4] (.ref x :: st) σ := np_op k50 rfl rfl
theorem e50_28u  {l1 l2 l3 l4 : Option Value} {st : List Value} {σ : nv_St} : np_X 50 28 [some .null, l1, l2, l3, l4] st σ = np_X 50 29 [some .null, l1, l2, l3, l4] (.null :: st) σ := np_op k50 rfl rfl
theorem e50_29 (x : Nat) {l0 l1 l2 l3 : Option Value} {st : List Value} {σ : nv_St} : np_X 50 29 [l0, l1, l2, l3, some (.ref x)] st σ = np_X 50 31 [l0, l1, l2, l3, some (.ref x)] (.ref x :: st) σ := np_op k50 rfl rfl
theorem e50_29u  {l0 l1 l2 l3 : Option Value} {st : List Value} {σ : nv_St} : np_X 50 29 [l0, l1, l2, l3, some .null] st σ = np_X 50 31 [l0, l1, l2, l3, some .null] (.null :: st) σ := np_op k50 rfl rfl
theorem e50_31 {ls : nv_Ls} {st : List Value} {σ : nv_St} {a : Nat} {x0 : Nat} (h : st.length ≤ 4) (h0 : nv_isO σ 2 a = true) : np_X 50 31 ls (.ref x0 :: .ref a :: st) σ = np_aft 50 31 34 ls st (np_X 51 0 [some (.ref a), some (.ref x0), none, none, none, none] [] σ) := np_call k50 rfl (Nat.le_add_left 2 _) rfl rfl h rfl h0 rfl
theorem e50_34 {ls : nv_Ls} {st : List Value} {σ : nv_St} {x : Int32} : np_X 50 34 ls (.int x :: st) σ = if x = 0 then np_X 50 42 ls st σ else np_X 50 37 ls st σ := np_br inferInstance k50 rfl rfl
theorem e50_37 (x : Nat) {l0 l1 l2 l3 : Option Value} {st : List Value} {σ : nv_St} : np_X 50 37 [l0, l1, l2, l3, some (.ref x)] st σ = np_X 50 39 [l0, l1, l2, l3, some (.ref x)] (.ref x :: st) σ := np_op k50 rfl rfl
theorem e50_37u  {l0 l1 l2 l3 : Option Value} {st : List Value} {σ : nv_St} : np_X 50 37 [l0, l1, l2, l3, some .null] st σ = np_X 50 39 [l0, l1, l2, l3, some .null] (.null :: st) σ := np_op k50 rfl rfl
theorem e50_39 {ls : nv_Ls} {st : List Value} {σ : nv_St} {a : Nat}  (h : st.length ≤ 4) (h0 : nv_isO σ 4 a = true) : np_X 50 39 ls (.ref a :: st) σ = np_aft 50 39 42 ls st (np_X 68 0 [some (.ref a)] [] σ) := np_call k50 rfl (Nat.le_add_left 1 _) rfl rfl h rfl h0 rfl
theorem e50_42n (x : Int32) {l0 l1 l4 : Option Value} {st : List Value} {σ : nv_St} : np_X 50 42 [l0, l1, none, some (.int x), l4] st σ = np_X 50 45 [l0, l1, none, some (.int (x + (1))), l4] st σ := np_op k50 rfl rfl
theorem e50_42i (x : Int32) {z : Int32} {l0 l1 l4 : Option Value} {st : List Value} {σ : nv_St} : np_X 50 42 [l0, l1, some (.int z), some (.int x), l4] st σ = np_X 50 45 [l0, l1, some (.int z), some (.int (x + (1))), l4] st σ := np_op k50 rfl rfl
theorem e50_42r (x : Int32) {z : Nat} {l0 l1 l4 : Option Value} {st : List Value} {σ : nv_St} : np_X 50 42 [l0, l1, some (.ref z), some (.int x), l4] st σ = np_X 50 45 [l0, l1, some (.ref z), some (.int (x + (1))), l4] st σ := np_op k50 rfl rfl
theorem e50_42v (x : Int32) {l0 l1 l4 : Option Value} {st : List Value} {σ : nv_St} : np_X 50 42 [l0, l1, some .null, some (.int x), l4] st σ = np_X 50 45 [l0, l1, some .null, some (.int (x + (1))), l4] st σ := np_op k50 rfl rfl
theorem e50_45 {ls : nv_Ls} {st : List Value} {σ : nv_St} : np_X 50 45 ls st σ = np_X 50 10 ls st σ := np_op k50 rfl rfl
theorem e50_48 {ls : nv_Ls} {σ : nv_St} : np_X 50 48 ls [] σ = some (.inl none, σ) := np_ret k50 rfl rfl
-- 51 SpoonNavy$Game.isOpponentNear
theorem k51 : np_P.1 51 = np_c51 := rfl
theorem e51_0 (x : Nat) {l1 l2 l3 l4 l5 : Option Value} {st : List Value} {σ : nv_St} : np_X 51 0 [some (.ref x), l1, l2, l3, l4, l5] st σ = np_X 51 1 [some (.ref x), l1, l2, l3, l4, l5] (.ref x :: st) σ := np_op k51 rfl rfl
theorem e51_0u  {l1 l2 l3 l4 l5 : Option Value} {st : List Value} {σ : nv_St} : np_X 51 0 [some .null, l1, l2, l3, l4, l5] st σ = np_X 51 1 [some .null, l1, l2, l3, l4, l5] (.null :: st) σ := np_op k51 rfl rfl
theorem e51_1 {ls : nv_Ls} {st : List Value} {σ : nv_St} {a : Nat} : np_X 51 1 ls (.ref a :: st) σ = np_b (nv_fld σ 2 0 a) (fun v => np_X 51 4 ls (v :: st) σ) := np_get k51 rfl
theorem e51_4n (x : Nat) {l0 l2 l3 l4 l5 : Option Value} {st : List Value} {σ : nv_St} : np_X 51 4 [l0, none, l2, l3, l4, l5] (.ref x :: st) σ = np_X 51 5 [l0, none, some (.ref x), l3, l4, l5] st σ := np_op k51 rfl rfl
theorem e51_4i (x : Nat) {z : Int32} {l0 l2 l3 l4 l5 : Option Value} {st : List Value} {σ : nv_St} : np_X 51 4 [l0, some (.int z), l2, l3, l4, l5] (.ref x :: st) σ = np_X 51 5 [l0, some (.int z), some (.ref x), l3, l4, l5] st σ := np_op k51 rfl rfl
theorem e51_4r (x : Nat) {z : Nat} {l0 l2 l3 l4 l5 : Option Value} {st : List Value} {σ : nv_St} : np_X 51 4 [l0, some (.ref z), l2, l3, l4, l5] (.ref x :: st) σ = np_X 51 5 [l0, some (.ref z), some (.ref x), l3, l4, l5] st σ := np_op k51 rfl rfl
theorem e51_4v (x : Nat) {l0 l2 l3 l4 l5 : Option Value} {st : List Value} {σ : nv_St} : np_X 51 4 [l0, some .null, l2, l3, l4, l5] (.ref x :: st) σ = np_X 51 5 [l0, some .null, some (.ref x), l3, l4, l5] st σ := np_op k51 rfl rfl
theorem e51_4un  {l0 l2 l3 l4 l5 : Option Value} {st : List Value} {σ : nv_St} : np_X 51 4 [l0, none, l2, l3, l4, l5] (.null :: st) σ = np_X 51 5 [l0, none, some .null, l3, l4, l5] st σ := np_op k51 rfl rfl
theorem e51_4ui  {z : Int32} {l0 l2 l3 l4 l5 : Option Value} {st : List Value} {σ : nv_St} : np_X 51 4 [l0, some (.int z), l2, l3, l4, l5] (.null :: st) σ = np_X 51 5 [l0, some (.int z), some .null, l3, l4, l5] st σ := np_op k51 rfl rfl
theorem e51_4ur  {z : Nat} {l0 l2 l3 l4 l5 : Option Value} {st : List Value} {σ : nv_St} : np_X 51 4 [l0, some (.ref z), l2, l3, l4, l5] (.null :: st) σ = np_X 51 5 [l0, some (.ref z), some .null, l3, l4, l5] st σ := np_op k51 rfl rfl
theorem e51_4uv  {l0 l2 l3 l4 l5 : Option Value} {st : List Value} {σ : nv_St} : np_X 51 4 [l0, some .null, l2, l3, l4, l5] (.null :: st) σ = np_X 51 5 [l0, some .null, some .null, l3, l4, l5] st σ := np_op k51 rfl rfl
theorem e51_5 (x : Nat) {l0 l1 l3 l4 l5 : Option Value} {st : List Value} {σ : nv_St} : np_X 51 5 [l0, l1, some (.ref x), l3, l4, l5] st σ = np_X 51 6 [l0, l1, some (.ref x), l3, l4, l5] (.ref x :: st) σ := np_op k51 rfl rfl
theorem e51_5u  {l0 l1 l3 l4 l5 : Option Value} {st : List Value} {σ : nv_St} : np_X 51 5 [l0, l1, some .null, l3, l4, l5] st σ = np_X 51 6 [l0, l1, some .null, l3, l4, l5] (.null :: st) σ := np_op k51 rfl rfl
theorem e51_6 {ls : nv_Ls} {st : List Value} {σ : nv_St} {a : Nat} : np_X 51 6 ls (.ref a :: st) σ = np_b (nv_len σ 2 a) (fun m => np_X 51 7 ls (.int (Int32.ofNat m) :: st) σ) := np_alen k51 rfl
theorem e51_7n (x : Int32) {l0 l1 l3 l4 l5 : Option Value} {st : List Value} {σ : nv_St} : np_X 51 7 [l0, l1, none, l3, l4, l5] (.int x :: st) σ = np_X 51 8 [l0, l1, none, some (.int x), l4, l5] st σ := np_op k51 rfl rfl
theorem e51_7i (x : Int32) {z : Int32} {l0 l1 l3 l4 l5 : Option Value} {st : List Value} {σ : nv_St} : np_X 51 7 [l0, l1, some (.int z), l3, l4, l5] (.int x :: st) σ = np_X 51 8 [l0, l1, some (.int z), some (.int x), l4, l5] st σ := np_op k51 rfl rfl
theorem e51_7r (x : Int32) {z : Nat} {l0 l1 l3 l4 l5 : Option Value} {st : List Value} {σ : nv_St} : np_X 51 7 [l0, l1, some (.ref z), l3, l4, l5] (.int x :: st) σ = np_X 51 8 [l0, l1, some (.ref z), some (.int x), l4, l5] st σ := np_op k51 rfl rfl
theorem e51_7v (x : Int32) {l0 l1 l3 l4 l5 : Option Value} {st : List Value} {σ : nv_St} : np_X 51 7 [l0, l1, some .null, l3, l4, l5] (.int x :: st) σ = np_X 51 8 [l0, l1, some .null, some (.int x), l4, l5] st σ := np_op k51 rfl rfl
theorem e51_8 {ls : nv_Ls} {st : List Value} {σ : nv_St} : np_X 51 8 ls st σ = np_X 51 9 ls (.int (0) :: st) σ := np_op k51 rfl rfl
theorem e51_9n (x : Int32) {l0 l1 l2 l4 l5 : Option Value} {st : List Value} {σ : nv_St} : np_X 51 9 [l0, l1, l2, none, l4, l5] (.int x :: st) σ = np_X 51 11 [l0, l1, l2, none, some (.int x), l5] st σ := np_op k51 rfl rfl
theorem e51_9i (x : Int32) {z : Int32} {l0 l1 l2 l4 l5 : Option Value} {st : List Value} {σ : nv_St} : np_X 51 9 [l0, l1, l2, some (.int z), l4, l5] (.int x :: st) σ = np_X 51 11 [l0, l1, l2, some (.int z), some (.int x), l5] st σ := np_op k51 rfl rfl
theorem e51_9r (x : Int32) {z : Nat} {l0 l1 l2 l4 l5 : Option Value} {st : List Value} {σ : nv_St} : np_X 51 9 [l0, l1, l2, some (.ref z), l4, l5] (.int x :: st) σ = np_X 51 11 [l0, l1, l2, some (.ref z), some (.int x), l5] st σ := np_op k51 rfl rfl
theorem e51_9v (x : Int32) {l0 l1 l2 l4 l5 : Option Value} {st : List Value} {σ : nv_St} : np_X 51 9 [l0, l1, l2, some .null, l4, l5] (.int x :: st) σ = np_X 51 11 [l0, l1, l2, some .null, some (.int x), l5] st σ := np_op k51 rfl rfl
theorem e51_11 (x : Int32) {l0 l1 l2 l3 l5 : Option Value} {st : List Value} {σ : nv_St} : np_X 51 11 [l0, l1, l2, l3, some (.int x), l5] st σ = np_X 51 13 [l0, l1, l2, l3, some (.int x), l5] (.int x :: st) σ := np_op k51 rfl rfl
theorem e51_13 (x : Int32) {l0 l1 l2 l4 l5 : Option Value} {st : List Value} {σ : nv_St} : np_X 51 13 [l0, l1, l2, some (.int x), l4, l5] st σ = np_X 51 14 [l0, l1, l2, some (.int x), l4, l5] (.int x :: st) σ := np_op k51 rfl rfl
theorem e51_14 {ls : nv_Ls} {st : List Value} {σ : nv_St} {x y : Int32} : np_X 51 14 ls (.int y :: .int x :: st) σ = if x < y then np_X 51 17 ls st σ else np_X 51 62 ls st σ := np_br inferInstance k51 rfl rfl
theorem e51_17 (x : Nat) {l0 l1 l3 l4 l5 : Option Value} {st : List Value} {σ : nv_St} : np_X 51 17 [l0, l1, some (.ref x), l3, l4, l5] st σ = np_X 51 18 [l0, l1, some (.ref x), l3, l4, l5] (.ref x :: st) σ := np_op k51 rfl rfl
theorem e51_17u  {l0 l1 l3 l4 l5 : Option Value} {st : List Value} {σ : nv_St} : np_X 51 17 [l0, l1, some .null, l3, l4, l5] st σ = np_X 51 18 [l0, l1, some .null, l3, l4, l5] (.null :: st) σ := np_op k51 rfl rfl
theorem e51_18 (x : Int32) {l0 l1 l2 l3 l5 : Option Value} {st : List Value} {σ : nv_St} : np_X 51 18 [l0, l1, l2, l3, some (.int x), l5] st σ = np_X 51 20 [l0, l1, l2, l3, some (.int x), l5] (.int x :: st) σ := np_op k51 rfl rfl
theorem e51_20 {ls : nv_Ls} {st : List Value} {σ : nv_St} {a : Nat} {x : Int32} : np_X 51 20 ls (.int x :: .ref a :: st) σ = np_b (nv_rdq σ 2 a x) (fun v => np_X 51 21 ls (v :: st) σ) := np_aldq k51 rfl
theorem e51_21n (x : Nat) {l0 l1 l2 l3 l5 : Option Value} {st : List Value} {σ : nv_St} : np_X 51 21 [l0, l1, l2, l3, none, l5] (.ref x :: st) σ = np_X 51 23 [l0, l1, l2, l3, none, some (.ref x)] st σ := np_op k51 rfl rfl
theorem e51_21i (x : Nat) {z : Int32} {l0 l1 l2 l3 l5 : Option Value} {st : List Value} {σ : nv_St} : np_X 51 21 [l0, l1, l2, l3, some (.int z), l5] (.ref x :: st) σ = np_X 51 23 [l0, l1, l2, l3, some (.int z), some (.ref x)] st σ := np_op k51 rfl rfl
theorem e51_21r (x : Nat) {z : Nat} {l0 l1 l2 l3 l5 : Option Value} {st : List Value} {σ : nv_St} : np_X 51 21 [l0, l1, l2, l3, some (.ref z), l5] (.ref x :: st) σ = np_X 51 23 [l0, l1, l2, l3, some (.ref z), some (.ref x)] st σ := np_op k51 rfl rfl
theorem e51_21v (x : Nat) {l0 l1 l2 l3 l5 : Option Value} {st : List Value} {σ : nv_St} : np_X 51 21 [l0, l1, l2, l3, some .null, l5] (.ref x :: st) σ = np_X 51 23 [l0, l1, l2, l3, some .null, some (.ref x)] st σ := np_op k51 rfl rfl
theorem e51_21un  {l0 l1 l2 l3 l5 : Option Value} {st : List Value} {σ : nv_St} : np_X 51 21 [l0, l1, l2, l3, none, l5] (.null :: st) σ = np_X 51 23 [l0, l1, l2, l3, none, some .null] st σ := np_op k51 rfl rfl
theorem e51_21ui  {z : Int32} {l0 l1 l2 l3 l5 : Option Value} {st : List Value} {σ : nv_St} : np_X 51 21 [l0, l1, l2, l3, some (.int z), l5] (.null :: st) σ = np_X 51 23 [l0, l1, l2, l3, some (.int z), some .null] st σ := np_op k51 rfl rfl
theorem e51_21ur  {z : Nat} {l0 l1 l2 l3 l5 : Option Value} {st : List Value} {σ : nv_St} : np_X 51 21 [l0, l1, l2, l3, some (.ref z), l5] (.null :: st) σ = np_X 51 23 [l0, l1, l2, l3, some (.ref z), some .null] st σ := np_op k51 rfl rfl
theorem e51_21uv  {l0 l1 l2 l3 l5 : Option Value} {st : List Value} {σ : nv_St} : np_X 51 21 [l0, l1, l2, l3, some .null, l5] (.null :: st) σ = np_X 51 23 [l0, l1, l2, l3, some .null, some .null] st σ := np_op k51 rfl rfl
theorem e51_23 (x : Nat) {l0 l1 l2 l3 l4 : Option Value} {st : List Value} {σ : nv_St} : np_X 51 23 [l0, l1, l2, l3, l4, some (.ref x)] st σ = np_X 51 25 [l0, l1, l2, l3, l4, some (.ref x)] (.ref x :: st) σ := np_op k51 rfl rfl
theorem e51_23u  {l0 l1 l2 l3 l4 : Option Value} {st : List Value} {σ : nv_St} : np_X 51 23 [l0, l1, l2, l3, l4, some .null] st σ = np_X 51 25 [l0, l1, l2, l3, l4, some .null] (.null :: st) σ := np_op k51 rfl rfl
theorem e51_25 {ls : nv_Ls} {st : List Value} {σ : nv_St} : np_X 51 25 ls st σ = np_X 51 26 ls (.int (1) :: st) σ := np_op k51 rfl rfl
theorem e51_26 (x : Nat) {l0 l2 l3 l4 l5 : Option Value} {st : List Value} {σ : nv_St} : np_X 51 26 [l0, some (.ref x), l2, l3, l4, l5] st σ = np_X 51 27 [l0, some (.ref x), l2, l3, l4, l5] (.ref x :: st) σ := np_op k51 rfl rfl
theorem e51_26u  {l0 l2 l3 l4 l5 : Option Value} {st : List Value} {σ : nv_St} : np_X 51 26 [l0, some .null, l2, l3, l4, l5] st σ = np_X 51 27 [l0, some .null, l2, l3, l4, l5] (.null :: st) σ := np_op k51 rfl rfl
theorem e51_27 {ls : nv_Ls} {st : List Value} {σ : nv_St} {a : Nat} : np_X 51 27 ls (.ref a :: st) σ = np_b (nv_fld σ 4 1 a) (fun v => np_X 51 30 ls (v :: st) σ) := np_get k51 rfl
theorem e51_30 {ls : nv_Ls} {st : List Value} {σ : nv_St} {x y : Int32} : np_X 51 30 ls (.int y :: .int x :: st) σ = np_X 51 31 ls (.int (x - y) :: st) σ := np_op k51 rfl rfl
theorem e51_31 {ls : nv_Ls} {st : List Value} {σ : nv_St} {a : Nat} {x0 : Int32} (h : st.length ≤ 4) (h0 : nv_isO σ 4 a = true) : np_X 51 31 ls (.int x0 :: .ref a :: st) σ = np_aft 51 31 34 ls st (np_X 63 0 [some (.ref a), some (.int x0)] [] σ) := np_call k51 rfl (Nat.le_add_left 2 _) rfl rfl h rfl h0 rfl
theorem e51_34 {ls : nv_Ls} {st : List Value} {σ : nv_St} {x : Int32} : np_X 51 34 ls (.int x :: st) σ = if x = 0 then np_X 51 56 ls st σ else np_X 51 37 ls st σ := np_br inferInstance k51 rfl rfl
theorem e51_37 (x : Nat) {l0 l1 l2 l3 l4 : Option Value} {st : List Value} {σ : nv_St} : np_X 51 37 [l0, l1, l2, l3, l4, some (.ref x)] st σ = np_X 51 39 [l0, l1, l2, l3, l4, some (.ref x)] (.ref x :: st) σ := np_op k51 rfl rfl
theorem e51_37u  {l0 l1 l2 l3 l4 : Option Value} {st : List Value} {σ : nv_St} : np_X 51 37 [l0, l1, l2, l3, l4, some .null] st σ = np_X 51 39 [l0, l1, l2, l3, l4, some .null] (.null :: st) σ := np_op k51 rfl rfl
theorem e51_39 (x : Nat) {l0 l2 l3 l4 l5 : Option Value} {st : List Value} {σ : nv_St} : np_X 51 39 [l0, some (.ref x), l2, l3, l4, l5] st σ = np_X 51 40 [l0, some (.ref x), l2, l3, l4, l5] (.ref x :: st) σ := np_op k51 rfl rfl
theorem e51_39u  {l0 l2 l3 l4 l5 : Option Value} {st : List Value} {σ : nv_St} : np_X 51 39 [l0, some .null, l2, l3, l4, l5] st σ = np_X 51 40 [l0, some .null, l2, l3, l4, l5] (.null :: st) σ := np_op k51 rfl rfl
theorem e51_40 {ls : nv_Ls} {st : List Value} {σ : nv_St} {a : Nat} : np_X 51 40 ls (.ref a :: st) σ = np_b (nv_fld σ 4 2 a) (fun v => np_X 51 43 ls (v :: st) σ) := np_get k51 rfl
theorem e51_43 (x : Nat) {l0 l2 l3 l4 l5 : Option Value} {st : List Value} {σ : nv_St} : np_X 51 43 [l0, some (.ref x), l2, l3, l4, l5] st σ = np_X 51 44 [l0, some (.ref x), l2, l3, l4, l5] (.ref x :: st) σ := np_op k51 rfl rfl
theorem e51_43u  {l0 l2 l3 l4 l5 : Option Value} {st : List Value} {σ : nv_St} : np_X 51 43 [l0, some .null, l2, l3, l4, l5] st σ = np_X 51 44 [l0, some .null, l2, l3, l4, l5] (.null :: st) σ := np_op k51 rfl rfl
theorem e51_44 {ls : nv_Ls} {st : List Value} {σ : nv_St} {a : Nat} : np_X 51 44 ls (.ref a :: st) σ = np_b (nv_fld σ 4 3 a) (fun v => np_X 51 47 ls (v :: st) σ) := np_get k51 rfl
theorem e51_47 {ls : nv_Ls} {st : List Value} {σ : nv_St} {a : Nat} {x0 : Int32} {x1 : Int32} (h : st.length ≤ 4) (h0 : nv_isO σ 4 a = true) : np_X 51 47 ls (.int x1 :: .int x0 :: .ref a :: st) σ = np_aft 51 47 50 ls st (np_X 65 0 [some (.ref a), some (.int x0), some (.int x1)] [] σ) := np_call k51 rfl (Nat.le_add_left 3 _) rfl rfl h rfl h0 rfl
theorem e51_50 {ls : nv_Ls} {st : List Value} {σ : nv_St} : np_X 51 50 ls st σ = np_X 51 51 ls (.int (2) :: st) σ := np_op k51 rfl rfl
theorem e51_51 {ls : nv_Ls} {st : List Value} {σ : nv_St} {x y : Int32} : np_X 51 51 ls (.int y :: .int x :: st) σ = if y < x then np_X 51 56 ls st σ else np_X 51 54 ls st σ := np_br inferInstance k51 rfl rfl
theorem e51_54 {ls : nv_Ls} {st : List Value} {σ : nv_St} : np_X 51 54 ls st σ = np_X 51 55 ls (.int (1) :: st) σ := np_op k51 rfl rfl
theorem e51_55 {ls : nv_Ls} {σ : nv_St} {x : Int32} (h : narrow .boolean (.int x) = .int x) : np_X 51 55 ls [.int x] σ = some (.inl (some (.int x)), σ) := np_reti k51 rfl h
theorem e51_56n (x : Int32) {l0 l1 l2 l5 : Option Value} {st : List Value} {σ : nv_St} : np_X 51 56 [l0, l1, l2, none, some (.int x), l5] st σ = np_X 51 59 [l0, l1, l2, none, some (.int (x + (1))), l5] st σ := np_op k51 rfl rfl
theorem e51_56i (x : Int32) {z : Int32} {l0 l1 l2 l5 : Option Value} {st : List Value} {σ : nv_St} : np_X 51 56 [l0, l1, l2, some (.int z), some (.int x), l5] st σ = np_X 51 59 [l0, l1, l2, some (.int z), some (.int (x + (1))), l5] st σ := np_op k51 rfl rfl
theorem e51_56r (x : Int32) {z : Nat} {l0 l1 l2 l5 : Option Value} {st : List Value} {σ : nv_St} : np_X 51 56 [l0, l1, l2, some (.ref z), some (.int x), l5] st σ = np_X 51 59 [l0, l1, l2, some (.ref z), some (.int (x + (1))), l5] st σ := np_op k51 rfl rfl
theorem e51_56v (x : Int32) {l0 l1 l2 l5 : Option Value} {st : List Value} {σ : nv_St} : np_X 51 56 [l0, l1, l2, some .null, some (.int x), l5] st σ = np_X 51 59 [l0, l1, l2, some .null, some (.int (x + (1))), l5] st σ := np_op k51 rfl rfl
theorem e51_59 {ls : nv_Ls} {st : List Value} {σ : nv_St} : np_X 51 59 ls st σ = np_X 51 11 ls st σ := np_op k51 rfl rfl
theorem e51_62 {ls : nv_Ls} {st : List Value} {σ : nv_St} : np_X 51 62 ls st σ = np_X 51 63 ls (.int (0) :: st) σ := np_op k51 rfl rfl
theorem e51_63 {ls : nv_Ls} {σ : nv_St} {x : Int32} (h : narrow .boolean (.int x) = .int x) : np_X 51 63 ls [.int x] σ = some (.inl (some (.int x)), σ) := np_reti k51 rfl h
-- 52 SpoonNavy$Game.shoot
theorem k52 : np_P.1 52 = np_c52 := rfl
theorem e52_0 (x : Nat) {l1 l2 l3 l4 l5 l6 : Option Value} {st : List Value} {σ : nv_St} : np_X 52 0 [some (.ref x), l1, l2, l3, l4, l5, l6] st σ = np_X 52 1 [some (.ref x), l1, l2, l3, l4, l5, l6] (.ref x :: st) σ := np_op k52 rfl rfl
theorem e52_0u  {l1 l2 l3 l4 l5 l6 : Option Value} {st : List Value} {σ : nv_St} : np_X 52 0 [some .null, l1, l2, l3, l4, l5, l6] st σ = np_X 52 1 [some .null, l1, l2, l3, l4, l5, l6] (.null :: st) σ := np_op k52 rfl rfl
theorem e52_1 (x : Int32) {l0 l2 l3 l4 l5 l6 : Option Value} {st : List Value} {σ : nv_St} : np_X 52 1 [l0, some (.int x), l2, l3, l4, l5, l6] st σ = np_X 52 2 [l0, some (.int x), l2, l3, l4, l5, l6] (.int x :: st) σ := np_op k52 rfl rfl
theorem e52_2 {ls : nv_Ls} {st : List Value} {σ : nv_St} {a : Nat} {x0 : Int32} (h : st.length ≤ 4) (h0 : nv_isO σ 2 a = true) : np_X 52 2 ls (.int x0 :: .ref a :: st) σ = np_aft 52 2 5 ls st (np_X 28 0 [some (.ref a), some (.int x0)] [] σ) := np_call k52 rfl (Nat.le_add_left 2 _) rfl rfl h rfl h0 rfl
theorem e52_5n (x : Nat) {l0 l1 l2 l4 l5 l6 : Option Value} {st : List Value} {σ : nv_St} : np_X 52 5 [l0, l1, l2, none, l4, l5, l6] (.ref x :: st) σ = np_X 52 7 [l0, l1, l2, none, some (.ref x), l5, l6] st σ := np_op k52 rfl rfl
theorem e52_5i (x : Nat) {z : Int32} {l0 l1 l2 l4 l5 l6 : Option Value} {st : List Value} {σ : nv_St} : np_X 52 5 [l0, l1, l2, some (.int z), l4, l5, l6] (.ref x :: st) σ = np_X 52 7 [l0, l1, l2, some (.int z), some (.ref x), l5, l6] st σ := np_op k52 rfl rfl
theorem e52_5r (x : Nat) {z : Nat} {l0 l1 l2 l4 l5 l6 : Option Value} {st : List Value} {σ : nv_St} : np_X 52 5 [l0, l1, l2, some (.ref z), l4, l5, l6] (.ref x :: st) σ = np_X 52 7 [l0, l1, l2, some (.ref z), some (.ref x), l5, l6] st σ := np_op k52 rfl rfl
theorem e52_5v (x : Nat) {l0 l1 l2 l4 l5 l6 : Option Value} {st : List Value} {σ : nv_St} : np_X 52 5 [l0, l1, l2, some .null, l4, l5, l6] (.ref x :: st) σ = np_X 52 7 [l0, l1, l2, some .null, some (.ref x), l5, l6] st σ := np_op k52 rfl rfl
theorem e52_5un  {l0 l1 l2 l4 l5 l6 : Option Value} {st : List Value} {σ : nv_St} : np_X 52 5 [l0, l1, l2, none, l4, l5, l6] (.null :: st) σ = np_X 52 7 [l0, l1, l2, none, some .null, l5, l6] st σ := np_op k52 rfl rfl
theorem e52_5ui  {z : Int32} {l0 l1 l2 l4 l5 l6 : Option Value} {st : List Value} {σ : nv_St} : np_X 52 5 [l0, l1, l2, some (.int z), l4, l5, l6] (.null :: st) σ = np_X 52 7 [l0, l1, l2, some (.int z), some .null, l5, l6] st σ := np_op k52 rfl rfl
theorem e52_5ur  {z : Nat} {l0 l1 l2 l4 l5 l6 : Option Value} {st : List Value} {σ : nv_St} : np_X 52 5 [l0, l1, l2, some (.ref z), l4, l5, l6] (.null :: st) σ = np_X 52 7 [l0, l1, l2, some (.ref z), some .null, l5, l6] st σ := np_op k52 rfl rfl
theorem e52_5uv  {l0 l1 l2 l4 l5 l6 : Option Value} {st : List Value} {σ : nv_St} : np_X 52 5 [l0, l1, l2, some .null, l4, l5, l6] (.null :: st) σ = np_X 52 7 [l0, l1, l2, some .null, some .null, l5, l6] st σ := np_op k52 rfl rfl
theorem e52_7 (x : Nat) {l0 l1 l2 l3 l5 l6 : Option Value} {st : List Value} {σ : nv_St} : np_X 52 7 [l0, l1, l2, l3, some (.ref x), l5, l6] st σ = np_X 52 9 [l0, l1, l2, l3, some (.ref x), l5, l6] (.ref x :: st) σ := np_op k52 rfl rfl
theorem e52_7u  {l0 l1 l2 l3 l5 l6 : Option Value} {st : List Value} {σ : nv_St} : np_X 52 7 [l0, l1, l2, l3, some .null, l5, l6] st σ = np_X 52 9 [l0, l1, l2, l3, some .null, l5, l6] (.null :: st) σ := np_op k52 rfl rfl
theorem e52_9 {ls : nv_Ls} {st : List Value} {σ : nv_St} {a : Nat} (h : a < 1000000) : np_X 52 9 ls (.ref a :: st) σ = np_X 52 14 ls st σ := np_ifnonnull k52 rfl h
theorem e52_9u {ls : nv_Ls} {st : List Value} {σ : nv_St} : np_X 52 9 ls (.null :: st) σ = np_X 52 12 ls st σ := np_op k52 rfl rfl
theorem e52_12 {ls : nv_Ls} {st : List Value} {σ : nv_St} : np_X 52 12 ls st σ = np_X 52 13 ls (.int (-1) :: st) σ := np_op k52 rfl rfl
theorem e52_13 {ls : nv_Ls} {σ : nv_St} {x : Int32} : np_X 52 13 ls [.int x] σ = some (.inl (some (.int x)), σ) := np_reti k52 rfl rfl
theorem e52_14 (x : Nat) {l1 l2 l3 l4 l5 l6 : Option Value} {st : List Value} {σ : nv_St} : np_X 52 14 [some (.ref x), l1, l2, l3, l4, l5, l6] st σ = np_X 52 15 [some (.ref x), l1, l2, l3, l4, l5, l6] (.ref x :: st) σ := np_op k52 rfl rfl
theorem e52_14u  {l1 l2 l3 l4 l5 l6 : Option Value} {st : List Value} {σ : nv_St} : np_X 52 14 [some .null, l1, l2, l3, l4, l5, l6] st σ = np_X 52 15 [some .null, l1, l2, l3, l4, l5, l6] (.null :: st) σ := np_op k52 rfl rfl
theorem e52_15 (x : Nat) {l0 l1 l2 l3 l5 l6 : Option Value} {st : List Value} {σ : nv_St} : np_X 52 15 [l0, l1, l2, l3, some (.ref x), l5, l6] st σ = np_X 52 17 [l0, l1, l2, l3, some (.ref x), l5, l6] (.ref x :: st) σ := np_op k52 rfl rfl
theorem e52_15u  {l0 l1 l2 l3 l5 l6 : Option Value} {st : List Value} {σ : nv_St} : np_X 52 15 [l0, l1, l2, l3, some .null, l5, l6] st σ = np_X 52 17 [l0, l1, l2, l3, some .null, l5, l6] (.null :: st) σ := np_op k52 rfl rfl
theorem e52_17 (x : Int32) {l0 l1 l3 l4 l5 l6 : Option Value} {st : List Value} {σ : nv_St} : np_X 52 17 [l0, l1, some (.int x), l3, l4, l5, l6] st σ = np_X 52 18 [l0, l1, some (.int x), l3, l4, l5, l6] (.int x :: st) σ := np_op k52 rfl rfl
theorem e52_18 (x : Int32) {l0 l1 l2 l4 l5 l6 : Option Value} {st : List Value} {σ : nv_St} : np_X 52 18 [l0, l1, l2, some (.int x), l4, l5, l6] st σ = np_X 52 19 [l0, l1, l2, some (.int x), l4, l5, l6] (.int x :: st) σ := np_op k52 rfl rfl
theorem e52_19 {ls : nv_Ls} {st : List Value} {σ : nv_St}  {x0 : Int32} {x1 : Int32} (h : st.length ≤ 4) : np_X 52 19 ls (.int x1 :: .int x0 :: st) σ = np_aft 52 19 22 ls st (np_X 133 0 [some (.int x0), some (.int x1)] [] σ) := np_call k52 rfl (Nat.le_add_left 2 _) rfl rfl h rfl rfl rfl
theorem e52_22 {ls : nv_Ls} {st : List Value} {σ : nv_St} {a : Nat} {x0 : Nat} {x1 : Int32} (h : st.length ≤ 4) (h0 : nv_isO σ 2 a = true) : np_X 52 22 ls (.int x1 :: .ref x0 :: .ref a :: st) σ = np_aft 52 22 25 ls st (np_X 55 0 [some (.ref a), some (.ref x0), some (.int x1)] [] σ) := np_call k52 rfl (Nat.le_add_left 3 _) rfl rfl h rfl h0 rfl
theorem e52_25n (x : Int32) {l0 l1 l2 l3 l5 l6 : Option Value} {st : List Value} {σ : nv_St} : np_X 52 25 [l0, l1, l2, l3, none, l5, l6] (.int x :: st) σ = np_X 52 27 [l0, l1, l2, l3, none, some (.int x), l6] st σ := np_op k52 rfl rfl
theorem e52_25i (x : Int32) {z : Int32} {l0 l1 l2 l3 l5 l6 : Option Value} {st : List Value} {σ : nv_St} : np_X 52 25 [l0, l1, l2, l3, some (.int z), l5, l6] (.int x :: st) σ = np_X 52 27 [l0, l1, l2, l3, some (.int z), some (.int x), l6] st σ := np_op k52 rfl rfl
theorem e52_25r (x : Int32) {z : Nat} {l0 l1 l2 l3 l5 l6 : Option Value} {st : List Value} {σ : nv_St} : np_X 52 25 [l0, l1, l2, l3, some (.ref z), l5, l6] (.int x :: st) σ = np_X 52 27 [l0, l1, l2, l3, some (.ref z), some (.int x), l6] st σ := np_op k52 rfl rfl
theorem e52_25v (x : Int32) {l0 l1 l2 l3 l5 l6 : Option Value} {st : List Value} {σ : nv_St} : np_X 52 25 [l0, l1, l2, l3, some .null, l5, l6] (.int x :: st) σ = np_X 52 27 [l0, l1, l2, l3, some .null, some (.int x), l6] st σ := np_op k52 rfl rfl
theorem e52_27 (x : Int32) {l0 l1 l2 l3 l4 l6 : Option Value} {st : List Value} {σ : nv_St} : np_X 52 27 [l0, l1, l2, l3, l4, some (.int x), l6] st σ = np_X 52 29 [l0, l1, l2, l3, l4, some (.int x), l6] (.int x :: st) σ := np_op k52 rfl rfl
theorem e52_29 {ls : nv_Ls} {st : List Value} {σ : nv_St} {x : Int32} : np_X 52 29 ls (.int x :: st) σ = if x = 0 then np_X 52 35 ls st σ else np_X 52 32 ls st σ := np_br inferInstance k52 rfl rfl
theorem e52_32 (x : Int32) {l0 l1 l2 l3 l4 l6 : Option Value} {st : List Value} {σ : nv_St} : np_X 52 32 [l0, l1, l2, l3, l4, some (.int x), l6] st σ = np_X 52 34 [l0, l1, l2, l3, l4, some (.int x), l6] (.int x :: st) σ := np_op k52 rfl rfl
theorem e52_34 {ls : nv_Ls} {σ : nv_St} {x : Int32} : np_X 52 34 ls [.int x] σ = some (.inl (some (.int x)), σ) := np_reti k52 rfl rfl
theorem e52_35 (x : Nat) {l0 l1 l2 l3 l5 l6 : Option Value} {st : List Value} {σ : nv_St} : np_X 52 35 [l0, l1, l2, l3, some (.ref x), l5, l6] st σ = np_X 52 37 [l0, l1, l2, l3, some (.ref x), l5, l6] (.ref x :: st) σ := np_op k52 rfl rfl
theorem e52_35u  {l0 l1 l2 l3 l5 l6 : Option Value} {st : List Value} {σ : nv_St} : np_X 52 35 [l0, l1, l2, l3, some .null, l5, l6] st σ = np_X 52 37 [l0, l1, l2, l3, some .null, l5, l6] (.null :: st) σ := np_op k52 rfl rfl
theorem e52_37 {ls : nv_Ls} {st : List Value} {σ : nv_St} {a : Nat} : np_X 52 37 ls (.ref a :: st) σ = np_b (nv_fld σ 4 6 a) (fun v => np_X 52 40 ls (v :: st) σ) := np_get k52 rfl
theorem e52_40 {ls : nv_Ls} {st : List Value} {σ : nv_St} {x : Int32} : np_X 52 40 ls (.int x :: st) σ = if x = 0 then np_X 52 43 ls st σ else np_X 52 46 ls st σ := np_br inferInstance k52 rfl rfl
theorem e52_43 {ls : nv_Ls} {st : List Value} {σ : nv_St} : np_X 52 43 ls st σ = np_X 52 45 ls (.int (-12) :: st) σ := np_op k52 rfl rfl
theorem e52_45 {ls : nv_Ls} {σ : nv_St} {x : Int32} : np_X 52 45 ls [.int x] σ = some (.inl (some (.int x)), σ) := np_reti k52 rfl rfl
theorem e52_46 (x : Nat) {l0 l1 l2 l3 l5 l6 : Option Value} {st : List Value} {σ : nv_St} : np_X 52 46 [l0, l1, l2, l3, some (.ref x), l5, l6] st σ = np_X 52 48 [l0, l1, l2, l3, some (.ref x), l5, l6] (.ref x :: st) σ := np_op k52 rfl rfl
theorem e52_46u  {l0 l1 l2 l3 l5 l6 : Option Value} {st : List Value} {σ : nv_St} : np_X 52 46 [l0, l1, l2, l3, some .null, l5, l6] st σ = np_X 52 48 [l0, l1, l2, l3, some .null, l5, l6] (.null :: st) σ := np_op k52 rfl rfl
theorem e52_48 (x : Int32) {l0 l1 l3 l4 l5 l6 : Option Value} {st : List Value} {σ : nv_St} : np_X 52 48 [l0, l1, some (.int x), l3, l4, l5, l6] st σ = np_X 52 49 [l0, l1, some (.int x), l3, l4, l5, l6] (.int x :: st) σ := np_op k52 rfl rfl
theorem e52_49 (x : Int32) {l0 l1 l2 l4 l5 l6 : Option Value} {st : List Value} {σ : nv_St} : np_X 52 49 [l0, l1, l2, some (.int x), l4, l5, l6] st σ = np_X 52 50 [l0, l1, l2, some (.int x), l4, l5, l6] (.int x :: st) σ := np_op k52 rfl rfl
theorem e52_50 {ls : nv_Ls} {st : List Value} {σ : nv_St} {a : Nat} {x0 : Int32} {x1 : Int32} (h : st.length ≤ 4) (h0 : nv_isO σ 4 a = true) : np_X 52 50 ls (.int x1 :: .int x0 :: .ref a :: st) σ = np_aft 52 50 53 ls st (np_X 66 0 [some (.ref a), some (.int x0), some (.int x1), none] [] σ) := np_call k52 rfl (Nat.le_add_left 3 _) rfl rfl h rfl h0 rfl
theorem e52_53 {ls : nv_Ls} {st : List Value} {σ : nv_St} {x : Int32} : np_X 52 53 ls (.int x :: st) σ = if x = 0 then np_X 52 56 ls st σ else np_X 52 59 ls st σ := np_br inferInstance k52 rfl rfl
theorem e52_56 {ls : nv_Ls} {st : List Value} {σ : nv_St} : np_X 52 56 ls st σ = np_X 52 58 ls (.int (-14) :: st) σ := np_op k52 rfl rfl
theorem e52_58 {ls : nv_Ls} {σ : nv_St} {x : Int32} : np_X 52 58 ls [.int x] σ = some (.inl (some (.int x)), σ) := np_reti k52 rfl rfl
theorem e52_59 (x : Nat) {l0 l1 l2 l3 l5 l6 : Option Value} {st : List Value} {σ : nv_St} : np_X 52 59 [l0, l1, l2, l3, some (.ref x), l5, l6] st σ = np_X 52 61 [l0, l1, l2, l3, some (.ref x), l5, l6] (.ref x :: st) σ := np_op k52 rfl rfl
theorem e52_59u  {l0 l1 l2 l3 l5 l6 : Option Value} {st : List Value} {σ : nv_St} : np_X 52 59 [l0, l1, l2, l3, some .null, l5, l6] st σ = np_X 52 61 [l0, l1, l2, l3, some .null, l5, l6] (.null :: st) σ := np_op k52 rfl rfl
theorem e52_61 (x : Int32) {l0 l1 l3 l4 l5 l6 : Option Value} {st : List Value} {σ : nv_St} : np_X 52 61 [l0, l1, some (.int x), l3, l4, l5, l6] st σ = np_X 52 62 [l0, l1, some (.int x), l3, l4, l5, l6] (.int x :: st) σ := np_op k52 rfl rfl
theorem e52_62 (x : Int32) {l0 l1 l2 l4 l5 l6 : Option Value} {st : List Value} {σ : nv_St} : np_X 52 62 [l0, l1, l2, some (.int x), l4, l5, l6] st σ = np_X 52 63 [l0, l1, l2, some (.int x), l4, l5, l6] (.int x :: st) σ := np_op k52 rfl rfl
theorem e52_63 {ls : nv_Ls} {st : List Value} {σ : nv_St} {a : Nat} {x0 : Int32} {x1 : Int32} (h : st.length ≤ 4) (h0 : nv_isO σ 4 a = true) : np_X 52 63 ls (.int x1 :: .int x0 :: .ref a :: st) σ = np_aft 52 63 66 ls st (np_X 67 0 [some (.ref a), some (.int x0), some (.int x1)] [] σ) := np_call k52 rfl (Nat.le_add_left 3 _) rfl rfl h rfl h0 rfl
theorem e52_66 {ls : nv_Ls} {st : List Value} {σ : nv_St} {x : Int32} : np_X 52 66 ls (.int x :: st) σ = if x = 0 then np_X 52 69 ls st σ else np_X 52 72 ls st σ := np_br inferInstance k52 rfl rfl
theorem e52_69 {ls : nv_Ls} {st : List Value} {σ : nv_St} : np_X 52 69 ls st σ = np_X 52 71 ls (.int (-15) :: st) σ := np_op k52 rfl rfl
theorem e52_71 {ls : nv_Ls} {σ : nv_St} {x : Int32} : np_X 52 71 ls [.int x] σ = some (.inl (some (.int x)), σ) := np_reti k52 rfl rfl
theorem e52_72 (x : Nat) {l0 l1 l2 l3 l5 l6 : Option Value} {st : List Value} {σ : nv_St} : np_X 52 72 [l0, l1, l2, l3, some (.ref x), l5, l6] st σ = np_X 52 74 [l0, l1, l2, l3, some (.ref x), l5, l6] (.ref x :: st) σ := np_op k52 rfl rfl
theorem e52_72u  {l0 l1 l2 l3 l5 l6 : Option Value} {st : List Value} {σ : nv_St} : np_X 52 72 [l0, l1, l2, l3, some .null, l5, l6] st σ = np_X 52 74 [l0, l1, l2, l3, some .null, l5, l6] (.null :: st) σ := np_op k52 rfl rfl
theorem e52_74 {ls : nv_Ls} {st : List Value} {σ : nv_St} {x : Nat} : np_X 52 74 ls (.ref x :: st) σ = np_X 52 75 ls (.ref x :: .ref x :: st) σ := np_op k52 rfl rfl
theorem e52_74i {ls : nv_Ls} {st : List Value} {σ : nv_St} {x : Int32} : np_X 52 74 ls (.int x :: st) σ = np_X 52 75 ls (.int x :: .int x :: st) σ := np_op k52 rfl rfl
theorem e52_75 {ls : nv_Ls} {st : List Value} {σ : nv_St} {a : Nat} : np_X 52 75 ls (.ref a :: st) σ = np_b (nv_fld σ 4 6 a) (fun v => np_X 52 78 ls (v :: st) σ) := np_get k52 rfl
theorem e52_78 {ls : nv_Ls} {st : List Value} {σ : nv_St} : np_X 52 78 ls st σ = np_X 52 79 ls (.int (1) :: st) σ := np_op k52 rfl rfl
theorem e52_79 {ls : nv_Ls} {st : List Value} {σ : nv_St} {x y : Int32} : np_X 52 79 ls (.int y :: .int x :: st) σ = np_X 52 80 ls (.int (x - y) :: st) σ := np_op k52 rfl rfl
theorem e52_80 {ls : nv_Ls} {st : List Value} {σ : nv_St} {a : Nat} {v : Value} : np_X 52 80 ls (v :: .ref a :: st) σ = np_b (nv_sto σ 4 6 .int a v) (fun σ' => np_X 52 83 ls st σ') := np_put k52 rfl
theorem e52_83 (x : Nat) {l1 l2 l3 l4 l5 l6 : Option Value} {st : List Value} {σ : nv_St} : np_X 52 83 [some (.ref x), l1, l2, l3, l4, l5, l6] st σ = np_X 52 84 [some (.ref x), l1, l2, l3, l4, l5, l6] (.ref x :: st) σ := np_op k52 rfl rfl
theorem e52_83u  {l1 l2 l3 l4 l5 l6 : Option Value} {st : List Value} {σ : nv_St} : np_X 52 83 [some .null, l1, l2, l3, l4, l5, l6] st σ = np_X 52 84 [some .null, l1, l2, l3, l4, l5, l6] (.null :: st) σ := np_op k52 rfl rfl
theorem e52_84 (x : Nat) {l0 l1 l2 l3 l5 l6 : Option Value} {st : List Value} {σ : nv_St} : np_X 52 84 [l0, l1, l2, l3, some (.ref x), l5, l6] st σ = np_X 52 86 [l0, l1, l2, l3, some (.ref x), l5, l6] (.ref x :: st) σ := np_op k52 rfl rfl
theorem e52_84u  {l0 l1 l2 l3 l5 l6 : Option Value} {st : List Value} {σ : nv_St} : np_X 52 84 [l0, l1, l2, l3, some .null, l5, l6] st σ = np_X 52 86 [l0, l1, l2, l3, some .null, l5, l6] (.null :: st) σ := np_op k52 rfl rfl
theorem e52_86 {ls : nv_Ls} {st : List Value} {σ : nv_St} {a : Nat} : np_X 52 86 ls (.ref a :: st) σ = np_b (nv_fld σ 4 1 a) (fun v => np_X 52 89 ls (v :: st) σ) := np_get k52 rfl
theorem e52_89 {ls : nv_Ls} {st : List Value} {σ : nv_St} {a : Nat} {x0 : Int32} (h : st.length ≤ 4) (h0 : nv_isO σ 2 a = true) : np_X 52 89 ls (.int x0 :: .ref a :: st) σ = np_aft 52 89 92 ls st (np_X 29 0 [some (.ref a), some (.int x0)] [] σ) := np_call k52 rfl (Nat.le_add_left 2 _) rfl rfl h rfl h0 rfl
theorem e52_92 {ls : nv_Ls} {st : List Value} {σ : nv_St} {x : Nat} : np_X 52 92 ls (.ref x :: st) σ = np_X 52 93 ls (.ref x :: .ref x :: st) σ := np_op k52 rfl rfl
theorem e52_92i {ls : nv_Ls} {st : List Value} {σ : nv_St} {x : Int32} : np_X 52 92 ls (.int x :: st) σ = np_X 52 93 ls (.int x :: .int x :: st) σ := np_op k52 rfl rfl
theorem e52_93 {ls : nv_Ls} {st : List Value} {σ : nv_St} {a : Nat} : np_X 52 93 ls (.ref a :: st) σ = np_b (nv_fld σ 0 5 a) (fun v => np_X 52 96 ls (v :: st) σ) := np_get k52 rfl
theorem e52_96 {ls : nv_Ls} {st : List Value} {σ : nv_St} : np_X 52 96 ls st σ = np_X 52 97 ls (.int (1) :: st) σ := np_op k52 rfl rfl
theorem e52_97 {ls : nv_Ls} {st : List Value} {σ : nv_St} {x y : Int32} : np_X 52 97 ls (.int y :: .int x :: st) σ = np_X 52 98 ls (.int (x + y) :: st) σ := np_op k52 rfl rfl
theorem e52_98 {ls : nv_Ls} {st : List Value} {σ : nv_St} {a : Nat} {v : Value} : np_X 52 98 ls (v :: .ref a :: st) σ = np_b (nv_sto σ 0 5 .int a v) (fun σ' => np_X 52 101 ls st σ') := np_put k52 rfl
theorem e52_101 (x : Nat) {l0 l1 l2 l3 l5 l6 : Option Value} {st : List Value} {σ : nv_St} : np_X 52 101 [l0, l1, l2, l3, some (.ref x), l5, l6] st σ = np_X 52 103 [l0, l1, l2, l3, some (.ref x), l5, l6] (.ref x :: st) σ := np_op k52 rfl rfl
theorem e52_101u  {l0 l1 l2 l3 l5 l6 : Option Value} {st : List Value} {σ : nv_St} : np_X 52 101 [l0, l1, l2, l3, some .null, l5, l6] st σ = np_X 52 103 [l0, l1, l2, l3, some .null, l5, l6] (.null :: st) σ := np_op k52 rfl rfl
theorem e52_103 {ls : nv_Ls} {st : List Value} {σ : nv_St} {a : Nat}  (h : st.length ≤ 4) (h0 : nv_isO σ 4 a = true) : np_X 52 103 ls (.ref a :: st) σ = np_aft 52 103 106 ls st (np_X 68 0 [some (.ref a)] [] σ) := np_call k52 rfl (Nat.le_add_left 1 _) rfl rfl h rfl h0 rfl
theorem e52_106 (x : Nat) {l1 l2 l3 l4 l5 l6 : Option Value} {st : List Value} {σ : nv_St} : np_X 52 106 [some (.ref x), l1, l2, l3, l4, l5, l6] st σ = np_X 52 107 [some (.ref x), l1, l2, l3, l4, l5, l6] (.ref x :: st) σ := np_op k52 rfl rfl
theorem e52_106u  {l1 l2 l3 l4 l5 l6 : Option Value} {st : List Value} {σ : nv_St} : np_X 52 106 [some .null, l1, l2, l3, l4, l5, l6] st σ = np_X 52 107 [some .null, l1, l2, l3, l4, l5, l6] (.null :: st) σ := np_op k52 rfl rfl
theorem e52_107 {ls : nv_Ls} {st : List Value} {σ : nv_St} {x : Nat} : np_X 52 107 ls (.ref x :: st) σ = np_X 52 108 ls (.ref x :: .ref x :: st) σ := np_op k52 rfl rfl
theorem e52_107i {ls : nv_Ls} {st : List Value} {σ : nv_St} {x : Int32} : np_X 52 107 ls (.int x :: st) σ = np_X 52 108 ls (.int x :: .int x :: st) σ := np_op k52 rfl rfl
theorem e52_108 {ls : nv_Ls} {st : List Value} {σ : nv_St} {a : Nat} : np_X 52 108 ls (.ref a :: st) σ = np_b (nv_fld σ 2 8 a) (fun v => np_X 52 111 ls (v :: st) σ) := np_get k52 rfl
theorem e52_111 {ls : nv_Ls} {st : List Value} {σ : nv_St} : np_X 52 111 ls st σ = np_X 52 112 ls (.int (1) :: st) σ := np_op k52 rfl rfl
theorem e52_112 {ls : nv_Ls} {st : List Value} {σ : nv_St} {x y : Int32} : np_X 52 112 ls (.int y :: .int x :: st) σ = np_X 52 113 ls (.int (x + y) :: st) σ := np_op k52 rfl rfl
theorem e52_113 {ls : nv_Ls} {st : List Value} {σ : nv_St} {a : Nat} {v : Value} : np_X 52 113 ls (v :: .ref a :: st) σ = np_b (nv_sto σ 2 8 .int a v) (fun σ' => np_X 52 116 ls st σ') := np_put k52 rfl
theorem e52_116 (x : Nat) {l1 l2 l3 l4 l5 l6 : Option Value} {st : List Value} {σ : nv_St} : np_X 52 116 [some (.ref x), l1, l2, l3, l4, l5, l6] st σ = np_X 52 117 [some (.ref x), l1, l2, l3, l4, l5, l6] (.ref x :: st) σ := np_op k52 rfl rfl
theorem e52_116u  {l1 l2 l3 l4 l5 l6 : Option Value} {st : List Value} {σ : nv_St} : np_X 52 116 [some .null, l1, l2, l3, l4, l5, l6] st σ = np_X 52 117 [some .null, l1, l2, l3, l4, l5, l6] (.null :: st) σ := np_op k52 rfl rfl
theorem e52_117 {ls : nv_Ls} {st : List Value} {σ : nv_St} {x : Nat} : np_X 52 117 ls (.ref x :: st) σ = np_X 52 118 ls (.ref x :: .ref x :: st) σ := np_op k52 rfl rfl
theorem e52_117i {ls : nv_Ls} {st : List Value} {σ : nv_St} {x : Int32} : np_X 52 117 ls (.int x :: st) σ = np_X 52 118 ls (.int x :: .int x :: st) σ := np_op k52 rfl rfl
theorem e52_118 {ls : nv_Ls} {st : List Value} {σ : nv_St} {a : Nat} : np_X 52 118 ls (.ref a :: st) σ = np_b (nv_fld σ 2 6 a) (fun v => np_X 52 121 ls (v :: st) σ) := np_get k52 rfl
theorem e52_121 {ls : nv_Ls} {st : List Value} {σ : nv_St} : np_X 52 121 ls st σ = np_X 52 122 ls (.int (1) :: st) σ := np_op k52 rfl rfl
theorem e52_122 {ls : nv_Ls} {st : List Value} {σ : nv_St} {x y : Int32} : np_X 52 122 ls (.int y :: .int x :: st) σ = np_X 52 123 ls (.int (x - y) :: st) σ := np_op k52 rfl rfl
theorem e52_123 {ls : nv_Ls} {st : List Value} {σ : nv_St} {a : Nat} {v : Value} : np_X 52 123 ls (v :: .ref a :: st) σ = np_b (nv_sto σ 2 6 .int a v) (fun σ' => np_X 52 126 ls st σ') := np_put k52 rfl
theorem e52_126 (x : Nat) {l1 l2 l3 l4 l5 l6 : Option Value} {st : List Value} {σ : nv_St} : np_X 52 126 [some (.ref x), l1, l2, l3, l4, l5, l6] st σ = np_X 52 127 [some (.ref x), l1, l2, l3, l4, l5, l6] (.ref x :: st) σ := np_op k52 rfl rfl
theorem e52_126u  {l1 l2 l3 l4 l5 l6 : Option Value} {st : List Value} {σ : nv_St} : np_X 52 126 [some .null, l1, l2, l3, l4, l5, l6] st σ = np_X 52 127 [some .null, l1, l2, l3, l4, l5, l6] (.null :: st) σ := np_op k52 rfl rfl
theorem e52_127 (x : Int32) {l0 l1 l3 l4 l5 l6 : Option Value} {st : List Value} {σ : nv_St} : np_X 52 127 [l0, l1, some (.int x), l3, l4, l5, l6] st σ = np_X 52 128 [l0, l1, some (.int x), l3, l4, l5, l6] (.int x :: st) σ := np_op k52 rfl rfl
theorem e52_128 (x : Int32) {l0 l1 l2 l4 l5 l6 : Option Value} {st : List Value} {σ : nv_St} : np_X 52 128 [l0, l1, l2, some (.int x), l4, l5, l6] st σ = np_X 52 129 [l0, l1, l2, some (.int x), l4, l5, l6] (.int x :: st) σ := np_op k52 rfl rfl
theorem e52_129 {ls : nv_Ls} {st : List Value} {σ : nv_St} {a : Nat} {x0 : Int32} {x1 : Int32} (h : st.length ≤ 4) (h0 : nv_isO σ 2 a = true) : np_X 52 129 ls (.int x1 :: .int x0 :: .ref a :: st) σ = np_aft 52 129 132 ls st (np_X 32 0 [some (.ref a), some (.int x0), some (.int x1), none, none, none, none] [] σ) := np_call k52 rfl (Nat.le_add_left 3 _) rfl rfl h rfl h0 rfl
theorem e52_132n (x : Nat) {l0 l1 l2 l3 l4 l6 : Option Value} {st : List Value} {σ : nv_St} : np_X 52 132 [l0, l1, l2, l3, l4, none, l6] (.ref x :: st) σ = np_X 52 134 [l0, l1, l2, l3, l4, none, some (.ref x)] st σ := np_op k52 rfl rfl
theorem e52_132i (x : Nat) {z : Int32} {l0 l1 l2 l3 l4 l6 : Option Value} {st : List Value} {σ : nv_St} : np_X 52 132 [l0, l1, l2, l3, l4, some (.int z), l6] (.ref x :: st) σ = np_X 52 134 [l0, l1, l2, l3, l4, some (.int z), some (.ref x)] st σ := np_op k52 rfl rfl
theorem e52_132r (x : Nat) {z : Nat} {l0 l1 l2 l3 l4 l6 : Option Value} {st : List Value} {σ : nv_St} : np_X 52 132 [l0, l1, l2, l3, l4, some (.ref z), l6] (.ref x :: st) σ = np_X 52 134 [l0, l1, l2, l3, l4, some (.ref z), some (.ref x)] st σ := np_op k52 rfl rfl
theorem e52_132v (x : Nat) {l0 l1 l2 l3 l4 l6 : Option Value} {st : List Value} {σ : nv_St} : np_X 52 132 [l0, l1, l2, l3, l4, some .null, l6] (.ref x :: st) σ = np_X 52 134 [l0, l1, l2, l3, l4, some .null, some (.ref x)] st σ := np_op k52 rfl rfl
theorem e52_132un  {l0 l1 l2 l3 l4 l6 : Option Value} {st : List Value} {σ : nv_St} : np_X 52 132 [l0, l1, l2, l3, l4, none, l6] (.null :: st) σ = np_X 52 134 [l0, l1, l2, l3, l4, none, some .null] st σ := np_op k52 rfl rfl
theorem e52_132ui  {z : Int32} {l0 l1 l2 l3 l4 l6 : Option Value} {st : List Value} {σ : nv_St} : np_X 52 132 [l0, l1, l2, l3, l4, some (.int z), l6] (.null :: st) σ = np_X 52 134 [l0, l1, l2, l3, l4, some (.int z), some .null] st σ := np_op k52 rfl rfl
theorem e52_132ur  {z : Nat} {l0 l1 l2 l3 l4 l6 : Option Value} {st : List Value} {σ : nv_St} : np_X 52 132 [l0, l1, l2, l3, l4, some (.ref z), l6] (.null :: st) σ = np_X 52 134 [l0, l1, l2, l3, l4, some (.ref z), some .null] st σ := np_op k52 rfl rfl
theorem e52_132uv  {l0 l1 l2 l3 l4 l6 : Option Value} {st : List Value} {σ : nv_St} : np_X 52 132 [l0, l1, l2, l3, l4, some .null, l6] (.null :: st) σ = np_X 52 134 [l0, l1, l2, l3, l4, some .null, some .null] st σ := np_op k52 rfl rfl
theorem e52_134 (x : Nat) {l0 l1 l2 l3 l4 l5 : Option Value} {st : List Value} {σ : nv_St} : np_X 52 134 [l0, l1, l2, l3, l4, l5, some (.ref x)] st σ = np_X 52 136 [l0, l1, l2, l3, l4, l5, some (.ref x)] (.ref x :: st) σ := np_op k52 rfl rfl
theorem e52_134u  {l0 l1 l2 l3 l4 l5 : Option Value} {st : List Value} {σ : nv_St} : np_X 52 134 [l0, l1, l2, l3, l4, l5, some .null] st σ = np_X 52 136 [l0, l1, l2, l3, l4, l5, some .null] (.null :: st) σ := np_op k52 rfl rfl
theorem e52_136 {ls : nv_Ls} {st : List Value} {σ : nv_St} {a : Nat} (h : a < 1000000) : np_X 52 136 ls (.ref a :: st) σ = np_X 52 143 ls st σ := np_ifnonnull k52 rfl h
theorem e52_136u {ls : nv_Ls} {st : List Value} {σ : nv_St} : np_X 52 136 ls (.null :: st) σ = np_X 52 139 ls st σ := np_op k52 rfl rfl
theorem e52_139 {ls : nv_Ls} {st : List Value} {σ : nv_St} : np_X 52 139 ls st σ = np_X 52 140 ls (.int (0) :: st) σ := np_op k52 rfl rfl
theorem e52_140 {ls : nv_Ls} {st : List Value} {σ : nv_St} : np_X 52 140 ls st σ = np_X 52 149 ls st σ := np_op k52 rfl rfl
theorem e52_143 (x : Nat) {l1 l2 l3 l4 l5 l6 : Option Value} {st : List Value} {σ : nv_St} : np_X 52 143 [some (.ref x), l1, l2, l3, l4, l5, l6] st σ = np_X 52 144 [some (.ref x), l1, l2, l3, l4, l5, l6] (.ref x :: st) σ := np_op k52 rfl rfl
theorem e52_143u  {l1 l2 l3 l4 l5 l6 : Option Value} {st : List Value} {σ : nv_St} : np_X 52 143 [some .null, l1, l2, l3, l4, l5, l6] st σ = np_X 52 144 [some .null, l1, l2, l3, l4, l5, l6] (.null :: st) σ := np_op k52 rfl rfl
theorem e52_144 (x : Nat) {l0 l1 l2 l3 l4 l5 : Option Value} {st : List Value} {σ : nv_St} : np_X 52 144 [l0, l1, l2, l3, l4, l5, some (.ref x)] st σ = np_X 52 146 [l0, l1, l2, l3, l4, l5, some (.ref x)] (.ref x :: st) σ := np_op k52 rfl rfl
theorem e52_144u  {l0 l1 l2 l3 l4 l5 : Option Value} {st : List Value} {σ : nv_St} : np_X 52 144 [l0, l1, l2, l3, l4, l5, some .null] st σ = np_X 52 146 [l0, l1, l2, l3, l4, l5, some .null] (.null :: st) σ := np_op k52 rfl rfl
theorem e52_146 {ls : nv_Ls} {st : List Value} {σ : nv_St} {a : Nat} {x0 : Nat} (h : st.length ≤ 4) (h0 : nv_isO σ 2 a = true) : np_X 52 146 ls (.ref x0 :: .ref a :: st) σ = np_aft 52 146 149 ls st (np_X 53 0 [some (.ref a), some (.ref x0), none] [] σ) := np_call k52 rfl (Nat.le_add_left 2 _) rfl rfl h rfl h0 rfl
theorem e52_149 {ls : nv_Ls} {σ : nv_St} {x : Int32} : np_X 52 149 ls [.int x] σ = some (.inl (some (.int x)), σ) := np_reti k52 rfl rfl
-- 53 SpoonNavy$Game.hit
theorem k53 : np_P.1 53 = np_c53 := rfl
theorem e53_0 (x : Nat) {l1 l2 : Option Value} {st : List Value} {σ : nv_St} : np_X 53 0 [some (.ref x), l1, l2] st σ = np_X 53 1 [some (.ref x), l1, l2] (.ref x :: st) σ := np_op k53 rfl rfl
theorem e53_0u  {l1 l2 : Option Value} {st : List Value} {σ : nv_St} : np_X 53 0 [some .null, l1, l2] st σ = np_X 53 1 [some .null, l1, l2] (.null :: st) σ := np_op k53 rfl rfl
theorem e53_1 {ls : nv_Ls} {st : List Value} {σ : nv_St} {x : Nat} : np_X 53 1 ls (.ref x :: st) σ = np_X 53 2 ls (.ref x :: .ref x :: st) σ := np_op k53 rfl rfl
theorem e53_1i {ls : nv_Ls} {st : List Value} {σ : nv_St} {x : Int32} : np_X 53 1 ls (.int x :: st) σ = np_X 53 2 ls (.int x :: .int x :: st) σ := np_op k53 rfl rfl
theorem e53_2 {ls : nv_Ls} {st : List Value} {σ : nv_St} {a : Nat} : np_X 53 2 ls (.ref a :: st) σ = np_b (nv_fld σ 2 9 a) (fun v => np_X 53 5 ls (v :: st) σ) := np_get k53 rfl
theorem e53_5 {ls : nv_Ls} {st : List Value} {σ : nv_St} : np_X 53 5 ls st σ = np_X 53 6 ls (.int (1) :: st) σ := np_op k53 rfl rfl
theorem e53_6 {ls : nv_Ls} {st : List Value} {σ : nv_St} {x y : Int32} : np_X 53 6 ls (.int y :: .int x :: st) σ = np_X 53 7 ls (.int (x + y) :: st) σ := np_op k53 rfl rfl
theorem e53_7 {ls : nv_Ls} {st : List Value} {σ : nv_St} {a : Nat} {v : Value} : np_X 53 7 ls (v :: .ref a :: st) σ = np_b (nv_sto σ 2 9 .int a v) (fun σ' => np_X 53 10 ls st σ') := np_put k53 rfl
theorem e53_10 (x : Nat) {l0 l2 : Option Value} {st : List Value} {σ : nv_St} : np_X 53 10 [l0, some (.ref x), l2] st σ = np_X 53 11 [l0, some (.ref x), l2] (.ref x :: st) σ := np_op k53 rfl rfl
theorem e53_10u  {l0 l2 : Option Value} {st : List Value} {σ : nv_St} : np_X 53 10 [l0, some .null, l2] st σ = np_X 53 11 [l0, some .null, l2] (.null :: st) σ := np_op k53 rfl rfl
theorem e53_11 {ls : nv_Ls} {st : List Value} {σ : nv_St} {x : Nat} : np_X 53 11 ls (.ref x :: st) σ = np_X 53 12 ls (.ref x :: .ref x :: st) σ := np_op k53 rfl rfl
theorem e53_11i {ls : nv_Ls} {st : List Value} {σ : nv_St} {x : Int32} : np_X 53 11 ls (.int x :: st) σ = np_X 53 12 ls (.int x :: .int x :: st) σ := np_op k53 rfl rfl
theorem e53_12 {ls : nv_Ls} {st : List Value} {σ : nv_St} {a : Nat} : np_X 53 12 ls (.ref a :: st) σ = np_b (nv_fld σ 4 5 a) (fun v => np_X 53 15 ls (v :: st) σ) := np_get k53 rfl
theorem e53_15 {ls : nv_Ls} {st : List Value} {σ : nv_St} : np_X 53 15 ls st σ = np_X 53 16 ls (.int (1) :: st) σ := np_op k53 rfl rfl
theorem e53_16 {ls : nv_Ls} {st : List Value} {σ : nv_St} {x y : Int32} : np_X 53 16 ls (.int y :: .int x :: st) σ = np_X 53 17 ls (.int (x - y) :: st) σ := np_op k53 rfl rfl
theorem e53_17 {ls : nv_Ls} {st : List Value} {σ : nv_St} {a : Nat} {v : Value} : np_X 53 17 ls (v :: .ref a :: st) σ = np_b (nv_sto σ 4 5 .int a v) (fun σ' => np_X 53 20 ls st σ') := np_put k53 rfl
theorem e53_20 (x : Nat) {l0 l2 : Option Value} {st : List Value} {σ : nv_St} : np_X 53 20 [l0, some (.ref x), l2] st σ = np_X 53 21 [l0, some (.ref x), l2] (.ref x :: st) σ := np_op k53 rfl rfl
theorem e53_20u  {l0 l2 : Option Value} {st : List Value} {σ : nv_St} : np_X 53 20 [l0, some .null, l2] st σ = np_X 53 21 [l0, some .null, l2] (.null :: st) σ := np_op k53 rfl rfl
theorem e53_21 {ls : nv_Ls} {st : List Value} {σ : nv_St} {a : Nat}  (h : st.length ≤ 4) (h0 : nv_isO σ 4 a = true) : np_X 53 21 ls (.ref a :: st) σ = np_aft 53 21 24 ls st (np_X 68 0 [some (.ref a)] [] σ) := np_call k53 rfl (Nat.le_add_left 1 _) rfl rfl h rfl h0 rfl
theorem e53_24 (x : Nat) {l0 l2 : Option Value} {st : List Value} {σ : nv_St} : np_X 53 24 [l0, some (.ref x), l2] st σ = np_X 53 25 [l0, some (.ref x), l2] (.ref x :: st) σ := np_op k53 rfl rfl
theorem e53_24u  {l0 l2 : Option Value} {st : List Value} {σ : nv_St} : np_X 53 24 [l0, some .null, l2] st σ = np_X 53 25 [l0, some .null, l2] (.null :: st) σ := np_op k53 rfl rfl
theorem e53_25 {ls : nv_Ls} {st : List Value} {σ : nv_St} {a : Nat}  (h : st.length ≤ 4) (h0 : nv_isO σ 4 a = true) : np_X 53 25 ls (.ref a :: st) σ = np_aft 53 25 28 ls st (np_X 62 0 [some (.ref a)] [] σ) := np_call k53 rfl (Nat.le_add_left 1 _) rfl rfl h rfl h0 rfl
theorem e53_28 {ls : nv_Ls} {st : List Value} {σ : nv_St} {x : Int32} : np_X 53 28 ls (.int x :: st) σ = if x = 0 then np_X 53 33 ls st σ else np_X 53 31 ls st σ := np_br inferInstance k53 rfl rfl
theorem e53_31 {ls : nv_Ls} {st : List Value} {σ : nv_St} : np_X 53 31 ls st σ = np_X 53 32 ls (.int (1) :: st) σ := np_op k53 rfl rfl
theorem e53_32 {ls : nv_Ls} {σ : nv_St} {x : Int32} : np_X 53 32 ls [.int x] σ = some (.inl (some (.int x)), σ) := np_reti k53 rfl rfl
theorem e53_33 (x : Nat) {l1 l2 : Option Value} {st : List Value} {σ : nv_St} : np_X 53 33 [some (.ref x), l1, l2] st σ = np_X 53 34 [some (.ref x), l1, l2] (.ref x :: st) σ := np_op k53 rfl rfl
theorem e53_33u  {l1 l2 : Option Value} {st : List Value} {σ : nv_St} : np_X 53 33 [some .null, l1, l2] st σ = np_X 53 34 [some .null, l1, l2] (.null :: st) σ := np_op k53 rfl rfl
theorem e53_34 (x : Nat) {l0 l2 : Option Value} {st : List Value} {σ : nv_St} : np_X 53 34 [l0, some (.ref x), l2] st σ = np_X 53 35 [l0, some (.ref x), l2] (.ref x :: st) σ := np_op k53 rfl rfl
theorem e53_34u  {l0 l2 : Option Value} {st : List Value} {σ : nv_St} : np_X 53 34 [l0, some .null, l2] st σ = np_X 53 35 [l0, some .null, l2] (.null :: st) σ := np_op k53 rfl rfl
theorem e53_35 {ls : nv_Ls} {st : List Value} {σ : nv_St} {a : Nat} : np_X 53 35 ls (.ref a :: st) σ = np_b (nv_fld σ 4 1 a) (fun v => np_X 53 38 ls (v :: st) σ) := np_get k53 rfl
theorem e53_38 {ls : nv_Ls} {st : List Value} {σ : nv_St} {a : Nat} {x0 : Int32} (h : st.length ≤ 4) (h0 : nv_isO σ 2 a = true) : np_X 53 38 ls (.int x0 :: .ref a :: st) σ = np_aft 53 38 41 ls st (np_X 29 0 [some (.ref a), some (.int x0)] [] σ) := np_call k53 rfl (Nat.le_add_left 2 _) rfl rfl h rfl h0 rfl
theorem e53_41n (x : Nat) {l0 l2 : Option Value} {st : List Value} {σ : nv_St} : np_X 53 41 [l0, none, l2] (.ref x :: st) σ = np_X 53 42 [l0, none, some (.ref x)] st σ := np_op k53 rfl rfl
theorem e53_41i (x : Nat) {z : Int32} {l0 l2 : Option Value} {st : List Value} {σ : nv_St} : np_X 53 41 [l0, some (.int z), l2] (.ref x :: st) σ = np_X 53 42 [l0, some (.int z), some (.ref x)] st σ := np_op k53 rfl rfl
theorem e53_41r (x : Nat) {z : Nat} {l0 l2 : Option Value} {st : List Value} {σ : nv_St} : np_X 53 41 [l0, some (.ref z), l2] (.ref x :: st) σ = np_X 53 42 [l0, some (.ref z), some (.ref x)] st σ := np_op k53 rfl rfl
theorem e53_41v (x : Nat) {l0 l2 : Option Value} {st : List Value} {σ : nv_St} : np_X 53 41 [l0, some .null, l2] (.ref x :: st) σ = np_X 53 42 [l0, some .null, some (.ref x)] st σ := np_op k53 rfl rfl
theorem e53_41un  {l0 l2 : Option Value} {st : List Value} {σ : nv_St} : np_X 53 41 [l0, none, l2] (.null :: st) σ = np_X 53 42 [l0, none, some .null] st σ := np_op k53 rfl rfl
theorem e53_41ui  {z : Int32} {l0 l2 : Option Value} {st : List Value} {σ : nv_St} : np_X 53 41 [l0, some (.int z), l2] (.null :: st) σ = np_X 53 42 [l0, some (.int z), some .null] st σ := np_op k53 rfl rfl
theorem e53_41ur  {z : Nat} {l0 l2 : Option Value} {st : List Value} {σ : nv_St} : np_X 53 41 [l0, some (.ref z), l2] (.null :: st) σ = np_X 53 42 [l0, some (.ref z), some .null] st σ := np_op k53 rfl rfl
theorem e53_41uv  {l0 l2 : Option Value} {st : List Value} {σ : nv_St} : np_X 53 41 [l0, some .null, l2] (.null :: st) σ = np_X 53 42 [l0, some .null, some .null] st σ := np_op k53 rfl rfl
theorem e53_42 (x : Nat) {l0 l1 : Option Value} {st : List Value} {σ : nv_St} : np_X 53 42 [l0, l1, some (.ref x)] st σ = np_X 53 43 [l0, l1, some (.ref x)] (.ref x :: st) σ := np_op k53 rfl rfl
theorem e53_42u  {l0 l1 : Option Value} {st : List Value} {σ : nv_St} : np_X 53 42 [l0, l1, some .null] st σ = np_X 53 43 [l0, l1, some .null] (.null :: st) σ := np_op k53 rfl rfl
theorem e53_43 {ls : nv_Ls} {st : List Value} {σ : nv_St} {x : Nat} : np_X 53 43 ls (.ref x :: st) σ = np_X 53 44 ls (.ref x :: .ref x :: st) σ := np_op k53 rfl rfl
theorem e53_43i {ls : nv_Ls} {st : List Value} {σ : nv_St} {x : Int32} : np_X 53 43 ls (.int x :: st) σ = np_X 53 44 ls (.int x :: .int x :: st) σ := np_op k53 rfl rfl
theorem e53_44 {ls : nv_Ls} {st : List Value} {σ : nv_St} {a : Nat} : np_X 53 44 ls (.ref a :: st) σ = np_b (nv_fld σ 0 1 a) (fun v => np_X 53 47 ls (v :: st) σ) := np_get k53 rfl
theorem e53_47 {ls : nv_Ls} {st : List Value} {σ : nv_St} : np_X 53 47 ls st σ = np_X 53 48 ls (.int (1) :: st) σ := np_op k53 rfl rfl
theorem e53_48 {ls : nv_Ls} {st : List Value} {σ : nv_St} {x y : Int32} : np_X 53 48 ls (.int y :: .int x :: st) σ = np_X 53 49 ls (.int (x - y) :: st) σ := np_op k53 rfl rfl
theorem e53_49 {ls : nv_Ls} {st : List Value} {σ : nv_St} {a : Nat} {v : Value} : np_X 53 49 ls (v :: .ref a :: st) σ = np_b (nv_sto σ 0 1 .int a v) (fun σ' => np_X 53 52 ls st σ') := np_put k53 rfl
theorem e53_52 (x : Nat) {l0 l1 : Option Value} {st : List Value} {σ : nv_St} : np_X 53 52 [l0, l1, some (.ref x)] st σ = np_X 53 53 [l0, l1, some (.ref x)] (.ref x :: st) σ := np_op k53 rfl rfl
theorem e53_52u  {l0 l1 : Option Value} {st : List Value} {σ : nv_St} : np_X 53 52 [l0, l1, some .null] st σ = np_X 53 53 [l0, l1, some .null] (.null :: st) σ := np_op k53 rfl rfl
theorem e53_53 {ls : nv_Ls} {st : List Value} {σ : nv_St} {x : Nat} : np_X 53 53 ls (.ref x :: st) σ = np_X 53 54 ls (.ref x :: .ref x :: st) σ := np_op k53 rfl rfl
theorem e53_53i {ls : nv_Ls} {st : List Value} {σ : nv_St} {x : Int32} : np_X 53 53 ls (.int x :: st) σ = np_X 53 54 ls (.int x :: .int x :: st) σ := np_op k53 rfl rfl
theorem e53_54 {ls : nv_Ls} {st : List Value} {σ : nv_St} {a : Nat} : np_X 53 54 ls (.ref a :: st) σ = np_b (nv_fld σ 0 7 a) (fun v => np_X 53 57 ls (v :: st) σ) := np_get k53 rfl
theorem e53_57 (x : Nat) {l0 l2 : Option Value} {st : List Value} {σ : nv_St} : np_X 53 57 [l0, some (.ref x), l2] st σ = np_X 53 58 [l0, some (.ref x), l2] (.ref x :: st) σ := np_op k53 rfl rfl
theorem e53_57u  {l0 l2 : Option Value} {st : List Value} {σ : nv_St} : np_X 53 57 [l0, some .null, l2] st σ = np_X 53 58 [l0, some .null, l2] (.null :: st) σ := np_op k53 rfl rfl
theorem e53_58 {ls : nv_Ls} {st : List Value} {σ : nv_St} {a : Nat} : np_X 53 58 ls (.ref a :: st) σ = np_b (nv_fld σ 4 6 a) (fun v => np_X 53 61 ls (v :: st) σ) := np_get k53 rfl
theorem e53_61 {ls : nv_Ls} {st : List Value} {σ : nv_St} {x y : Int32} : np_X 53 61 ls (.int y :: .int x :: st) σ = np_X 53 62 ls (.int (x + y) :: st) σ := np_op k53 rfl rfl
theorem e53_62 {ls : nv_Ls} {st : List Value} {σ : nv_St} {a : Nat} {v : Value} : np_X 53 62 ls (v :: .ref a :: st) σ = np_b (nv_sto σ 0 7 .int a v) (fun σ' => np_X 53 65 ls st σ') := np_put k53 rfl
theorem e53_65 (x : Nat) {l0 l2 : Option Value} {st : List Value} {σ : nv_St} : np_X 53 65 [l0, some (.ref x), l2] st σ = np_X 53 66 [l0, some (.ref x), l2] (.ref x :: st) σ := np_op k53 rfl rfl
theorem e53_65u  {l0 l2 : Option Value} {st : List Value} {σ : nv_St} : np_X 53 65 [l0, some .null, l2] st σ = np_X 53 66 [l0, some .null, l2] (.null :: st) σ := np_op k53 rfl rfl
theorem e53_66 {ls : nv_Ls} {st : List Value} {σ : nv_St} : np_X 53 66 ls st σ = np_X 53 67 ls (.int (0) :: st) σ := np_op k53 rfl rfl
theorem e53_67 {ls : nv_Ls} {st : List Value} {σ : nv_St} {a : Nat} {v : Value} : np_X 53 67 ls (v :: .ref a :: st) σ = np_b (nv_sto σ 4 6 .int a v) (fun σ' => np_X 53 70 ls st σ') := np_put k53 rfl
theorem e53_70 {ls : nv_Ls} {st : List Value} {σ : nv_St} : np_X 53 70 ls st σ = np_X 53 71 ls (.int (2) :: st) σ := np_op k53 rfl rfl
theorem e53_71 {ls : nv_Ls} {σ : nv_St} {x : Int32} : np_X 53 71 ls [.int x] σ = some (.inl (some (.int x)), σ) := np_reti k53 rfl rfl
-- 54 SpoonNavy$Game.fill
theorem k54 : np_P.1 54 = np_c54 := rfl
theorem e54_0 (x : Nat) {l1 l2 l3 l4 l5 : Option Value} {st : List Value} {σ : nv_St} : np_X 54 0 [some (.ref x), l1, l2, l3, l4, l5] st σ = np_X 54 1 [some (.ref x), l1, l2, l3, l4, l5] (.ref x :: st) σ := np_op k54 rfl rfl
theorem e54_0u  {l1 l2 l3 l4 l5 : Option Value} {st : List Value} {σ : nv_St} : np_X 54 0 [some .null, l1, l2, l3, l4, l5] st σ = np_X 54 1 [some .null, l1, l2, l3, l4, l5] (.null :: st) σ := np_op k54 rfl rfl
theorem e54_1 (x : Int32) {l0 l2 l3 l4 l5 : Option Value} {st : List Value} {σ : nv_St} : np_X 54 1 [l0, some (.int x), l2, l3, l4, l5] st σ = np_X 54 2 [l0, some (.int x), l2, l3, l4, l5] (.int x :: st) σ := np_op k54 rfl rfl
theorem e54_2 {ls : nv_Ls} {st : List Value} {σ : nv_St} {a : Nat} {x0 : Int32} (h : st.length ≤ 4) (h0 : nv_isO σ 2 a = true) : np_X 54 2 ls (.int x0 :: .ref a :: st) σ = np_aft 54 2 5 ls st (np_X 28 0 [some (.ref a), some (.int x0)] [] σ) := np_call k54 rfl (Nat.le_add_left 2 _) rfl rfl h rfl h0 rfl
theorem e54_5n (x : Nat) {l0 l1 l3 l4 l5 : Option Value} {st : List Value} {σ : nv_St} : np_X 54 5 [l0, l1, none, l3, l4, l5] (.ref x :: st) σ = np_X 54 6 [l0, l1, none, some (.ref x), l4, l5] st σ := np_op k54 rfl rfl
theorem e54_5i (x : Nat) {z : Int32} {l0 l1 l3 l4 l5 : Option Value} {st : List Value} {σ : nv_St} : np_X 54 5 [l0, l1, some (.int z), l3, l4, l5] (.ref x :: st) σ = np_X 54 6 [l0, l1, some (.int z), some (.ref x), l4, l5] st σ := np_op k54 rfl rfl
theorem e54_5r (x : Nat) {z : Nat} {l0 l1 l3 l4 l5 : Option Value} {st : List Value} {σ : nv_St} : np_X 54 5 [l0, l1, some (.ref z), l3, l4, l5] (.ref x :: st) σ = np_X 54 6 [l0, l1, some (.ref z), some (.ref x), l4, l5] st σ := np_op k54 rfl rfl
theorem e54_5v (x : Nat) {l0 l1 l3 l4 l5 : Option Value} {st : List Value} {σ : nv_St} : np_X 54 5 [l0, l1, some .null, l3, l4, l5] (.ref x :: st) σ = np_X 54 6 [l0, l1, some .null, some (.ref x), l4, l5] st σ := np_op k54 rfl rfl
theorem e54_5un  {l0 l1 l3 l4 l5 : Option Value} {st : List Value} {σ : nv_St} : np_X 54 5 [l0, l1, none, l3, l4, l5] (.null :: st) σ = np_X 54 6 [l0, l1, none, some .null, l4, l5] st σ := np_op k54 rfl rfl
theorem e54_5ui  {z : Int32} {l0 l1 l3 l4 l5 : Option Value} {st : List Value} {σ : nv_St} : np_X 54 5 [l0, l1, some (.int z), l3, l4, l5] (.null :: st) σ = np_X 54 6 [l0, l1, some (.int z), some .null, l4, l5] st σ := np_op k54 rfl rfl
theorem e54_5ur  {z : Nat} {l0 l1 l3 l4 l5 : Option Value} {st : List Value} {σ : nv_St} : np_X 54 5 [l0, l1, some (.ref z), l3, l4, l5] (.null :: st) σ = np_X 54 6 [l0, l1, some (.ref z), some .null, l4, l5] st σ := np_op k54 rfl rfl
theorem e54_5uv  {l0 l1 l3 l4 l5 : Option Value} {st : List Value} {σ : nv_St} : np_X 54 5 [l0, l1, some .null, l3, l4, l5] (.null :: st) σ = np_X 54 6 [l0, l1, some .null, some .null, l4, l5] st σ := np_op k54 rfl rfl
theorem e54_6 (x : Nat) {l0 l1 l2 l4 l5 : Option Value} {st : List Value} {σ : nv_St} : np_X 54 6 [l0, l1, l2, some (.ref x), l4, l5] st σ = np_X 54 7 [l0, l1, l2, some (.ref x), l4, l5] (.ref x :: st) σ := np_op k54 rfl rfl
theorem e54_6u  {l0 l1 l2 l4 l5 : Option Value} {st : List Value} {σ : nv_St} : np_X 54 6 [l0, l1, l2, some .null, l4, l5] st σ = np_X 54 7 [l0, l1, l2, some .null, l4, l5] (.null :: st) σ := np_op k54 rfl rfl
theorem e54_7 {ls : nv_Ls} {st : List Value} {σ : nv_St} {a : Nat} (h : a < 1000000) : np_X 54 7 ls (.ref a :: st) σ = np_X 54 12 ls st σ := np_ifnonnull k54 rfl h
theorem e54_7u {ls : nv_Ls} {st : List Value} {σ : nv_St} : np_X 54 7 ls (.null :: st) σ = np_X 54 10 ls st σ := np_op k54 rfl rfl
theorem e54_10 {ls : nv_Ls} {st : List Value} {σ : nv_St} : np_X 54 10 ls st σ = np_X 54 11 ls (.int (-1) :: st) σ := np_op k54 rfl rfl
theorem e54_11 {ls : nv_Ls} {σ : nv_St} {x : Int32} : np_X 54 11 ls [.int x] σ = some (.inl (some (.int x)), σ) := np_reti k54 rfl rfl
theorem e54_12 (x : Nat) {l1 l2 l3 l4 l5 : Option Value} {st : List Value} {σ : nv_St} : np_X 54 12 [some (.ref x), l1, l2, l3, l4, l5] st σ = np_X 54 13 [some (.ref x), l1, l2, l3, l4, l5] (.ref x :: st) σ := np_op k54 rfl rfl
theorem e54_12u  {l1 l2 l3 l4 l5 : Option Value} {st : List Value} {σ : nv_St} : np_X 54 12 [some .null, l1, l2, l3, l4, l5] st σ = np_X 54 13 [some .null, l1, l2, l3, l4, l5] (.null :: st) σ := np_op k54 rfl rfl
theorem e54_13 (x : Nat) {l0 l1 l2 l4 l5 : Option Value} {st : List Value} {σ : nv_St} : np_X 54 13 [l0, l1, l2, some (.ref x), l4, l5] st σ = np_X 54 14 [l0, l1, l2, some (.ref x), l4, l5] (.ref x :: st) σ := np_op k54 rfl rfl
theorem e54_13u  {l0 l1 l2 l4 l5 : Option Value} {st : List Value} {σ : nv_St} : np_X 54 13 [l0, l1, l2, some .null, l4, l5] st σ = np_X 54 14 [l0, l1, l2, some .null, l4, l5] (.null :: st) σ := np_op k54 rfl rfl
theorem e54_14 (x : Int32) {l0 l1 l3 l4 l5 : Option Value} {st : List Value} {σ : nv_St} : np_X 54 14 [l0, l1, some (.int x), l3, l4, l5] st σ = np_X 54 15 [l0, l1, some (.int x), l3, l4, l5] (.int x :: st) σ := np_op k54 rfl rfl
theorem e54_15 {ls : nv_Ls} {st : List Value} {σ : nv_St}  {x0 : Int32} (h : st.length ≤ 4) : np_X 54 15 ls (.int x0 :: st) σ = np_aft 54 15 18 ls st (np_X 135 0 [some (.int x0)] [] σ) := np_call k54 rfl (Nat.le_add_left 1 _) rfl rfl h rfl rfl rfl
theorem e54_18 {ls : nv_Ls} {st : List Value} {σ : nv_St} {a : Nat} {x0 : Nat} {x1 : Int32} (h : st.length ≤ 4) (h0 : nv_isO σ 2 a = true) : np_X 54 18 ls (.int x1 :: .ref x0 :: .ref a :: st) σ = np_aft 54 18 21 ls st (np_X 55 0 [some (.ref a), some (.ref x0), some (.int x1)] [] σ) := np_call k54 rfl (Nat.le_add_left 3 _) rfl rfl h rfl h0 rfl
theorem e54_21n (x : Int32) {l0 l1 l2 l4 l5 : Option Value} {st : List Value} {σ : nv_St} : np_X 54 21 [l0, l1, l2, none, l4, l5] (.int x :: st) σ = np_X 54 23 [l0, l1, l2, none, some (.int x), l5] st σ := np_op k54 rfl rfl
theorem e54_21i (x : Int32) {z : Int32} {l0 l1 l2 l4 l5 : Option Value} {st : List Value} {σ : nv_St} : np_X 54 21 [l0, l1, l2, some (.int z), l4, l5] (.int x :: st) σ = np_X 54 23 [l0, l1, l2, some (.int z), some (.int x), l5] st σ := np_op k54 rfl rfl
theorem e54_21r (x : Int32) {z : Nat} {l0 l1 l2 l4 l5 : Option Value} {st : List Value} {σ : nv_St} : np_X 54 21 [l0, l1, l2, some (.ref z), l4, l5] (.int x :: st) σ = np_X 54 23 [l0, l1, l2, some (.ref z), some (.int x), l5] st σ := np_op k54 rfl rfl
theorem e54_21v (x : Int32) {l0 l1 l2 l4 l5 : Option Value} {st : List Value} {σ : nv_St} : np_X 54 21 [l0, l1, l2, some .null, l4, l5] (.int x :: st) σ = np_X 54 23 [l0, l1, l2, some .null, some (.int x), l5] st σ := np_op k54 rfl rfl
theorem e54_23 (x : Int32) {l0 l1 l2 l3 l5 : Option Value} {st : List Value} {σ : nv_St} : np_X 54 23 [l0, l1, l2, l3, some (.int x), l5] st σ = np_X 54 25 [l0, l1, l2, l3, some (.int x), l5] (.int x :: st) σ := np_op k54 rfl rfl
theorem e54_25 {ls : nv_Ls} {st : List Value} {σ : nv_St} {x : Int32} : np_X 54 25 ls (.int x :: st) σ = if x = 0 then np_X 54 31 ls st σ else np_X 54 28 ls st σ := np_br inferInstance k54 rfl rfl
theorem e54_28 (x : Int32) {l0 l1 l2 l3 l5 : Option Value} {st : List Value} {σ : nv_St} : np_X 54 28 [l0, l1, l2, l3, some (.int x), l5] st σ = np_X 54 30 [l0, l1, l2, l3, some (.int x), l5] (.int x :: st) σ := np_op k54 rfl rfl
theorem e54_30 {ls : nv_Ls} {σ : nv_St} {x : Int32} : np_X 54 30 ls [.int x] σ = some (.inl (some (.int x)), σ) := np_reti k54 rfl rfl
theorem e54_31 (x : Nat) {l1 l2 l3 l4 l5 : Option Value} {st : List Value} {σ : nv_St} : np_X 54 31 [some (.ref x), l1, l2, l3, l4, l5] st σ = np_X 54 32 [some (.ref x), l1, l2, l3, l4, l5] (.ref x :: st) σ := np_op k54 rfl rfl
theorem e54_31u  {l1 l2 l3 l4 l5 : Option Value} {st : List Value} {σ : nv_St} : np_X 54 31 [some .null, l1, l2, l3, l4, l5] st σ = np_X 54 32 [some .null, l1, l2, l3, l4, l5] (.null :: st) σ := np_op k54 rfl rfl
theorem e54_32 (x : Nat) {l0 l1 l2 l4 l5 : Option Value} {st : List Value} {σ : nv_St} : np_X 54 32 [l0, l1, l2, some (.ref x), l4, l5] st σ = np_X 54 33 [l0, l1, l2, some (.ref x), l4, l5] (.ref x :: st) σ := np_op k54 rfl rfl
theorem e54_32u  {l0 l1 l2 l4 l5 : Option Value} {st : List Value} {σ : nv_St} : np_X 54 32 [l0, l1, l2, some .null, l4, l5] st σ = np_X 54 33 [l0, l1, l2, some .null, l4, l5] (.null :: st) σ := np_op k54 rfl rfl
theorem e54_33 {ls : nv_Ls} {st : List Value} {σ : nv_St} {a : Nat} : np_X 54 33 ls (.ref a :: st) σ = np_b (nv_fld σ 4 1 a) (fun v => np_X 54 36 ls (v :: st) σ) := np_get k54 rfl
theorem e54_36 {ls : nv_Ls} {st : List Value} {σ : nv_St} {a : Nat} {x0 : Int32} (h : st.length ≤ 4) (h0 : nv_isO σ 2 a = true) : np_X 54 36 ls (.int x0 :: .ref a :: st) σ = np_aft 54 36 39 ls st (np_X 29 0 [some (.ref a), some (.int x0)] [] σ) := np_call k54 rfl (Nat.le_add_left 2 _) rfl rfl h rfl h0 rfl
theorem e54_39n (x : Nat) {l0 l1 l2 l3 l5 : Option Value} {st : List Value} {σ : nv_St} : np_X 54 39 [l0, l1, l2, l3, none, l5] (.ref x :: st) σ = np_X 54 41 [l0, l1, l2, l3, none, some (.ref x)] st σ := np_op k54 rfl rfl
theorem e54_39i (x : Nat) {z : Int32} {l0 l1 l2 l3 l5 : Option Value} {st : List Value} {σ : nv_St} : np_X 54 39 [l0, l1, l2, l3, some (.int z), l5] (.ref x :: st) σ = np_X 54 41 [l0, l1, l2, l3, some (.int z), some (.ref x)] st σ := np_op k54 rfl rfl
theorem e54_39r (x : Nat) {z : Nat} {l0 l1 l2 l3 l5 : Option Value} {st : List Value} {σ : nv_St} : np_X 54 39 [l0, l1, l2, l3, some (.ref z), l5] (.ref x :: st) σ = np_X 54 41 [l0, l1, l2, l3, some (.ref z), some (.ref x)] st σ := np_op k54 rfl rfl
theorem e54_39v (x : Nat) {l0 l1 l2 l3 l5 : Option Value} {st : List Value} {σ : nv_St} : np_X 54 39 [l0, l1, l2, l3, some .null, l5] (.ref x :: st) σ = np_X 54 41 [l0, l1, l2, l3, some .null, some (.ref x)] st σ := np_op k54 rfl rfl
theorem e54_39un  {l0 l1 l2 l3 l5 : Option Value} {st : List Value} {σ : nv_St} : np_X 54 39 [l0, l1, l2, l3, none, l5] (.null :: st) σ = np_X 54 41 [l0, l1, l2, l3, none, some .null] st σ := np_op k54 rfl rfl
theorem e54_39ui  {z : Int32} {l0 l1 l2 l3 l5 : Option Value} {st : List Value} {σ : nv_St} : np_X 54 39 [l0, l1, l2, l3, some (.int z), l5] (.null :: st) σ = np_X 54 41 [l0, l1, l2, l3, some (.int z), some .null] st σ := np_op k54 rfl rfl
theorem e54_39ur  {z : Nat} {l0 l1 l2 l3 l5 : Option Value} {st : List Value} {σ : nv_St} : np_X 54 39 [l0, l1, l2, l3, some (.ref z), l5] (.null :: st) σ = np_X 54 41 [l0, l1, l2, l3, some (.ref z), some .null] st σ := np_op k54 rfl rfl
theorem e54_39uv  {l0 l1 l2 l3 l5 : Option Value} {st : List Value} {σ : nv_St} : np_X 54 39 [l0, l1, l2, l3, some .null, l5] (.null :: st) σ = np_X 54 41 [l0, l1, l2, l3, some .null, some .null] st σ := np_op k54 rfl rfl
theorem e54_41 (x : Nat) {l0 l1 l2 l3 l4 : Option Value} {st : List Value} {σ : nv_St} : np_X 54 41 [l0, l1, l2, l3, l4, some (.ref x)] st σ = np_X 54 43 [l0, l1, l2, l3, l4, some (.ref x)] (.ref x :: st) σ := np_op k54 rfl rfl
theorem e54_41u  {l0 l1 l2 l3 l4 : Option Value} {st : List Value} {σ : nv_St} : np_X 54 41 [l0, l1, l2, l3, l4, some .null] st σ = np_X 54 43 [l0, l1, l2, l3, l4, some .null] (.null :: st) σ := np_op k54 rfl rfl
theorem e54_43 {ls : nv_Ls} {st : List Value} {σ : nv_St} {a : Nat} : np_X 54 43 ls (.ref a :: st) σ = np_b (nv_fld σ 0 2 a) (fun v => np_X 54 46 ls (v :: st) σ) := np_get k54 rfl
theorem e54_46 (x : Int32) {l0 l1 l3 l4 l5 : Option Value} {st : List Value} {σ : nv_St} : np_X 54 46 [l0, l1, some (.int x), l3, l4, l5] st σ = np_X 54 47 [l0, l1, some (.int x), l3, l4, l5] (.int x :: st) σ := np_op k54 rfl rfl
theorem e54_47 {ls : nv_Ls} {st : List Value} {σ : nv_St} {x y : Int32} : np_X 54 47 ls (.int y :: .int x :: st) σ = if x < y then np_X 54 61 ls st σ else np_X 54 50 ls st σ := np_br inferInstance k54 rfl rfl
theorem e54_50 (x : Nat) {l0 l1 l2 l4 l5 : Option Value} {st : List Value} {σ : nv_St} : np_X 54 50 [l0, l1, l2, some (.ref x), l4, l5] st σ = np_X 54 51 [l0, l1, l2, some (.ref x), l4, l5] (.ref x :: st) σ := np_op k54 rfl rfl
theorem e54_50u  {l0 l1 l2 l4 l5 : Option Value} {st : List Value} {σ : nv_St} : np_X 54 50 [l0, l1, l2, some .null, l4, l5] st σ = np_X 54 51 [l0, l1, l2, some .null, l4, l5] (.null :: st) σ := np_op k54 rfl rfl
theorem e54_51 {ls : nv_Ls} {st : List Value} {σ : nv_St} {a : Nat} : np_X 54 51 ls (.ref a :: st) σ = np_b (nv_fld σ 4 6 a) (fun v => np_X 54 54 ls (v :: st) σ) := np_get k54 rfl
theorem e54_54 (x : Int32) {l0 l1 l3 l4 l5 : Option Value} {st : List Value} {σ : nv_St} : np_X 54 54 [l0, l1, some (.int x), l3, l4, l5] st σ = np_X 54 55 [l0, l1, some (.int x), l3, l4, l5] (.int x :: st) σ := np_op k54 rfl rfl
theorem e54_55 {ls : nv_Ls} {st : List Value} {σ : nv_St} {x y : Int32} : np_X 54 55 ls (.int y :: .int x :: st) σ = np_X 54 56 ls (.int (x + y) :: st) σ := np_op k54 rfl rfl
theorem e54_56 {ls : nv_Ls} {st : List Value} {σ : nv_St} : np_X 54 56 ls st σ = np_X 54 58 ls (.int (9) :: st) σ := np_op k54 rfl rfl
theorem e54_58 {ls : nv_Ls} {st : List Value} {σ : nv_St} {x y : Int32} : np_X 54 58 ls (.int y :: .int x :: st) σ = if y < x then np_X 54 61 ls st σ else np_X 54 64 ls st σ := np_br inferInstance k54 rfl rfl
theorem e54_61 {ls : nv_Ls} {st : List Value} {σ : nv_St} : np_X 54 61 ls st σ = np_X 54 63 ls (.int (-16) :: st) σ := np_op k54 rfl rfl
theorem e54_63 {ls : nv_Ls} {σ : nv_St} {x : Int32} : np_X 54 63 ls [.int x] σ = some (.inl (some (.int x)), σ) := np_reti k54 rfl rfl
theorem e54_64 (x : Nat) {l0 l1 l2 l3 l4 : Option Value} {st : List Value} {σ : nv_St} : np_X 54 64 [l0, l1, l2, l3, l4, some (.ref x)] st σ = np_X 54 66 [l0, l1, l2, l3, l4, some (.ref x)] (.ref x :: st) σ := np_op k54 rfl rfl
theorem e54_64u  {l0 l1 l2 l3 l4 : Option Value} {st : List Value} {σ : nv_St} : np_X 54 64 [l0, l1, l2, l3, l4, some .null] st σ = np_X 54 66 [l0, l1, l2, l3, l4, some .null] (.null :: st) σ := np_op k54 rfl rfl
theorem e54_66 {ls : nv_Ls} {st : List Value} {σ : nv_St} {x : Nat} : np_X 54 66 ls (.ref x :: st) σ = np_X 54 67 ls (.ref x :: .ref x :: st) σ := np_op k54 rfl rfl
theorem e54_66i {ls : nv_Ls} {st : List Value} {σ : nv_St} {x : Int32} : np_X 54 66 ls (.int x :: st) σ = np_X 54 67 ls (.int x :: .int x :: st) σ := np_op k54 rfl rfl
theorem e54_67 {ls : nv_Ls} {st : List Value} {σ : nv_St} {a : Nat} : np_X 54 67 ls (.ref a :: st) σ = np_b (nv_fld σ 0 2 a) (fun v => np_X 54 70 ls (v :: st) σ) := np_get k54 rfl
theorem e54_70 (x : Int32) {l0 l1 l3 l4 l5 : Option Value} {st : List Value} {σ : nv_St} : np_X 54 70 [l0, l1, some (.int x), l3, l4, l5] st σ = np_X 54 71 [l0, l1, some (.int x), l3, l4, l5] (.int x :: st) σ := np_op k54 rfl rfl
theorem e54_71 {ls : nv_Ls} {st : List Value} {σ : nv_St} {x y : Int32} : np_X 54 71 ls (.int y :: .int x :: st) σ = np_X 54 72 ls (.int (x - y) :: st) σ := np_op k54 rfl rfl
theorem e54_72 {ls : nv_Ls} {st : List Value} {σ : nv_St} {a : Nat} {v : Value} : np_X 54 72 ls (v :: .ref a :: st) σ = np_b (nv_sto σ 0 2 .int a v) (fun σ' => np_X 54 75 ls st σ') := np_put k54 rfl
theorem e54_75 (x : Nat) {l0 l1 l2 l3 l4 : Option Value} {st : List Value} {σ : nv_St} : np_X 54 75 [l0, l1, l2, l3, l4, some (.ref x)] st σ = np_X 54 77 [l0, l1, l2, l3, l4, some (.ref x)] (.ref x :: st) σ := np_op k54 rfl rfl
theorem e54_75u  {l0 l1 l2 l3 l4 : Option Value} {st : List Value} {σ : nv_St} : np_X 54 75 [l0, l1, l2, l3, l4, some .null] st σ = np_X 54 77 [l0, l1, l2, l3, l4, some .null] (.null :: st) σ := np_op k54 rfl rfl
theorem e54_77 {ls : nv_Ls} {st : List Value} {σ : nv_St} {x : Nat} : np_X 54 77 ls (.ref x :: st) σ = np_X 54 78 ls (.ref x :: .ref x :: st) σ := np_op k54 rfl rfl
theorem e54_77i {ls : nv_Ls} {st : List Value} {σ : nv_St} {x : Int32} : np_X 54 77 ls (.int x :: st) σ = np_X 54 78 ls (.int x :: .int x :: st) σ := np_op k54 rfl rfl
theorem e54_78 {ls : nv_Ls} {st : List Value} {σ : nv_St} {a : Nat} : np_X 54 78 ls (.ref a :: st) σ = np_b (nv_fld σ 0 4 a) (fun v => np_X 54 81 ls (v :: st) σ) := np_get k54 rfl
theorem e54_81 (x : Int32) {l0 l1 l3 l4 l5 : Option Value} {st : List Value} {σ : nv_St} : np_X 54 81 [l0, l1, some (.int x), l3, l4, l5] st σ = np_X 54 82 [l0, l1, some (.int x), l3, l4, l5] (.int x :: st) σ := np_op k54 rfl rfl
theorem e54_82 {ls : nv_Ls} {st : List Value} {σ : nv_St} {x y : Int32} : np_X 54 82 ls (.int y :: .int x :: st) σ = np_X 54 83 ls (.int (x + y) :: st) σ := np_op k54 rfl rfl
theorem e54_83 {ls : nv_Ls} {st : List Value} {σ : nv_St} {a : Nat} {v : Value} : np_X 54 83 ls (v :: .ref a :: st) σ = np_b (nv_sto σ 0 4 .int a v) (fun σ' => np_X 54 86 ls st σ') := np_put k54 rfl
theorem e54_86 (x : Nat) {l0 l1 l2 l4 l5 : Option Value} {st : List Value} {σ : nv_St} : np_X 54 86 [l0, l1, l2, some (.ref x), l4, l5] st σ = np_X 54 87 [l0, l1, l2, some (.ref x), l4, l5] (.ref x :: st) σ := np_op k54 rfl rfl
theorem e54_86u  {l0 l1 l2 l4 l5 : Option Value} {st : List Value} {σ : nv_St} : np_X 54 86 [l0, l1, l2, some .null, l4, l5] st σ = np_X 54 87 [l0, l1, l2, some .null, l4, l5] (.null :: st) σ := np_op k54 rfl rfl
theorem e54_87 {ls : nv_Ls} {st : List Value} {σ : nv_St} {x : Nat} : np_X 54 87 ls (.ref x :: st) σ = np_X 54 88 ls (.ref x :: .ref x :: st) σ := np_op k54 rfl rfl
theorem e54_87i {ls : nv_Ls} {st : List Value} {σ : nv_St} {x : Int32} : np_X 54 87 ls (.int x :: st) σ = np_X 54 88 ls (.int x :: .int x :: st) σ := np_op k54 rfl rfl
theorem e54_88 {ls : nv_Ls} {st : List Value} {σ : nv_St} {a : Nat} : np_X 54 88 ls (.ref a :: st) σ = np_b (nv_fld σ 4 6 a) (fun v => np_X 54 91 ls (v :: st) σ) := np_get k54 rfl
theorem e54_91 (x : Int32) {l0 l1 l3 l4 l5 : Option Value} {st : List Value} {σ : nv_St} : np_X 54 91 [l0, l1, some (.int x), l3, l4, l5] st σ = np_X 54 92 [l0, l1, some (.int x), l3, l4, l5] (.int x :: st) σ := np_op k54 rfl rfl
theorem e54_92 {ls : nv_Ls} {st : List Value} {σ : nv_St} {x y : Int32} : np_X 54 92 ls (.int y :: .int x :: st) σ = np_X 54 93 ls (.int (x + y) :: st) σ := np_op k54 rfl rfl
theorem e54_93 {ls : nv_Ls} {st : List Value} {σ : nv_St} {a : Nat} {v : Value} : np_X 54 93 ls (v :: .ref a :: st) σ = np_b (nv_sto σ 4 6 .int a v) (fun σ' => np_X 54 96 ls st σ') := np_put k54 rfl
theorem e54_96 (x : Nat) {l1 l2 l3 l4 l5 : Option Value} {st : List Value} {σ : nv_St} : np_X 54 96 [some (.ref x), l1, l2, l3, l4, l5] st σ = np_X 54 97 [some (.ref x), l1, l2, l3, l4, l5] (.ref x :: st) σ := np_op k54 rfl rfl
theorem e54_96u  {l1 l2 l3 l4 l5 : Option Value} {st : List Value} {σ : nv_St} : np_X 54 96 [some .null, l1, l2, l3, l4, l5] st σ = np_X 54 97 [some .null, l1, l2, l3, l4, l5] (.null :: st) σ := np_op k54 rfl rfl
theorem e54_97 {ls : nv_Ls} {st : List Value} {σ : nv_St} {x : Nat} : np_X 54 97 ls (.ref x :: st) σ = np_X 54 98 ls (.ref x :: .ref x :: st) σ := np_op k54 rfl rfl
theorem e54_97i {ls : nv_Ls} {st : List Value} {σ : nv_St} {x : Int32} : np_X 54 97 ls (.int x :: st) σ = np_X 54 98 ls (.int x :: .int x :: st) σ := np_op k54 rfl rfl
theorem e54_98 {ls : nv_Ls} {st : List Value} {σ : nv_St} {a : Nat} : np_X 54 98 ls (.ref a :: st) σ = np_b (nv_fld σ 2 6 a) (fun v => np_X 54 101 ls (v :: st) σ) := np_get k54 rfl
theorem e54_101 {ls : nv_Ls} {st : List Value} {σ : nv_St} : np_X 54 101 ls st σ = np_X 54 102 ls (.int (1) :: st) σ := np_op k54 rfl rfl
theorem e54_102 {ls : nv_Ls} {st : List Value} {σ : nv_St} {x y : Int32} : np_X 54 102 ls (.int y :: .int x :: st) σ = np_X 54 103 ls (.int (x - y) :: st) σ := np_op k54 rfl rfl
theorem e54_103 {ls : nv_Ls} {st : List Value} {σ : nv_St} {a : Nat} {v : Value} : np_X 54 103 ls (v :: .ref a :: st) σ = np_b (nv_sto σ 2 6 .int a v) (fun σ' => np_X 54 106 ls st σ') := np_put k54 rfl
theorem e54_106 (x : Nat) {l0 l1 l2 l4 l5 : Option Value} {st : List Value} {σ : nv_St} : np_X 54 106 [l0, l1, l2, some (.ref x), l4, l5] st σ = np_X 54 107 [l0, l1, l2, some (.ref x), l4, l5] (.ref x :: st) σ := np_op k54 rfl rfl
theorem e54_106u  {l0 l1 l2 l4 l5 : Option Value} {st : List Value} {σ : nv_St} : np_X 54 106 [l0, l1, l2, some .null, l4, l5] st σ = np_X 54 107 [l0, l1, l2, some .null, l4, l5] (.null :: st) σ := np_op k54 rfl rfl
theorem e54_107 {ls : nv_Ls} {st : List Value} {σ : nv_St} {a : Nat} : np_X 54 107 ls (.ref a :: st) σ = np_b (nv_fld σ 4 6 a) (fun v => np_X 54 110 ls (v :: st) σ) := np_get k54 rfl
theorem e54_110 {ls : nv_Ls} {σ : nv_St} {x : Int32} : np_X 54 110 ls [.int x] σ = some (.inl (some (.int x)), σ) := np_reti k54 rfl rfl
-- 55 SpoonNavy$Game.objectionTo
theorem k55 : np_P.1 55 = np_c55 := rfl
theorem e55_0 (x : Int32) {l0 l1 : Option Value} {st : List Value} {σ : nv_St} : np_X 55 0 [l0, l1, some (.int x)] st σ = np_X 55 1 [l0, l1, some (.int x)] (.int x :: st) σ := np_op k55 rfl rfl
theorem e55_1 {ls : nv_Ls} {st : List Value} {σ : nv_St} {x : Int32} : np_X 55 1 ls (.int x :: st) σ = if x = 0 then np_X 55 4 ls st σ else np_X 55 7 ls st σ := np_br inferInstance k55 rfl rfl
theorem e55_4 {ls : nv_Ls} {st : List Value} {σ : nv_St} : np_X 55 4 ls st σ = np_X 55 6 ls (.int (-2) :: st) σ := np_op k55 rfl rfl
theorem e55_6 {ls : nv_Ls} {σ : nv_St} {x : Int32} : np_X 55 6 ls [.int x] σ = some (.inl (some (.int x)), σ) := np_reti k55 rfl rfl
theorem e55_7 (x : Nat) {l1 l2 : Option Value} {st : List Value} {σ : nv_St} : np_X 55 7 [some (.ref x), l1, l2] st σ = np_X 55 8 [some (.ref x), l1, l2] (.ref x :: st) σ := np_op k55 rfl rfl
theorem e55_7u  {l1 l2 : Option Value} {st : List Value} {σ : nv_St} : np_X 55 7 [some .null, l1, l2] st σ = np_X 55 8 [some .null, l1, l2] (.null :: st) σ := np_op k55 rfl rfl
theorem e55_8 {ls : nv_Ls} {st : List Value} {σ : nv_St} {a : Nat}  (h : st.length ≤ 4) (h0 : nv_isO σ 2 a = true) : np_X 55 8 ls (.ref a :: st) σ = np_aft 55 8 11 ls st (np_X 31 0 [some (.ref a)] [] σ) := np_call k55 rfl (Nat.le_add_left 1 _) rfl rfl h rfl h0 rfl
theorem e55_11 {ls : nv_Ls} {st : List Value} {σ : nv_St} {x : Int32} : np_X 55 11 ls (.int x :: st) σ = if x = 0 then np_X 55 25 ls st σ else np_X 55 14 ls st σ := np_br inferInstance k55 rfl rfl
theorem e55_14 (x : Nat) {l0 l2 : Option Value} {st : List Value} {σ : nv_St} : np_X 55 14 [l0, some (.ref x), l2] st σ = np_X 55 15 [l0, some (.ref x), l2] (.ref x :: st) σ := np_op k55 rfl rfl
theorem e55_14u  {l0 l2 : Option Value} {st : List Value} {σ : nv_St} : np_X 55 14 [l0, some .null, l2] st σ = np_X 55 15 [l0, some .null, l2] (.null :: st) σ := np_op k55 rfl rfl
theorem e55_15 (x : Nat) {l1 l2 : Option Value} {st : List Value} {σ : nv_St} : np_X 55 15 [some (.ref x), l1, l2] st σ = np_X 55 16 [some (.ref x), l1, l2] (.ref x :: st) σ := np_op k55 rfl rfl
theorem e55_15u  {l1 l2 : Option Value} {st : List Value} {σ : nv_St} : np_X 55 15 [some .null, l1, l2] st σ = np_X 55 16 [some .null, l1, l2] (.null :: st) σ := np_op k55 rfl rfl
theorem e55_16 {ls : nv_Ls} {st : List Value} {σ : nv_St} {a : Nat} : np_X 55 16 ls (.ref a :: st) σ = np_b (nv_fld σ 2 5 a) (fun v => np_X 55 19 ls (v :: st) σ) := np_get k55 rfl
theorem e55_19 {ls : nv_Ls} {st : List Value} {σ : nv_St} {a : Nat} {x0 : Int32} (h : st.length ≤ 4) (h0 : nv_isO σ 4 a = true) : np_X 55 19 ls (.int x0 :: .ref a :: st) σ = np_aft 55 19 22 ls st (np_X 63 0 [some (.ref a), some (.int x0)] [] σ) := np_call k55 rfl (Nat.le_add_left 2 _) rfl rfl h rfl h0 rfl
theorem e55_22 {ls : nv_Ls} {st : List Value} {σ : nv_St} {x : Int32} : np_X 55 22 ls (.int x :: st) σ = if x = 0 then np_X 55 25 ls st σ else np_X 55 28 ls st σ := np_br inferInstance k55 rfl rfl
theorem e55_25 {ls : nv_Ls} {st : List Value} {σ : nv_St} : np_X 55 25 ls st σ = np_X 55 27 ls (.int (-3) :: st) σ := np_op k55 rfl rfl
theorem e55_27 {ls : nv_Ls} {σ : nv_St} {x : Int32} : np_X 55 27 ls [.int x] σ = some (.inl (some (.int x)), σ) := np_reti k55 rfl rfl
theorem e55_28 (x : Nat) {l1 l2 : Option Value} {st : List Value} {σ : nv_St} : np_X 55 28 [some (.ref x), l1, l2] st σ = np_X 55 29 [some (.ref x), l1, l2] (.ref x :: st) σ := np_op k55 rfl rfl
theorem e55_28u  {l1 l2 : Option Value} {st : List Value} {σ : nv_St} : np_X 55 28 [some .null, l1, l2] st σ = np_X 55 29 [some .null, l1, l2] (.null :: st) σ := np_op k55 rfl rfl
theorem e55_29 {ls : nv_Ls} {st : List Value} {σ : nv_St} {a : Nat} : np_X 55 29 ls (.ref a :: st) σ = np_b (nv_fld σ 2 6 a) (fun v => np_X 55 32 ls (v :: st) σ) := np_get k55 rfl
theorem e55_32 {ls : nv_Ls} {st : List Value} {σ : nv_St} {x : Int32} : np_X 55 32 ls (.int x :: st) σ = if x = 0 then np_X 55 35 ls st σ else np_X 55 40 ls st σ := np_br inferInstance k55 rfl rfl
theorem e55_35 {ls : nv_Ls} {st : List Value} {σ : nv_St} : np_X 55 35 ls st σ = np_X 55 37 ls (.int (-11) :: st) σ := np_op k55 rfl rfl
theorem e55_37 {ls : nv_Ls} {st : List Value} {σ : nv_St} : np_X 55 37 ls st σ = np_X 55 41 ls st σ := np_op k55 rfl rfl
theorem e55_40 {ls : nv_Ls} {st : List Value} {σ : nv_St} : np_X 55 40 ls st σ = np_X 55 41 ls (.int (0) :: st) σ := np_op k55 rfl rfl
theorem e55_41 {ls : nv_Ls} {σ : nv_St} {x : Int32} : np_X 55 41 ls [.int x] σ = some (.inl (some (.int x)), σ) := np_reti k55 rfl rfl
-- 56 SpoonNavy$History.<init>
theorem k56 : np_P.1 56 = np_c56 := rfl
theorem e56_0 (x : Nat) {l1 : Option Value} {st : List Value} {σ : nv_St} : np_X 56 0 [some (.ref x), l1] st σ = np_X 56 1 [some (.ref x), l1] (.ref x :: st) σ := np_op k56 rfl rfl
theorem e56_0u  {l1 : Option Value} {st : List Value} {σ : nv_St} : np_X 56 0 [some .null, l1] st σ = np_X 56 1 [some .null, l1] (.null :: st) σ := np_op k56 rfl rfl
theorem e56_1 {ls : nv_Ls} {st : List Value} {σ : nv_St} {a : Nat} (h : a < 1000000) (h1 : st.length ≤ 4) : np_X 56 1 ls (.ref a :: st) σ = np_X 56 4 ls st σ := np_oinit k56 rfl h h1
theorem e56_4 (x : Nat) {l1 : Option Value} {st : List Value} {σ : nv_St} : np_X 56 4 [some (.ref x), l1] st σ = np_X 56 5 [some (.ref x), l1] (.ref x :: st) σ := np_op k56 rfl rfl
theorem e56_4u  {l1 : Option Value} {st : List Value} {σ : nv_St} : np_X 56 4 [some .null, l1] st σ = np_X 56 5 [some .null, l1] (.null :: st) σ := np_op k56 rfl rfl
theorem e56_5 {ls : nv_Ls} {st : List Value} {σ : nv_St} : np_X 56 5 ls st σ = np_X 56 7 ls (.int (8) :: st) σ := np_op k56 rfl rfl
theorem e56_7 {ls : nv_Ls} {st : List Value} {σ : nv_St} {x : Int32} (h : σ.2.2.1 = 0) (h1 : σ.2.1 < 1000000) (h2 : ¬ x < 0) (h3 : x.toNatClampNeg ≤ 1000) : np_X 56 7 ls (.int x :: st) σ = np_X 56 10 ls (.ref σ.2.1 :: st) (nv_mk σ (.inl (3, x.toNatClampNeg, .inr (fun _ => none))) x.toNatClampNeg) := np_op k56 rfl (by simp only [nv_newq]; rw [if_pos ⟨h, h1, h2, h3⟩])
theorem e56_10 {ls : nv_Ls} {st : List Value} {σ : nv_St} {a : Nat} {v : Value} : np_X 56 10 ls (v :: .ref a :: st) σ = np_b (nv_sto σ 3 0 (.array (.object "SpoonNavy$Game")) a v) (fun σ' => np_X 56 13 ls st σ') := np_put k56 rfl
theorem e56_13 (x : Nat) {l1 : Option Value} {st : List Value} {σ : nv_St} : np_X 56 13 [some (.ref x), l1] st σ = np_X 56 14 [some (.ref x), l1] (.ref x :: st) σ := np_op k56 rfl rfl
theorem e56_13u  {l1 : Option Value} {st : List Value} {σ : nv_St} : np_X 56 13 [some .null, l1] st σ = np_X 56 14 [some .null, l1] (.null :: st) σ := np_op k56 rfl rfl
theorem e56_14 {ls : nv_Ls} {st : List Value} {σ : nv_St} : np_X 56 14 ls st σ = np_X 56 15 ls (.int (0) :: st) σ := np_op k56 rfl rfl
theorem e56_15 {ls : nv_Ls} {st : List Value} {σ : nv_St} {a : Nat} {v : Value} : np_X 56 15 ls (v :: .ref a :: st) σ = np_b (nv_sto σ 3 1 .int a v) (fun σ' => np_X 56 18 ls st σ') := np_put k56 rfl
theorem e56_18 (x : Nat) {l1 : Option Value} {st : List Value} {σ : nv_St} : np_X 56 18 [some (.ref x), l1] st σ = np_X 56 19 [some (.ref x), l1] (.ref x :: st) σ := np_op k56 rfl rfl
theorem e56_18u  {l1 : Option Value} {st : List Value} {σ : nv_St} : np_X 56 18 [some .null, l1] st σ = np_X 56 19 [some .null, l1] (.null :: st) σ := np_op k56 rfl rfl
theorem e56_19 {ls : nv_Ls} {st : List Value} {σ : nv_St} : np_X 56 19 ls st σ = np_X 56 20 ls (.int (0) :: st) σ := np_op k56 rfl rfl
theorem e56_20 {ls : nv_Ls} {st : List Value} {σ : nv_St} {a : Nat} {v : Value} : np_X 56 20 ls (v :: .ref a :: st) σ = np_b (nv_sto σ 3 2 .int a v) (fun σ' => np_X 56 23 ls st σ') := np_put k56 rfl
theorem e56_23 {ls : nv_Ls} {st : List Value} {σ : nv_St} : np_X 56 23 ls st σ = np_X 56 24 ls (.int (0) :: st) σ := np_op k56 rfl rfl
theorem e56_24n (x : Int32) {l1 : Option Value} {st : List Value} {σ : nv_St} : np_X 56 24 [none, l1] (.int x :: st) σ = np_X 56 25 [none, some (.int x)] st σ := np_op k56 rfl rfl
theorem e56_24i (x : Int32) {z : Int32} {l1 : Option Value} {st : List Value} {σ : nv_St} : np_X 56 24 [some (.int z), l1] (.int x :: st) σ = np_X 56 25 [some (.int z), some (.int x)] st σ := np_op k56 rfl rfl
theorem e56_24r (x : Int32) {z : Nat} {l1 : Option Value} {st : List Value} {σ : nv_St} : np_X 56 24 [some (.ref z), l1] (.int x :: st) σ = np_X 56 25 [some (.ref z), some (.int x)] st σ := np_op k56 rfl rfl
theorem e56_24v (x : Int32) {l1 : Option Value} {st : List Value} {σ : nv_St} : np_X 56 24 [some .null, l1] (.int x :: st) σ = np_X 56 25 [some .null, some (.int x)] st σ := np_op k56 rfl rfl
theorem e56_25 (x : Int32) {l0 : Option Value} {st : List Value} {σ : nv_St} : np_X 56 25 [l0, some (.int x)] st σ = np_X 56 26 [l0, some (.int x)] (.int x :: st) σ := np_op k56 rfl rfl
theorem e56_26 (x : Nat) {l1 : Option Value} {st : List Value} {σ : nv_St} : np_X 56 26 [some (.ref x), l1] st σ = np_X 56 27 [some (.ref x), l1] (.ref x :: st) σ := np_op k56 rfl rfl
theorem e56_26u  {l1 : Option Value} {st : List Value} {σ : nv_St} : np_X 56 26 [some .null, l1] st σ = np_X 56 27 [some .null, l1] (.null :: st) σ := np_op k56 rfl rfl
theorem e56_27 {ls : nv_Ls} {st : List Value} {σ : nv_St} {a : Nat} : np_X 56 27 ls (.ref a :: st) σ = np_b (nv_fld σ 3 0 a) (fun v => np_X 56 30 ls (v :: st) σ) := np_get k56 rfl
theorem e56_30 {ls : nv_Ls} {st : List Value} {σ : nv_St} {a : Nat} : np_X 56 30 ls (.ref a :: st) σ = np_b (nv_len σ 3 a) (fun m => np_X 56 31 ls (.int (Int32.ofNat m) :: st) σ) := np_alen k56 rfl
theorem e56_31 {ls : nv_Ls} {st : List Value} {σ : nv_St} {x y : Int32} : np_X 56 31 ls (.int y :: .int x :: st) σ = if x < y then np_X 56 34 ls st σ else np_X 56 53 ls st σ := np_br inferInstance k56 rfl rfl
theorem e56_34 (x : Nat) {l1 : Option Value} {st : List Value} {σ : nv_St} : np_X 56 34 [some (.ref x), l1] st σ = np_X 56 35 [some (.ref x), l1] (.ref x :: st) σ := np_op k56 rfl rfl
theorem e56_34u  {l1 : Option Value} {st : List Value} {σ : nv_St} : np_X 56 34 [some .null, l1] st σ = np_X 56 35 [some .null, l1] (.null :: st) σ := np_op k56 rfl rfl
theorem e56_35 {ls : nv_Ls} {st : List Value} {σ : nv_St} {a : Nat} : np_X 56 35 ls (.ref a :: st) σ = np_b (nv_fld σ 3 0 a) (fun v => np_X 56 38 ls (v :: st) σ) := np_get k56 rfl
theorem e56_38 (x : Int32) {l0 : Option Value} {st : List Value} {σ : nv_St} : np_X 56 38 [l0, some (.int x)] st σ = np_X 56 39 [l0, some (.int x)] (.int x :: st) σ := np_op k56 rfl rfl
theorem e56_39 {ls : nv_Ls} {st : List Value} {σ : nv_St} (h : σ.2.2.1 = 0) (h1 : σ.2.1 < 1000000) : np_X 56 39 ls st σ = np_X 56 42 ls (.ref σ.2.1 :: st) (nv_mk σ (.inr (2, [.null, .null, .null, .int 0, .int 0, .int 0, .int 0, .int 0, .int 0, .int 0, .long 0, .int 0])) 12) := np_op k56 rfl (by simp only [nv_new]; rw [if_pos ⟨h, h1⟩]; rfl)
theorem e56_42 {ls : nv_Ls} {st : List Value} {σ : nv_St} {x : Nat} : np_X 56 42 ls (.ref x :: st) σ = np_X 56 43 ls (.ref x :: .ref x :: st) σ := np_op k56 rfl rfl
theorem e56_42i {ls : nv_Ls} {st : List Value} {σ : nv_St} {x : Int32} : np_X 56 42 ls (.int x :: st) σ = np_X 56 43 ls (.int x :: .int x :: st) σ := np_op k56 rfl rfl
theorem e56_43 {ls : nv_Ls} {st : List Value} {σ : nv_St} {a : Nat}  (h : st.length ≤ 4) (h0 : nv_isO σ 2 a = true) : np_X 56 43 ls (.ref a :: st) σ = np_aft 56 43 46 ls st (np_X 26 0 [some (.ref a), none] [] σ) := np_call k56 rfl (Nat.le_add_left 1 _) rfl rfl h rfl h0 rfl
theorem e56_46 {ls : nv_Ls} {st : List Value} {σ : nv_St} {a v : Nat} {x : Int32} (h : nv_isO σ 2 v = true) : np_X 56 46 ls (.ref v :: .int x :: .ref a :: st) σ = np_b (nv_wrq σ 3 a x v) (fun σ' => np_X 56 47 ls st σ') := np_astq k56 rfl h
theorem e56_47n (x : Int32) {st : List Value} {σ : nv_St} : np_X 56 47 [none, some (.int x)] st σ = np_X 56 50 [none, some (.int (x + (1)))] st σ := np_op k56 rfl rfl
theorem e56_47i (x : Int32) {z : Int32} {st : List Value} {σ : nv_St} : np_X 56 47 [some (.int z), some (.int x)] st σ = np_X 56 50 [some (.int z), some (.int (x + (1)))] st σ := np_op k56 rfl rfl
theorem e56_47r (x : Int32) {z : Nat} {st : List Value} {σ : nv_St} : np_X 56 47 [some (.ref z), some (.int x)] st σ = np_X 56 50 [some (.ref z), some (.int (x + (1)))] st σ := np_op k56 rfl rfl
theorem e56_47v (x : Int32) {st : List Value} {σ : nv_St} : np_X 56 47 [some .null, some (.int x)] st σ = np_X 56 50 [some .null, some (.int (x + (1)))] st σ := np_op k56 rfl rfl
theorem e56_50 {ls : nv_Ls} {st : List Value} {σ : nv_St} : np_X 56 50 ls st σ = np_X 56 25 ls st σ := np_op k56 rfl rfl
theorem e56_53 {ls : nv_Ls} {σ : nv_St} : np_X 56 53 ls [] σ = some (.inl none, σ) := np_ret k56 rfl rfl
-- 57 SpoonNavy$History.push
theorem k57 : np_P.1 57 = np_c57 := rfl
theorem e57_0 (x : Nat) {l1 : Option Value} {st : List Value} {σ : nv_St} : np_X 57 0 [some (.ref x), l1] st σ = np_X 57 1 [some (.ref x), l1] (.ref x :: st) σ := np_op k57 rfl rfl
theorem e57_0u  {l1 : Option Value} {st : List Value} {σ : nv_St} : np_X 57 0 [some .null, l1] st σ = np_X 57 1 [some .null, l1] (.null :: st) σ := np_op k57 rfl rfl
theorem e57_1 {ls : nv_Ls} {st : List Value} {σ : nv_St} {a : Nat} : np_X 57 1 ls (.ref a :: st) σ = np_b (nv_fld σ 3 1 a) (fun v => np_X 57 4 ls (v :: st) σ) := np_get k57 rfl
theorem e57_4 {ls : nv_Ls} {st : List Value} {σ : nv_St} {x : Int32} : np_X 57 4 ls (.int x :: st) σ = if x < 0 then np_X 57 19 ls st σ else np_X 57 7 ls st σ := np_br inferInstance k57 rfl rfl
theorem e57_7 (x : Nat) {l1 : Option Value} {st : List Value} {σ : nv_St} : np_X 57 7 [some (.ref x), l1] st σ = np_X 57 8 [some (.ref x), l1] (.ref x :: st) σ := np_op k57 rfl rfl
theorem e57_7u  {l1 : Option Value} {st : List Value} {σ : nv_St} : np_X 57 7 [some .null, l1] st σ = np_X 57 8 [some .null, l1] (.null :: st) σ := np_op k57 rfl rfl
theorem e57_8 {ls : nv_Ls} {st : List Value} {σ : nv_St} {a : Nat} : np_X 57 8 ls (.ref a :: st) σ = np_b (nv_fld σ 3 1 a) (fun v => np_X 57 11 ls (v :: st) σ) := np_get k57 rfl
theorem e57_11 (x : Nat) {l1 : Option Value} {st : List Value} {σ : nv_St} : np_X 57 11 [some (.ref x), l1] st σ = np_X 57 12 [some (.ref x), l1] (.ref x :: st) σ := np_op k57 rfl rfl
theorem e57_11u  {l1 : Option Value} {st : List Value} {σ : nv_St} : np_X 57 11 [some .null, l1] st σ = np_X 57 12 [some .null, l1] (.null :: st) σ := np_op k57 rfl rfl
theorem e57_12 {ls : nv_Ls} {st : List Value} {σ : nv_St} {a : Nat} : np_X 57 12 ls (.ref a :: st) σ = np_b (nv_fld σ 3 0 a) (fun v => np_X 57 15 ls (v :: st) σ) := np_get k57 rfl
theorem e57_15 {ls : nv_Ls} {st : List Value} {σ : nv_St} {a : Nat} : np_X 57 15 ls (.ref a :: st) σ = np_b (nv_len σ 3 a) (fun m => np_X 57 16 ls (.int (Int32.ofNat m) :: st) σ) := np_alen k57 rfl
theorem e57_16 {ls : nv_Ls} {st : List Value} {σ : nv_St} {x y : Int32} : np_X 57 16 ls (.int y :: .int x :: st) σ = if x < y then np_X 57 20 ls st σ else np_X 57 19 ls st σ := np_br inferInstance k57 rfl rfl
theorem e57_19 {ls : nv_Ls} {σ : nv_St} : np_X 57 19 ls [] σ = some (.inl none, σ) := np_ret k57 rfl rfl
theorem e57_20 (x : Nat) {l1 : Option Value} {st : List Value} {σ : nv_St} : np_X 57 20 [some (.ref x), l1] st σ = np_X 57 21 [some (.ref x), l1] (.ref x :: st) σ := np_op k57 rfl rfl
theorem e57_20u  {l1 : Option Value} {st : List Value} {σ : nv_St} : np_X 57 20 [some .null, l1] st σ = np_X 57 21 [some .null, l1] (.null :: st) σ := np_op k57 rfl rfl
theorem e57_21 {ls : nv_Ls} {st : List Value} {σ : nv_St} {a : Nat} : np_X 57 21 ls (.ref a :: st) σ = np_b (nv_fld σ 3 0 a) (fun v => np_X 57 24 ls (v :: st) σ) := np_get k57 rfl
theorem e57_24 (x : Nat) {l1 : Option Value} {st : List Value} {σ : nv_St} : np_X 57 24 [some (.ref x), l1] st σ = np_X 57 25 [some (.ref x), l1] (.ref x :: st) σ := np_op k57 rfl rfl
theorem e57_24u  {l1 : Option Value} {st : List Value} {σ : nv_St} : np_X 57 24 [some .null, l1] st σ = np_X 57 25 [some .null, l1] (.null :: st) σ := np_op k57 rfl rfl
theorem e57_25 {ls : nv_Ls} {st : List Value} {σ : nv_St} {a : Nat} : np_X 57 25 ls (.ref a :: st) σ = np_b (nv_fld σ 3 1 a) (fun v => np_X 57 28 ls (v :: st) σ) := np_get k57 rfl
theorem e57_28 {ls : nv_Ls} {st : List Value} {σ : nv_St} {a : Nat} {x : Int32} : np_X 57 28 ls (.int x :: .ref a :: st) σ = np_b (nv_rdq σ 3 a x) (fun v => np_X 57 29 ls (v :: st) σ) := np_aldq k57 rfl
theorem e57_29 (x : Nat) {l0 : Option Value} {st : List Value} {σ : nv_St} : np_X 57 29 [l0, some (.ref x)] st σ = np_X 57 30 [l0, some (.ref x)] (.ref x :: st) σ := np_op k57 rfl rfl
theorem e57_29u  {l0 : Option Value} {st : List Value} {σ : nv_St} : np_X 57 29 [l0, some .null] st σ = np_X 57 30 [l0, some .null] (.null :: st) σ := np_op k57 rfl rfl
theorem e57_30 {ls : nv_Ls} {st : List Value} {σ : nv_St} {a : Nat} {x0 : Nat} (h : st.length ≤ 4) (h0 : nv_isO σ 2 a = true) : np_X 57 30 ls (.ref x0 :: .ref a :: st) σ = np_aft 57 30 33 ls st (np_X 27 0 [some (.ref a), some (.ref x0), none] [] σ) := np_call k57 rfl (Nat.le_add_left 2 _) rfl rfl h rfl h0 rfl
theorem e57_33 (x : Nat) {l1 : Option Value} {st : List Value} {σ : nv_St} : np_X 57 33 [some (.ref x), l1] st σ = np_X 57 34 [some (.ref x), l1] (.ref x :: st) σ := np_op k57 rfl rfl
theorem e57_33u  {l1 : Option Value} {st : List Value} {σ : nv_St} : np_X 57 33 [some .null, l1] st σ = np_X 57 34 [some .null, l1] (.null :: st) σ := np_op k57 rfl rfl
theorem e57_34 (x : Nat) {l1 : Option Value} {st : List Value} {σ : nv_St} : np_X 57 34 [some (.ref x), l1] st σ = np_X 57 35 [some (.ref x), l1] (.ref x :: st) σ := np_op k57 rfl rfl
theorem e57_34u  {l1 : Option Value} {st : List Value} {σ : nv_St} : np_X 57 34 [some .null, l1] st σ = np_X 57 35 [some .null, l1] (.null :: st) σ := np_op k57 rfl rfl
theorem e57_35 {ls : nv_Ls} {st : List Value} {σ : nv_St} {a : Nat} : np_X 57 35 ls (.ref a :: st) σ = np_b (nv_fld σ 3 1 a) (fun v => np_X 57 38 ls (v :: st) σ) := np_get k57 rfl
theorem e57_38 {ls : nv_Ls} {st : List Value} {σ : nv_St} : np_X 57 38 ls st σ = np_X 57 39 ls (.int (1) :: st) σ := np_op k57 rfl rfl
theorem e57_39 {ls : nv_Ls} {st : List Value} {σ : nv_St} {x y : Int32} : np_X 57 39 ls (.int y :: .int x :: st) σ = np_X 57 40 ls (.int (x + y) :: st) σ := np_op k57 rfl rfl
theorem e57_40 (x : Nat) {l1 : Option Value} {st : List Value} {σ : nv_St} : np_X 57 40 [some (.ref x), l1] st σ = np_X 57 41 [some (.ref x), l1] (.ref x :: st) σ := np_op k57 rfl rfl
theorem e57_40u  {l1 : Option Value} {st : List Value} {σ : nv_St} : np_X 57 40 [some .null, l1] st σ = np_X 57 41 [some .null, l1] (.null :: st) σ := np_op k57 rfl rfl
theorem e57_41 {ls : nv_Ls} {st : List Value} {σ : nv_St} {a : Nat} : np_X 57 41 ls (.ref a :: st) σ = np_b (nv_fld σ 3 0 a) (fun v => np_X 57 44 ls (v :: st) σ) := np_get k57 rfl
theorem e57_44 {ls : nv_Ls} {st : List Value} {σ : nv_St} {a : Nat} : np_X 57 44 ls (.ref a :: st) σ = np_b (nv_len σ 3 a) (fun m => np_X 57 45 ls (.int (Int32.ofNat m) :: st) σ) := np_alen k57 rfl
theorem e57_45 {ls : nv_Ls} {st : List Value} {σ : nv_St} {x y : Int32} : np_X 57 45 ls (.int y :: .int x :: st) σ = if x < y then np_X 57 48 ls st σ else np_X 57 57 ls st σ := np_br inferInstance k57 rfl rfl
theorem e57_48 (x : Nat) {l1 : Option Value} {st : List Value} {σ : nv_St} : np_X 57 48 [some (.ref x), l1] st σ = np_X 57 49 [some (.ref x), l1] (.ref x :: st) σ := np_op k57 rfl rfl
theorem e57_48u  {l1 : Option Value} {st : List Value} {σ : nv_St} : np_X 57 48 [some .null, l1] st σ = np_X 57 49 [some .null, l1] (.null :: st) σ := np_op k57 rfl rfl
theorem e57_49 {ls : nv_Ls} {st : List Value} {σ : nv_St} {a : Nat} : np_X 57 49 ls (.ref a :: st) σ = np_b (nv_fld σ 3 1 a) (fun v => np_X 57 52 ls (v :: st) σ) := np_get k57 rfl
theorem e57_52 {ls : nv_Ls} {st : List Value} {σ : nv_St} : np_X 57 52 ls st σ = np_X 57 53 ls (.int (1) :: st) σ := np_op k57 rfl rfl
theorem e57_53 {ls : nv_Ls} {st : List Value} {σ : nv_St} {x y : Int32} : np_X 57 53 ls (.int y :: .int x :: st) σ = np_X 57 54 ls (.int (x + y) :: st) σ := np_op k57 rfl rfl
theorem e57_54 {ls : nv_Ls} {st : List Value} {σ : nv_St} : np_X 57 54 ls st σ = np_X 57 58 ls st σ := np_op k57 rfl rfl
theorem e57_57 {ls : nv_Ls} {st : List Value} {σ : nv_St} : np_X 57 57 ls st σ = np_X 57 58 ls (.int (0) :: st) σ := np_op k57 rfl rfl
theorem e57_58 {ls : nv_Ls} {st : List Value} {σ : nv_St} {a : Nat} {v : Value} : np_X 57 58 ls (v :: .ref a :: st) σ = np_b (nv_sto σ 3 1 .int a v) (fun σ' => np_X 57 61 ls st σ') := np_put k57 rfl
theorem e57_61 (x : Nat) {l1 : Option Value} {st : List Value} {σ : nv_St} : np_X 57 61 [some (.ref x), l1] st σ = np_X 57 62 [some (.ref x), l1] (.ref x :: st) σ := np_op k57 rfl rfl
theorem e57_61u  {l1 : Option Value} {st : List Value} {σ : nv_St} : np_X 57 61 [some .null, l1] st σ = np_X 57 62 [some .null, l1] (.null :: st) σ := np_op k57 rfl rfl
theorem e57_62 (x : Nat) {l1 : Option Value} {st : List Value} {σ : nv_St} : np_X 57 62 [some (.ref x), l1] st σ = np_X 57 63 [some (.ref x), l1] (.ref x :: st) σ := np_op k57 rfl rfl
theorem e57_62u  {l1 : Option Value} {st : List Value} {σ : nv_St} : np_X 57 62 [some .null, l1] st σ = np_X 57 63 [some .null, l1] (.null :: st) σ := np_op k57 rfl rfl
theorem e57_63 {ls : nv_Ls} {st : List Value} {σ : nv_St} {a : Nat} : np_X 57 63 ls (.ref a :: st) σ = np_b (nv_fld σ 3 2 a) (fun v => np_X 57 66 ls (v :: st) σ) := np_get k57 rfl
theorem e57_66 {ls : nv_Ls} {st : List Value} {σ : nv_St} : np_X 57 66 ls st σ = np_X 57 67 ls (.int (1) :: st) σ := np_op k57 rfl rfl
theorem e57_67 {ls : nv_Ls} {st : List Value} {σ : nv_St} {x y : Int32} : np_X 57 67 ls (.int y :: .int x :: st) σ = np_X 57 68 ls (.int (x + y) :: st) σ := np_op k57 rfl rfl
theorem e57_68 (x : Nat) {l1 : Option Value} {st : List Value} {σ : nv_St} : np_X 57 68 [some (.ref x), l1] st σ = np_X 57 69 [some (.ref x), l1] (.ref x :: st) σ := np_op k57 rfl rfl
theorem e57_68u  {l1 : Option Value} {st : List Value} {σ : nv_St} : np_X 57 68 [some .null, l1] st σ = np_X 57 69 [some .null, l1] (.null :: st) σ := np_op k57 rfl rfl
theorem e57_69 {ls : nv_Ls} {st : List Value} {σ : nv_St} {a : Nat} : np_X 57 69 ls (.ref a :: st) σ = np_b (nv_fld σ 3 0 a) (fun v => np_X 57 72 ls (v :: st) σ) := np_get k57 rfl
theorem e57_72 {ls : nv_Ls} {st : List Value} {σ : nv_St} {a : Nat} : np_X 57 72 ls (.ref a :: st) σ = np_b (nv_len σ 3 a) (fun m => np_X 57 73 ls (.int (Int32.ofNat m) :: st) σ) := np_alen k57 rfl
theorem e57_73 {ls : nv_Ls} {st : List Value} {σ : nv_St} {x y : Int32} (h : st.length ≤ 4) : np_X 57 73 ls (.int y :: .int x :: st) σ = np_X 57 76 ls (.int (if y < x then y else x) :: st) σ := np_min k57 rfl h
theorem e57_76 {ls : nv_Ls} {st : List Value} {σ : nv_St} {a : Nat} {v : Value} : np_X 57 76 ls (v :: .ref a :: st) σ = np_b (nv_sto σ 3 2 .int a v) (fun σ' => np_X 57 79 ls st σ') := np_put k57 rfl
theorem e57_79 {ls : nv_Ls} {σ : nv_St} : np_X 57 79 ls [] σ = some (.inl none, σ) := np_ret k57 rfl rfl
-- 58 SpoonNavy$History.pop
theorem k58 : np_P.1 58 = np_c58 := rfl
theorem e58_0 (x : Nat) {l1 l2 : Option Value} {st : List Value} {σ : nv_St} : np_X 58 0 [some (.ref x), l1, l2] st σ = np_X 58 1 [some (.ref x), l1, l2] (.ref x :: st) σ := np_op k58 rfl rfl
theorem e58_0u  {l1 l2 : Option Value} {st : List Value} {σ : nv_St} : np_X 58 0 [some .null, l1, l2] st σ = np_X 58 1 [some .null, l1, l2] (.null :: st) σ := np_op k58 rfl rfl
theorem e58_1 {ls : nv_Ls} {st : List Value} {σ : nv_St} {a : Nat} : np_X 58 1 ls (.ref a :: st) σ = np_b (nv_fld σ 3 1 a) (fun v => np_X 58 4 ls (v :: st) σ) := np_get k58 rfl
theorem e58_4 {ls : nv_Ls} {st : List Value} {σ : nv_St} {x : Int32} : np_X 58 4 ls (.int x :: st) σ = if 0 < x then np_X 58 7 ls st σ else np_X 58 16 ls st σ := np_br inferInstance k58 rfl rfl
theorem e58_7 (x : Nat) {l1 l2 : Option Value} {st : List Value} {σ : nv_St} : np_X 58 7 [some (.ref x), l1, l2] st σ = np_X 58 8 [some (.ref x), l1, l2] (.ref x :: st) σ := np_op k58 rfl rfl
theorem e58_7u  {l1 l2 : Option Value} {st : List Value} {σ : nv_St} : np_X 58 7 [some .null, l1, l2] st σ = np_X 58 8 [some .null, l1, l2] (.null :: st) σ := np_op k58 rfl rfl
theorem e58_8 {ls : nv_Ls} {st : List Value} {σ : nv_St} {a : Nat} : np_X 58 8 ls (.ref a :: st) σ = np_b (nv_fld σ 3 1 a) (fun v => np_X 58 11 ls (v :: st) σ) := np_get k58 rfl
theorem e58_11 {ls : nv_Ls} {st : List Value} {σ : nv_St} : np_X 58 11 ls st σ = np_X 58 12 ls (.int (1) :: st) σ := np_op k58 rfl rfl
theorem e58_12 {ls : nv_Ls} {st : List Value} {σ : nv_St} {x y : Int32} : np_X 58 12 ls (.int y :: .int x :: st) σ = np_X 58 13 ls (.int (x - y) :: st) σ := np_op k58 rfl rfl
theorem e58_13 {ls : nv_Ls} {st : List Value} {σ : nv_St} : np_X 58 13 ls st σ = np_X 58 23 ls st σ := np_op k58 rfl rfl
theorem e58_16 (x : Nat) {l1 l2 : Option Value} {st : List Value} {σ : nv_St} : np_X 58 16 [some (.ref x), l1, l2] st σ = np_X 58 17 [some (.ref x), l1, l2] (.ref x :: st) σ := np_op k58 rfl rfl
theorem e58_16u  {l1 l2 : Option Value} {st : List Value} {σ : nv_St} : np_X 58 16 [some .null, l1, l2] st σ = np_X 58 17 [some .null, l1, l2] (.null :: st) σ := np_op k58 rfl rfl
theorem e58_17 {ls : nv_Ls} {st : List Value} {σ : nv_St} {a : Nat} : np_X 58 17 ls (.ref a :: st) σ = np_b (nv_fld σ 3 0 a) (fun v => np_X 58 20 ls (v :: st) σ) := np_get k58 rfl
theorem e58_20 {ls : nv_Ls} {st : List Value} {σ : nv_St} {a : Nat} : np_X 58 20 ls (.ref a :: st) σ = np_b (nv_len σ 3 a) (fun m => np_X 58 21 ls (.int (Int32.ofNat m) :: st) σ) := np_alen k58 rfl
theorem e58_21 {ls : nv_Ls} {st : List Value} {σ : nv_St} : np_X 58 21 ls st σ = np_X 58 22 ls (.int (1) :: st) σ := np_op k58 rfl rfl
theorem e58_22 {ls : nv_Ls} {st : List Value} {σ : nv_St} {x y : Int32} : np_X 58 22 ls (.int y :: .int x :: st) σ = np_X 58 23 ls (.int (x - y) :: st) σ := np_op k58 rfl rfl
theorem e58_23n (x : Int32) {l0 l2 : Option Value} {st : List Value} {σ : nv_St} : np_X 58 23 [l0, none, l2] (.int x :: st) σ = np_X 58 24 [l0, none, some (.int x)] st σ := np_op k58 rfl rfl
theorem e58_23i (x : Int32) {z : Int32} {l0 l2 : Option Value} {st : List Value} {σ : nv_St} : np_X 58 23 [l0, some (.int z), l2] (.int x :: st) σ = np_X 58 24 [l0, some (.int z), some (.int x)] st σ := np_op k58 rfl rfl
theorem e58_23r (x : Int32) {z : Nat} {l0 l2 : Option Value} {st : List Value} {σ : nv_St} : np_X 58 23 [l0, some (.ref z), l2] (.int x :: st) σ = np_X 58 24 [l0, some (.ref z), some (.int x)] st σ := np_op k58 rfl rfl
theorem e58_23v (x : Int32) {l0 l2 : Option Value} {st : List Value} {σ : nv_St} : np_X 58 23 [l0, some .null, l2] (.int x :: st) σ = np_X 58 24 [l0, some .null, some (.int x)] st σ := np_op k58 rfl rfl
theorem e58_24 (x : Nat) {l1 l2 : Option Value} {st : List Value} {σ : nv_St} : np_X 58 24 [some (.ref x), l1, l2] st σ = np_X 58 25 [some (.ref x), l1, l2] (.ref x :: st) σ := np_op k58 rfl rfl
theorem e58_24u  {l1 l2 : Option Value} {st : List Value} {σ : nv_St} : np_X 58 24 [some .null, l1, l2] st σ = np_X 58 25 [some .null, l1, l2] (.null :: st) σ := np_op k58 rfl rfl
theorem e58_25 {ls : nv_Ls} {st : List Value} {σ : nv_St} {a : Nat} : np_X 58 25 ls (.ref a :: st) σ = np_b (nv_fld σ 3 2 a) (fun v => np_X 58 28 ls (v :: st) σ) := np_get k58 rfl
theorem e58_28 {ls : nv_Ls} {st : List Value} {σ : nv_St} {x : Int32} : np_X 58 28 ls (.int x :: st) σ = if x = 0 then np_X 58 44 ls st σ else np_X 58 31 ls st σ := np_br inferInstance k58 rfl rfl
theorem e58_31 (x : Int32) {l0 l1 : Option Value} {st : List Value} {σ : nv_St} : np_X 58 31 [l0, l1, some (.int x)] st σ = np_X 58 32 [l0, l1, some (.int x)] (.int x :: st) σ := np_op k58 rfl rfl
theorem e58_32 {ls : nv_Ls} {st : List Value} {σ : nv_St} {x : Int32} : np_X 58 32 ls (.int x :: st) σ = if x < 0 then np_X 58 44 ls st σ else np_X 58 35 ls st σ := np_br inferInstance k58 rfl rfl
theorem e58_35 (x : Int32) {l0 l1 : Option Value} {st : List Value} {σ : nv_St} : np_X 58 35 [l0, l1, some (.int x)] st σ = np_X 58 36 [l0, l1, some (.int x)] (.int x :: st) σ := np_op k58 rfl rfl
theorem e58_36 (x : Nat) {l1 l2 : Option Value} {st : List Value} {σ : nv_St} : np_X 58 36 [some (.ref x), l1, l2] st σ = np_X 58 37 [some (.ref x), l1, l2] (.ref x :: st) σ := np_op k58 rfl rfl
theorem e58_36u  {l1 l2 : Option Value} {st : List Value} {σ : nv_St} : np_X 58 36 [some .null, l1, l2] st σ = np_X 58 37 [some .null, l1, l2] (.null :: st) σ := np_op k58 rfl rfl
theorem e58_37 {ls : nv_Ls} {st : List Value} {σ : nv_St} {a : Nat} : np_X 58 37 ls (.ref a :: st) σ = np_b (nv_fld σ 3 0 a) (fun v => np_X 58 40 ls (v :: st) σ) := np_get k58 rfl
theorem e58_40 {ls : nv_Ls} {st : List Value} {σ : nv_St} {a : Nat} : np_X 58 40 ls (.ref a :: st) σ = np_b (nv_len σ 3 a) (fun m => np_X 58 41 ls (.int (Int32.ofNat m) :: st) σ) := np_alen k58 rfl
theorem e58_41 {ls : nv_Ls} {st : List Value} {σ : nv_St} {x y : Int32} : np_X 58 41 ls (.int y :: .int x :: st) σ = if x < y then np_X 58 46 ls st σ else np_X 58 44 ls st σ := np_br inferInstance k58 rfl rfl
theorem e58_44 {ls : nv_Ls} {st : List Value} {σ : nv_St} : np_X 58 44 ls st σ = np_X 58 45 ls (.int (0) :: st) σ := np_op k58 rfl rfl
theorem e58_45 {ls : nv_Ls} {σ : nv_St} {x : Int32} (h : narrow .boolean (.int x) = .int x) : np_X 58 45 ls [.int x] σ = some (.inl (some (.int x)), σ) := np_reti k58 rfl h
theorem e58_46 (x : Nat) {l0 l2 : Option Value} {st : List Value} {σ : nv_St} : np_X 58 46 [l0, some (.ref x), l2] st σ = np_X 58 47 [l0, some (.ref x), l2] (.ref x :: st) σ := np_op k58 rfl rfl
theorem e58_46u  {l0 l2 : Option Value} {st : List Value} {σ : nv_St} : np_X 58 46 [l0, some .null, l2] st σ = np_X 58 47 [l0, some .null, l2] (.null :: st) σ := np_op k58 rfl rfl
theorem e58_47 (x : Nat) {l1 l2 : Option Value} {st : List Value} {σ : nv_St} : np_X 58 47 [some (.ref x), l1, l2] st σ = np_X 58 48 [some (.ref x), l1, l2] (.ref x :: st) σ := np_op k58 rfl rfl
theorem e58_47u  {l1 l2 : Option Value} {st : List Value} {σ : nv_St} : np_X 58 47 [some .null, l1, l2] st σ = np_X 58 48 [some .null, l1, l2] (.null :: st) σ := np_op k58 rfl rfl
theorem e58_48 {ls : nv_Ls} {st : List Value} {σ : nv_St} {a : Nat} : np_X 58 48 ls (.ref a :: st) σ = np_b (nv_fld σ 3 0 a) (fun v => np_X 58 51 ls (v :: st) σ) := np_get k58 rfl
theorem e58_51 (x : Int32) {l0 l1 : Option Value} {st : List Value} {σ : nv_St} : np_X 58 51 [l0, l1, some (.int x)] st σ = np_X 58 52 [l0, l1, some (.int x)] (.int x :: st) σ := np_op k58 rfl rfl
theorem e58_52 {ls : nv_Ls} {st : List Value} {σ : nv_St} {a : Nat} {x : Int32} : np_X 58 52 ls (.int x :: .ref a :: st) σ = np_b (nv_rdq σ 3 a x) (fun v => np_X 58 53 ls (v :: st) σ) := np_aldq k58 rfl
theorem e58_53 {ls : nv_Ls} {st : List Value} {σ : nv_St} {a : Nat} {x0 : Nat} (h : st.length ≤ 4) (h0 : nv_isO σ 2 a = true) : np_X 58 53 ls (.ref x0 :: .ref a :: st) σ = np_aft 58 53 56 ls st (np_X 27 0 [some (.ref a), some (.ref x0), none] [] σ) := np_call k58 rfl (Nat.le_add_left 2 _) rfl rfl h rfl h0 rfl
theorem e58_56 (x : Nat) {l1 l2 : Option Value} {st : List Value} {σ : nv_St} : np_X 58 56 [some (.ref x), l1, l2] st σ = np_X 58 57 [some (.ref x), l1, l2] (.ref x :: st) σ := np_op k58 rfl rfl
theorem e58_56u  {l1 l2 : Option Value} {st : List Value} {σ : nv_St} : np_X 58 56 [some .null, l1, l2] st σ = np_X 58 57 [some .null, l1, l2] (.null :: st) σ := np_op k58 rfl rfl
theorem e58_57 (x : Int32) {l0 l1 : Option Value} {st : List Value} {σ : nv_St} : np_X 58 57 [l0, l1, some (.int x)] st σ = np_X 58 58 [l0, l1, some (.int x)] (.int x :: st) σ := np_op k58 rfl rfl
theorem e58_58 {ls : nv_Ls} {st : List Value} {σ : nv_St} {a : Nat} {v : Value} : np_X 58 58 ls (v :: .ref a :: st) σ = np_b (nv_sto σ 3 1 .int a v) (fun σ' => np_X 58 61 ls st σ') := np_put k58 rfl
theorem e58_61 (x : Nat) {l1 l2 : Option Value} {st : List Value} {σ : nv_St} : np_X 58 61 [some (.ref x), l1, l2] st σ = np_X 58 62 [some (.ref x), l1, l2] (.ref x :: st) σ := np_op k58 rfl rfl
theorem e58_61u  {l1 l2 : Option Value} {st : List Value} {σ : nv_St} : np_X 58 61 [some .null, l1, l2] st σ = np_X 58 62 [some .null, l1, l2] (.null :: st) σ := np_op k58 rfl rfl
theorem e58_62 {ls : nv_Ls} {st : List Value} {σ : nv_St} {x : Nat} : np_X 58 62 ls (.ref x :: st) σ = np_X 58 63 ls (.ref x :: .ref x :: st) σ := np_op k58 rfl rfl
theorem e58_62i {ls : nv_Ls} {st : List Value} {σ : nv_St} {x : Int32} : np_X 58 62 ls (.int x :: st) σ = np_X 58 63 ls (.int x :: .int x :: st) σ := np_op k58 rfl rfl
theorem e58_63 {ls : nv_Ls} {st : List Value} {σ : nv_St} {a : Nat} : np_X 58 63 ls (.ref a :: st) σ = np_b (nv_fld σ 3 2 a) (fun v => np_X 58 66 ls (v :: st) σ) := np_get k58 rfl
theorem e58_66 {ls : nv_Ls} {st : List Value} {σ : nv_St} : np_X 58 66 ls st σ = np_X 58 67 ls (.int (1) :: st) σ := np_op k58 rfl rfl
theorem e58_67 {ls : nv_Ls} {st : List Value} {σ : nv_St} {x y : Int32} : np_X 58 67 ls (.int y :: .int x :: st) σ = np_X 58 68 ls (.int (x - y) :: st) σ := np_op k58 rfl rfl
theorem e58_68 {ls : nv_Ls} {st : List Value} {σ : nv_St} {a : Nat} {v : Value} : np_X 58 68 ls (v :: .ref a :: st) σ = np_b (nv_sto σ 3 2 .int a v) (fun σ' => np_X 58 71 ls st σ') := np_put k58 rfl
theorem e58_71 {ls : nv_Ls} {st : List Value} {σ : nv_St} : np_X 58 71 ls st σ = np_X 58 72 ls (.int (1) :: st) σ := np_op k58 rfl rfl
theorem e58_72 {ls : nv_Ls} {σ : nv_St} {x : Int32} (h : narrow .boolean (.int x) = .int x) : np_X 58 72 ls [.int x] σ = some (.inl (some (.int x)), σ) := np_reti k58 rfl h
-- 59 SpoonNavy$History.clear
theorem k59 : np_P.1 59 = np_c59 := rfl
theorem e59_0 (x : Nat) {st : List Value} {σ : nv_St} : np_X 59 0 [some (.ref x)] st σ = np_X 59 1 [some (.ref x)] (.ref x :: st) σ := np_op k59 rfl rfl
theorem e59_0u  {st : List Value} {σ : nv_St} : np_X 59 0 [some .null] st σ = np_X 59 1 [some .null] (.null :: st) σ := np_op k59 rfl rfl
theorem e59_1 {ls : nv_Ls} {st : List Value} {σ : nv_St} : np_X 59 1 ls st σ = np_X 59 2 ls (.int (0) :: st) σ := np_op k59 rfl rfl
theorem e59_2 {ls : nv_Ls} {st : List Value} {σ : nv_St} {a : Nat} {v : Value} : np_X 59 2 ls (v :: .ref a :: st) σ = np_b (nv_sto σ 3 2 .int a v) (fun σ' => np_X 59 5 ls st σ') := np_put k59 rfl
theorem e59_5 {ls : nv_Ls} {σ : nv_St} : np_X 59 5 ls [] σ = some (.inl none, σ) := np_ret k59 rfl rfl
-- 60 SpoonNavy$Spoon.<init>
theorem k60 : np_P.1 60 = np_c60 := rfl
theorem e60_0 (x : Nat) {l1 : Option Value} {st : List Value} {σ : nv_St} : np_X 60 0 [some (.ref x), l1] st σ = np_X 60 1 [some (.ref x), l1] (.ref x :: st) σ := np_op k60 rfl rfl
theorem e60_0u  {l1 : Option Value} {st : List Value} {σ : nv_St} : np_X 60 0 [some .null, l1] st σ = np_X 60 1 [some .null, l1] (.null :: st) σ := np_op k60 rfl rfl
theorem e60_1 {ls : nv_Ls} {st : List Value} {σ : nv_St} {a : Nat} (h : a < 1000000) (h1 : st.length ≤ 4) : np_X 60 1 ls (.ref a :: st) σ = np_X 60 4 ls st σ := np_oinit k60 rfl h h1
theorem e60_4 (x : Nat) {l1 : Option Value} {st : List Value} {σ : nv_St} : np_X 60 4 [some (.ref x), l1] st σ = np_X 60 5 [some (.ref x), l1] (.ref x :: st) σ := np_op k60 rfl rfl
theorem e60_4u  {l1 : Option Value} {st : List Value} {σ : nv_St} : np_X 60 4 [some .null, l1] st σ = np_X 60 5 [some .null, l1] (.null :: st) σ := np_op k60 rfl rfl
theorem e60_5 (x : Int32) {l0 : Option Value} {st : List Value} {σ : nv_St} : np_X 60 5 [l0, some (.int x)] st σ = np_X 60 6 [l0, some (.int x)] (.int x :: st) σ := np_op k60 rfl rfl
theorem e60_6 {ls : nv_Ls} {st : List Value} {σ : nv_St} {a : Nat} {v : Value} : np_X 60 6 ls (v :: .ref a :: st) σ = np_b (nv_sto σ 4 0 .int a v) (fun σ' => np_X 60 9 ls st σ') := np_put k60 rfl
theorem e60_9 {ls : nv_Ls} {σ : nv_St} : np_X 60 9 ls [] σ = some (.inl none, σ) := np_ret k60 rfl rfl
-- 61 SpoonNavy$Spoon.copyFrom
theorem k61 : np_P.1 61 = np_c61 := rfl
theorem e61_0 (x : Nat) {l1 : Option Value} {st : List Value} {σ : nv_St} : np_X 61 0 [some (.ref x), l1] st σ = np_X 61 1 [some (.ref x), l1] (.ref x :: st) σ := np_op k61 rfl rfl
theorem e61_0u  {l1 : Option Value} {st : List Value} {σ : nv_St} : np_X 61 0 [some .null, l1] st σ = np_X 61 1 [some .null, l1] (.null :: st) σ := np_op k61 rfl rfl
theorem e61_1 (x : Nat) {l0 : Option Value} {st : List Value} {σ : nv_St} : np_X 61 1 [l0, some (.ref x)] st σ = np_X 61 2 [l0, some (.ref x)] (.ref x :: st) σ := np_op k61 rfl rfl
theorem e61_1u  {l0 : Option Value} {st : List Value} {σ : nv_St} : np_X 61 1 [l0, some .null] st σ = np_X 61 2 [l0, some .null] (.null :: st) σ := np_op k61 rfl rfl
theorem e61_2 {ls : nv_Ls} {st : List Value} {σ : nv_St} {a : Nat} : np_X 61 2 ls (.ref a :: st) σ = np_b (nv_fld σ 4 1 a) (fun v => np_X 61 5 ls (v :: st) σ) := np_get k61 rfl
theorem e61_5 {ls : nv_Ls} {st : List Value} {σ : nv_St} {a : Nat} {v : Value} : np_X 61 5 ls (v :: .ref a :: st) σ = np_b (nv_sto σ 4 1 .int a v) (fun σ' => np_X 61 8 ls st σ') := np_put k61 rfl
theorem e61_8 (x : Nat) {l1 : Option Value} {st : List Value} {σ : nv_St} : np_X 61 8 [some (.ref x), l1] st σ = np_X 61 9 [some (.ref x), l1] (.ref x :: st) σ := np_op k61 rfl rfl
theorem e61_8u  {l1 : Option Value} {st : List Value} {σ : nv_St} : np_X 61 8 [some .null, l1] st σ = np_X 61 9 [some .null, l1] (.null :: st) σ := np_op k61 rfl rfl
theorem e61_9 (x : Nat) {l0 : Option Value} {st : List Value} {σ : nv_St} : np_X 61 9 [l0, some (.ref x)] st σ = np_X 61 10 [l0, some (.ref x)] (.ref x :: st) σ := np_op k61 rfl rfl
theorem e61_9u  {l0 : Option Value} {st : List Value} {σ : nv_St} : np_X 61 9 [l0, some .null] st σ = np_X 61 10 [l0, some .null] (.null :: st) σ := np_op k61 rfl rfl
theorem e61_10 {ls : nv_Ls} {st : List Value} {σ : nv_St} {a : Nat} : np_X 61 10 ls (.ref a :: st) σ = np_b (nv_fld σ 4 2 a) (fun v => np_X 61 13 ls (v :: st) σ) := np_get k61 rfl
theorem e61_13 {ls : nv_Ls} {st : List Value} {σ : nv_St} {a : Nat} {v : Value} : np_X 61 13 ls (v :: .ref a :: st) σ = np_b (nv_sto σ 4 2 .int a v) (fun σ' => np_X 61 16 ls st σ') := np_put k61 rfl
theorem e61_16 (x : Nat) {l1 : Option Value} {st : List Value} {σ : nv_St} : np_X 61 16 [some (.ref x), l1] st σ = np_X 61 17 [some (.ref x), l1] (.ref x :: st) σ := np_op k61 rfl rfl
theorem e61_16u  {l1 : Option Value} {st : List Value} {σ : nv_St} : np_X 61 16 [some .null, l1] st σ = np_X 61 17 [some .null, l1] (.null :: st) σ := np_op k61 rfl rfl
theorem e61_17 (x : Nat) {l0 : Option Value} {st : List Value} {σ : nv_St} : np_X 61 17 [l0, some (.ref x)] st σ = np_X 61 18 [l0, some (.ref x)] (.ref x :: st) σ := np_op k61 rfl rfl
theorem e61_17u  {l0 : Option Value} {st : List Value} {σ : nv_St} : np_X 61 17 [l0, some .null] st σ = np_X 61 18 [l0, some .null] (.null :: st) σ := np_op k61 rfl rfl
theorem e61_18 {ls : nv_Ls} {st : List Value} {σ : nv_St} {a : Nat} : np_X 61 18 ls (.ref a :: st) σ = np_b (nv_fld σ 4 3 a) (fun v => np_X 61 21 ls (v :: st) σ) := np_get k61 rfl
theorem e61_21 {ls : nv_Ls} {st : List Value} {σ : nv_St} {a : Nat} {v : Value} : np_X 61 21 ls (v :: .ref a :: st) σ = np_b (nv_sto σ 4 3 .int a v) (fun σ' => np_X 61 24 ls st σ') := np_put k61 rfl
theorem e61_24 (x : Nat) {l1 : Option Value} {st : List Value} {σ : nv_St} : np_X 61 24 [some (.ref x), l1] st σ = np_X 61 25 [some (.ref x), l1] (.ref x :: st) σ := np_op k61 rfl rfl
theorem e61_24u  {l1 : Option Value} {st : List Value} {σ : nv_St} : np_X 61 24 [some .null, l1] st σ = np_X 61 25 [some .null, l1] (.null :: st) σ := np_op k61 rfl rfl
theorem e61_25 (x : Nat) {l0 : Option Value} {st : List Value} {σ : nv_St} : np_X 61 25 [l0, some (.ref x)] st σ = np_X 61 26 [l0, some (.ref x)] (.ref x :: st) σ := np_op k61 rfl rfl
theorem e61_25u  {l0 : Option Value} {st : List Value} {σ : nv_St} : np_X 61 25 [l0, some .null] st σ = np_X 61 26 [l0, some .null] (.null :: st) σ := np_op k61 rfl rfl
theorem e61_26 {ls : nv_Ls} {st : List Value} {σ : nv_St} {a : Nat} : np_X 61 26 ls (.ref a :: st) σ = np_b (nv_fld σ 4 4 a) (fun v => np_X 61 29 ls (v :: st) σ) := np_get k61 rfl
theorem e61_29 {ls : nv_Ls} {st : List Value} {σ : nv_St} {a : Nat} {v : Value} : np_X 61 29 ls (v :: .ref a :: st) σ = np_b (nv_sto σ 4 4 .int a v) (fun σ' => np_X 61 32 ls st σ') := np_put k61 rfl
theorem e61_32 (x : Nat) {l1 : Option Value} {st : List Value} {σ : nv_St} : np_X 61 32 [some (.ref x), l1] st σ = np_X 61 33 [some (.ref x), l1] (.ref x :: st) σ := np_op k61 rfl rfl
theorem e61_32u  {l1 : Option Value} {st : List Value} {σ : nv_St} : np_X 61 32 [some .null, l1] st σ = np_X 61 33 [some .null, l1] (.null :: st) σ := np_op k61 rfl rfl
theorem e61_33 (x : Nat) {l0 : Option Value} {st : List Value} {σ : nv_St} : np_X 61 33 [l0, some (.ref x)] st σ = np_X 61 34 [l0, some (.ref x)] (.ref x :: st) σ := np_op k61 rfl rfl
theorem e61_33u  {l0 : Option Value} {st : List Value} {σ : nv_St} : np_X 61 33 [l0, some .null] st σ = np_X 61 34 [l0, some .null] (.null :: st) σ := np_op k61 rfl rfl
theorem e61_34 {ls : nv_Ls} {st : List Value} {σ : nv_St} {a : Nat} : np_X 61 34 ls (.ref a :: st) σ = np_b (nv_fld σ 4 5 a) (fun v => np_X 61 37 ls (v :: st) σ) := np_get k61 rfl
theorem e61_37 {ls : nv_Ls} {st : List Value} {σ : nv_St} {a : Nat} {v : Value} : np_X 61 37 ls (v :: .ref a :: st) σ = np_b (nv_sto σ 4 5 .int a v) (fun σ' => np_X 61 40 ls st σ') := np_put k61 rfl
theorem e61_40 (x : Nat) {l1 : Option Value} {st : List Value} {σ : nv_St} : np_X 61 40 [some (.ref x), l1] st σ = np_X 61 41 [some (.ref x), l1] (.ref x :: st) σ := np_op k61 rfl rfl
theorem e61_40u  {l1 : Option Value} {st : List Value} {σ : nv_St} : np_X 61 40 [some .null, l1] st σ = np_X 61 41 [some .null, l1] (.null :: st) σ := np_op k61 rfl rfl
theorem e61_41 (x : Nat) {l0 : Option Value} {st : List Value} {σ : nv_St} : np_X 61 41 [l0, some (.ref x)] st σ = np_X 61 42 [l0, some (.ref x)] (.ref x :: st) σ := np_op k61 rfl rfl
theorem e61_41u  {l0 : Option Value} {st : List Value} {σ : nv_St} : np_X 61 41 [l0, some .null] st σ = np_X 61 42 [l0, some .null] (.null :: st) σ := np_op k61 rfl rfl
theorem e61_42 {ls : nv_Ls} {st : List Value} {σ : nv_St} {a : Nat} : np_X 61 42 ls (.ref a :: st) σ = np_b (nv_fld σ 4 6 a) (fun v => np_X 61 45 ls (v :: st) σ) := np_get k61 rfl
theorem e61_45 {ls : nv_Ls} {st : List Value} {σ : nv_St} {a : Nat} {v : Value} : np_X 61 45 ls (v :: .ref a :: st) σ = np_b (nv_sto σ 4 6 .int a v) (fun σ' => np_X 61 48 ls st σ') := np_put k61 rfl
theorem e61_48 (x : Nat) {l1 : Option Value} {st : List Value} {σ : nv_St} : np_X 61 48 [some (.ref x), l1] st σ = np_X 61 49 [some (.ref x), l1] (.ref x :: st) σ := np_op k61 rfl rfl
theorem e61_48u  {l1 : Option Value} {st : List Value} {σ : nv_St} : np_X 61 48 [some .null, l1] st σ = np_X 61 49 [some .null, l1] (.null :: st) σ := np_op k61 rfl rfl
theorem e61_49 (x : Nat) {l0 : Option Value} {st : List Value} {σ : nv_St} : np_X 61 49 [l0, some (.ref x)] st σ = np_X 61 50 [l0, some (.ref x)] (.ref x :: st) σ := np_op k61 rfl rfl
theorem e61_49u  {l0 : Option Value} {st : List Value} {σ : nv_St} : np_X 61 49 [l0, some .null] st σ = np_X 61 50 [l0, some .null] (.null :: st) σ := np_op k61 rfl rfl
theorem e61_50 {ls : nv_Ls} {st : List Value} {σ : nv_St} {a : Nat} : np_X 61 50 ls (.ref a :: st) σ = np_b (nv_fld σ 4 7 a) (fun v => np_X 61 53 ls (v :: st) σ) := np_get k61 rfl
theorem e61_53 {ls : nv_Ls} {st : List Value} {σ : nv_St} {a : Nat} {v : Value} : np_X 61 53 ls (v :: .ref a :: st) σ = np_b (nv_sto σ 4 7 .int a v) (fun σ' => np_X 61 56 ls st σ') := np_put k61 rfl
theorem e61_56 (x : Nat) {l1 : Option Value} {st : List Value} {σ : nv_St} : np_X 61 56 [some (.ref x), l1] st σ = np_X 61 57 [some (.ref x), l1] (.ref x :: st) σ := np_op k61 rfl rfl
theorem e61_56u  {l1 : Option Value} {st : List Value} {σ : nv_St} : np_X 61 56 [some .null, l1] st σ = np_X 61 57 [some .null, l1] (.null :: st) σ := np_op k61 rfl rfl
theorem e61_57 (x : Nat) {l0 : Option Value} {st : List Value} {σ : nv_St} : np_X 61 57 [l0, some (.ref x)] st σ = np_X 61 58 [l0, some (.ref x)] (.ref x :: st) σ := np_op k61 rfl rfl
theorem e61_57u  {l0 : Option Value} {st : List Value} {σ : nv_St} : np_X 61 57 [l0, some .null] st σ = np_X 61 58 [l0, some .null] (.null :: st) σ := np_op k61 rfl rfl
theorem e61_58 {ls : nv_Ls} {st : List Value} {σ : nv_St} {a : Nat} : np_X 61 58 ls (.ref a :: st) σ = np_b (nv_fld σ 4 8 a) (fun v => np_X 61 61 ls (v :: st) σ) := np_get k61 rfl
theorem e61_61 {ls : nv_Ls} {st : List Value} {σ : nv_St} {a : Nat} {v : Value} : np_X 61 61 ls (v :: .ref a :: st) σ = np_b (nv_sto σ 4 8 .int a v) (fun σ' => np_X 61 64 ls st σ') := np_put k61 rfl
theorem e61_64 {ls : nv_Ls} {σ : nv_St} : np_X 61 64 ls [] σ = some (.inl none, σ) := np_ret k61 rfl rfl
-- 62 SpoonNavy$Spoon.isAfloat
theorem k62 : np_P.1 62 = np_c62 := rfl
theorem e62_0 (x : Nat) {st : List Value} {σ : nv_St} : np_X 62 0 [some (.ref x)] st σ = np_X 62 1 [some (.ref x)] (.ref x :: st) σ := np_op k62 rfl rfl
theorem e62_0u  {st : List Value} {σ : nv_St} : np_X 62 0 [some .null] st σ = np_X 62 1 [some .null] (.null :: st) σ := np_op k62 rfl rfl
theorem e62_1 {ls : nv_Ls} {st : List Value} {σ : nv_St} {a : Nat} : np_X 62 1 ls (.ref a :: st) σ = np_b (nv_fld σ 4 5 a) (fun v => np_X 62 4 ls (v :: st) σ) := np_get k62 rfl
theorem e62_4 {ls : nv_Ls} {st : List Value} {σ : nv_St} {x : Int32} : np_X 62 4 ls (.int x :: st) σ = if 0 < x then np_X 62 7 ls st σ else np_X 62 11 ls st σ := np_br inferInstance k62 rfl rfl
theorem e62_7 {ls : nv_Ls} {st : List Value} {σ : nv_St} : np_X 62 7 ls st σ = np_X 62 8 ls (.int (1) :: st) σ := np_op k62 rfl rfl
theorem e62_8 {ls : nv_Ls} {st : List Value} {σ : nv_St} : np_X 62 8 ls st σ = np_X 62 12 ls st σ := np_op k62 rfl rfl
theorem e62_11 {ls : nv_Ls} {st : List Value} {σ : nv_St} : np_X 62 11 ls st σ = np_X 62 12 ls (.int (0) :: st) σ := np_op k62 rfl rfl
theorem e62_12 {ls : nv_Ls} {σ : nv_St} {x : Int32} (h : narrow .boolean (.int x) = .int x) : np_X 62 12 ls [.int x] σ = some (.inl (some (.int x)), σ) := np_reti k62 rfl h
-- 63 SpoonNavy$Spoon.isAfloatOf
theorem k63 : np_P.1 63 = np_c63 := rfl
theorem e63_0 (x : Nat) {l1 : Option Value} {st : List Value} {σ : nv_St} : np_X 63 0 [some (.ref x), l1] st σ = np_X 63 1 [some (.ref x), l1] (.ref x :: st) σ := np_op k63 rfl rfl
theorem e63_0u  {l1 : Option Value} {st : List Value} {σ : nv_St} : np_X 63 0 [some .null, l1] st σ = np_X 63 1 [some .null, l1] (.null :: st) σ := np_op k63 rfl rfl
theorem e63_1 {ls : nv_Ls} {st : List Value} {σ : nv_St} {a : Nat}  (h : st.length ≤ 4) (h0 : nv_isO σ 4 a = true) : np_X 63 1 ls (.ref a :: st) σ = np_aft 63 1 4 ls st (np_X 62 0 [some (.ref a)] [] σ) := np_call k63 rfl (Nat.le_add_left 1 _) rfl rfl h rfl h0 rfl
theorem e63_4 {ls : nv_Ls} {st : List Value} {σ : nv_St} {x : Int32} : np_X 63 4 ls (.int x :: st) σ = if x = 0 then np_X 63 19 ls st σ else np_X 63 7 ls st σ := np_br inferInstance k63 rfl rfl
theorem e63_7 (x : Nat) {l1 : Option Value} {st : List Value} {σ : nv_St} : np_X 63 7 [some (.ref x), l1] st σ = np_X 63 8 [some (.ref x), l1] (.ref x :: st) σ := np_op k63 rfl rfl
theorem e63_7u  {l1 : Option Value} {st : List Value} {σ : nv_St} : np_X 63 7 [some .null, l1] st σ = np_X 63 8 [some .null, l1] (.null :: st) σ := np_op k63 rfl rfl
theorem e63_8 {ls : nv_Ls} {st : List Value} {σ : nv_St} {a : Nat} : np_X 63 8 ls (.ref a :: st) σ = np_b (nv_fld σ 4 1 a) (fun v => np_X 63 11 ls (v :: st) σ) := np_get k63 rfl
theorem e63_11 (x : Int32) {l0 : Option Value} {st : List Value} {σ : nv_St} : np_X 63 11 [l0, some (.int x)] st σ = np_X 63 12 [l0, some (.int x)] (.int x :: st) σ := np_op k63 rfl rfl
theorem e63_12 {ls : nv_Ls} {st : List Value} {σ : nv_St} {x y : Int32} : np_X 63 12 ls (.int y :: .int x :: st) σ = if x = y then np_X 63 15 ls st σ else np_X 63 19 ls st σ := np_br inferInstance k63 rfl rfl
theorem e63_15 {ls : nv_Ls} {st : List Value} {σ : nv_St} : np_X 63 15 ls st σ = np_X 63 16 ls (.int (1) :: st) σ := np_op k63 rfl rfl
theorem e63_16 {ls : nv_Ls} {st : List Value} {σ : nv_St} : np_X 63 16 ls st σ = np_X 63 20 ls st σ := np_op k63 rfl rfl
theorem e63_19 {ls : nv_Ls} {st : List Value} {σ : nv_St} : np_X 63 19 ls st σ = np_X 63 20 ls (.int (0) :: st) σ := np_op k63 rfl rfl
theorem e63_20 {ls : nv_Ls} {σ : nv_St} {x : Int32} (h : narrow .boolean (.int x) = .int x) : np_X 63 20 ls [.int x] σ = some (.inl (some (.int x)), σ) := np_reti k63 rfl h
-- 64 SpoonNavy$Spoon.isIn
theorem k64 : np_P.1 64 = np_c64 := rfl
theorem e64_0 (x : Nat) {l1 l2 : Option Value} {st : List Value} {σ : nv_St} : np_X 64 0 [some (.ref x), l1, l2] st σ = np_X 64 1 [some (.ref x), l1, l2] (.ref x :: st) σ := np_op k64 rfl rfl
theorem e64_0u  {l1 l2 : Option Value} {st : List Value} {σ : nv_St} : np_X 64 0 [some .null, l1, l2] st σ = np_X 64 1 [some .null, l1, l2] (.null :: st) σ := np_op k64 rfl rfl
theorem e64_1 {ls : nv_Ls} {st : List Value} {σ : nv_St} {a : Nat} : np_X 64 1 ls (.ref a :: st) σ = np_b (nv_fld σ 4 2 a) (fun v => np_X 64 4 ls (v :: st) σ) := np_get k64 rfl
theorem e64_4 (x : Int32) {l0 l2 : Option Value} {st : List Value} {σ : nv_St} : np_X 64 4 [l0, some (.int x), l2] st σ = np_X 64 5 [l0, some (.int x), l2] (.int x :: st) σ := np_op k64 rfl rfl
theorem e64_5 {ls : nv_Ls} {st : List Value} {σ : nv_St} {x y : Int32} : np_X 64 5 ls (.int y :: .int x :: st) σ = if x = y then np_X 64 8 ls st σ else np_X 64 20 ls st σ := np_br inferInstance k64 rfl rfl
theorem e64_8 (x : Nat) {l1 l2 : Option Value} {st : List Value} {σ : nv_St} : np_X 64 8 [some (.ref x), l1, l2] st σ = np_X 64 9 [some (.ref x), l1, l2] (.ref x :: st) σ := np_op k64 rfl rfl
theorem e64_8u  {l1 l2 : Option Value} {st : List Value} {σ : nv_St} : np_X 64 8 [some .null, l1, l2] st σ = np_X 64 9 [some .null, l1, l2] (.null :: st) σ := np_op k64 rfl rfl
theorem e64_9 {ls : nv_Ls} {st : List Value} {σ : nv_St} {a : Nat} : np_X 64 9 ls (.ref a :: st) σ = np_b (nv_fld σ 4 3 a) (fun v => np_X 64 12 ls (v :: st) σ) := np_get k64 rfl
theorem e64_12 (x : Int32) {l0 l1 : Option Value} {st : List Value} {σ : nv_St} : np_X 64 12 [l0, l1, some (.int x)] st σ = np_X 64 13 [l0, l1, some (.int x)] (.int x :: st) σ := np_op k64 rfl rfl
theorem e64_13 {ls : nv_Ls} {st : List Value} {σ : nv_St} {x y : Int32} : np_X 64 13 ls (.int y :: .int x :: st) σ = if x = y then np_X 64 16 ls st σ else np_X 64 20 ls st σ := np_br inferInstance k64 rfl rfl
theorem e64_16 {ls : nv_Ls} {st : List Value} {σ : nv_St} : np_X 64 16 ls st σ = np_X 64 17 ls (.int (1) :: st) σ := np_op k64 rfl rfl
theorem e64_17 {ls : nv_Ls} {st : List Value} {σ : nv_St} : np_X 64 17 ls st σ = np_X 64 21 ls st σ := np_op k64 rfl rfl
theorem e64_20 {ls : nv_Ls} {st : List Value} {σ : nv_St} : np_X 64 20 ls st σ = np_X 64 21 ls (.int (0) :: st) σ := np_op k64 rfl rfl
theorem e64_21 {ls : nv_Ls} {σ : nv_St} {x : Int32} (h : narrow .boolean (.int x) = .int x) : np_X 64 21 ls [.int x] σ = some (.inl (some (.int x)), σ) := np_reti k64 rfl h
-- 65 SpoonNavy$Spoon.distanceTo
theorem k65 : np_P.1 65 = np_c65 := rfl
theorem e65_0 (x : Int32) {l0 l2 : Option Value} {st : List Value} {σ : nv_St} : np_X 65 0 [l0, some (.int x), l2] st σ = np_X 65 1 [l0, some (.int x), l2] (.int x :: st) σ := np_op k65 rfl rfl
theorem e65_1 (x : Nat) {l1 l2 : Option Value} {st : List Value} {σ : nv_St} : np_X 65 1 [some (.ref x), l1, l2] st σ = np_X 65 2 [some (.ref x), l1, l2] (.ref x :: st) σ := np_op k65 rfl rfl
theorem e65_1u  {l1 l2 : Option Value} {st : List Value} {σ : nv_St} : np_X 65 1 [some .null, l1, l2] st σ = np_X 65 2 [some .null, l1, l2] (.null :: st) σ := np_op k65 rfl rfl
theorem e65_2 {ls : nv_Ls} {st : List Value} {σ : nv_St} {a : Nat} : np_X 65 2 ls (.ref a :: st) σ = np_b (nv_fld σ 4 2 a) (fun v => np_X 65 5 ls (v :: st) σ) := np_get k65 rfl
theorem e65_5 {ls : nv_Ls} {st : List Value} {σ : nv_St} {x y : Int32} : np_X 65 5 ls (.int y :: .int x :: st) σ = np_X 65 6 ls (.int (x - y) :: st) σ := np_op k65 rfl rfl
theorem e65_6 {ls : nv_Ls} {st : List Value} {σ : nv_St} {x : Int32} (h : st.length ≤ 4) : np_X 65 6 ls (.int x :: st) σ = np_X 65 9 ls (.int (if 0 ≤ x then x else 0 - x) :: st) σ := np_abs k65 rfl h
theorem e65_9 (x : Int32) {l0 l1 : Option Value} {st : List Value} {σ : nv_St} : np_X 65 9 [l0, l1, some (.int x)] st σ = np_X 65 10 [l0, l1, some (.int x)] (.int x :: st) σ := np_op k65 rfl rfl
theorem e65_10 (x : Nat) {l1 l2 : Option Value} {st : List Value} {σ : nv_St} : np_X 65 10 [some (.ref x), l1, l2] st σ = np_X 65 11 [some (.ref x), l1, l2] (.ref x :: st) σ := np_op k65 rfl rfl
theorem e65_10u  {l1 l2 : Option Value} {st : List Value} {σ : nv_St} : np_X 65 10 [some .null, l1, l2] st σ = np_X 65 11 [some .null, l1, l2] (.null :: st) σ := np_op k65 rfl rfl
theorem e65_11 {ls : nv_Ls} {st : List Value} {σ : nv_St} {a : Nat} : np_X 65 11 ls (.ref a :: st) σ = np_b (nv_fld σ 4 3 a) (fun v => np_X 65 14 ls (v :: st) σ) := np_get k65 rfl
theorem e65_14 {ls : nv_Ls} {st : List Value} {σ : nv_St} {x y : Int32} : np_X 65 14 ls (.int y :: .int x :: st) σ = np_X 65 15 ls (.int (x - y) :: st) σ := np_op k65 rfl rfl
theorem e65_15 {ls : nv_Ls} {st : List Value} {σ : nv_St} {x : Int32} (h : st.length ≤ 4) : np_X 65 15 ls (.int x :: st) σ = np_X 65 18 ls (.int (if 0 ≤ x then x else 0 - x) :: st) σ := np_abs k65 rfl h
theorem e65_18 {ls : nv_Ls} {st : List Value} {σ : nv_St} {x y : Int32} (h : st.length ≤ 4) : np_X 65 18 ls (.int y :: .int x :: st) σ = np_X 65 21 ls (.int (if x < y then y else x) :: st) σ := np_max k65 rfl h
theorem e65_21 {ls : nv_Ls} {σ : nv_St} {x : Int32} : np_X 65 21 ls [.int x] σ = some (.inl (some (.int x)), σ) := np_reti k65 rfl rfl
-- 66 SpoonNavy$Spoon.isInRange
theorem k66 : np_P.1 66 = np_c66 := rfl
theorem e66_0 (x : Nat) {l1 l2 l3 : Option Value} {st : List Value} {σ : nv_St} : np_X 66 0 [some (.ref x), l1, l2, l3] st σ = np_X 66 1 [some (.ref x), l1, l2, l3] (.ref x :: st) σ := np_op k66 rfl rfl
theorem e66_0u  {l1 l2 l3 : Option Value} {st : List Value} {σ : nv_St} : np_X 66 0 [some .null, l1, l2, l3] st σ = np_X 66 1 [some .null, l1, l2, l3] (.null :: st) σ := np_op k66 rfl rfl
theorem e66_1 (x : Int32) {l0 l2 l3 : Option Value} {st : List Value} {σ : nv_St} : np_X 66 1 [l0, some (.int x), l2, l3] st σ = np_X 66 2 [l0, some (.int x), l2, l3] (.int x :: st) σ := np_op k66 rfl rfl
theorem e66_2 (x : Int32) {l0 l1 l3 : Option Value} {st : List Value} {σ : nv_St} : np_X 66 2 [l0, l1, some (.int x), l3] st σ = np_X 66 3 [l0, l1, some (.int x), l3] (.int x :: st) σ := np_op k66 rfl rfl
theorem e66_3 {ls : nv_Ls} {st : List Value} {σ : nv_St} {a : Nat} {x0 : Int32} {x1 : Int32} (h : st.length ≤ 4) (h0 : nv_isO σ 4 a = true) : np_X 66 3 ls (.int x1 :: .int x0 :: .ref a :: st) σ = np_aft 66 3 6 ls st (np_X 65 0 [some (.ref a), some (.int x0), some (.int x1)] [] σ) := np_call k66 rfl (Nat.le_add_left 3 _) rfl rfl h rfl h0 rfl
theorem e66_6n (x : Int32) {l0 l1 l3 : Option Value} {st : List Value} {σ : nv_St} : np_X 66 6 [l0, l1, none, l3] (.int x :: st) σ = np_X 66 7 [l0, l1, none, some (.int x)] st σ := np_op k66 rfl rfl
theorem e66_6i (x : Int32) {z : Int32} {l0 l1 l3 : Option Value} {st : List Value} {σ : nv_St} : np_X 66 6 [l0, l1, some (.int z), l3] (.int x :: st) σ = np_X 66 7 [l0, l1, some (.int z), some (.int x)] st σ := np_op k66 rfl rfl
theorem e66_6r (x : Int32) {z : Nat} {l0 l1 l3 : Option Value} {st : List Value} {σ : nv_St} : np_X 66 6 [l0, l1, some (.ref z), l3] (.int x :: st) σ = np_X 66 7 [l0, l1, some (.ref z), some (.int x)] st σ := np_op k66 rfl rfl
theorem e66_6v (x : Int32) {l0 l1 l3 : Option Value} {st : List Value} {σ : nv_St} : np_X 66 6 [l0, l1, some .null, l3] (.int x :: st) σ = np_X 66 7 [l0, l1, some .null, some (.int x)] st σ := np_op k66 rfl rfl
theorem e66_7 (x : Int32) {l0 l1 l2 : Option Value} {st : List Value} {σ : nv_St} : np_X 66 7 [l0, l1, l2, some (.int x)] st σ = np_X 66 8 [l0, l1, l2, some (.int x)] (.int x :: st) σ := np_op k66 rfl rfl
theorem e66_8 {ls : nv_Ls} {st : List Value} {σ : nv_St} : np_X 66 8 ls st σ = np_X 66 9 ls (.int (1) :: st) σ := np_op k66 rfl rfl
theorem e66_9 {ls : nv_Ls} {st : List Value} {σ : nv_St} {x y : Int32} : np_X 66 9 ls (.int y :: .int x :: st) σ = if x < y then np_X 66 24 ls st σ else np_X 66 12 ls st σ := np_br inferInstance k66 rfl rfl
theorem e66_12 (x : Int32) {l0 l1 l2 : Option Value} {st : List Value} {σ : nv_St} : np_X 66 12 [l0, l1, l2, some (.int x)] st σ = np_X 66 13 [l0, l1, l2, some (.int x)] (.int x :: st) σ := np_op k66 rfl rfl
theorem e66_13 (x : Nat) {l1 l2 l3 : Option Value} {st : List Value} {σ : nv_St} : np_X 66 13 [some (.ref x), l1, l2, l3] st σ = np_X 66 14 [some (.ref x), l1, l2, l3] (.ref x :: st) σ := np_op k66 rfl rfl
theorem e66_13u  {l1 l2 l3 : Option Value} {st : List Value} {σ : nv_St} : np_X 66 13 [some .null, l1, l2, l3] st σ = np_X 66 14 [some .null, l1, l2, l3] (.null :: st) σ := np_op k66 rfl rfl
theorem e66_14 {ls : nv_Ls} {st : List Value} {σ : nv_St} {a : Nat} : np_X 66 14 ls (.ref a :: st) σ = np_b (nv_fld σ 4 6 a) (fun v => np_X 66 17 ls (v :: st) σ) := np_get k66 rfl
theorem e66_17 {ls : nv_Ls} {st : List Value} {σ : nv_St} {x y : Int32} : np_X 66 17 ls (.int y :: .int x :: st) σ = if y < x then np_X 66 24 ls st σ else np_X 66 20 ls st σ := np_br inferInstance k66 rfl rfl
theorem e66_20 {ls : nv_Ls} {st : List Value} {σ : nv_St} : np_X 66 20 ls st σ = np_X 66 21 ls (.int (1) :: st) σ := np_op k66 rfl rfl
theorem e66_21 {ls : nv_Ls} {st : List Value} {σ : nv_St} : np_X 66 21 ls st σ = np_X 66 25 ls st σ := np_op k66 rfl rfl
theorem e66_24 {ls : nv_Ls} {st : List Value} {σ : nv_St} : np_X 66 24 ls st σ = np_X 66 25 ls (.int (0) :: st) σ := np_op k66 rfl rfl
theorem e66_25 {ls : nv_Ls} {σ : nv_St} {x : Int32} (h : narrow .boolean (.int x) = .int x) : np_X 66 25 ls [.int x] σ = some (.inl (some (.int x)), σ) := np_reti k66 rfl h
-- 67 SpoonNavy$Spoon.reaches
theorem k67 : np_P.1 67 = np_c67 := rfl
theorem e67_0 (x : Nat) {l1 l2 : Option Value} {st : List Value} {σ : nv_St} : np_X 67 0 [some (.ref x), l1, l2] st σ = np_X 67 1 [some (.ref x), l1, l2] (.ref x :: st) σ := np_op k67 rfl rfl
theorem e67_0u  {l1 l2 : Option Value} {st : List Value} {σ : nv_St} : np_X 67 0 [some .null, l1, l2] st σ = np_X 67 1 [some .null, l1, l2] (.null :: st) σ := np_op k67 rfl rfl
theorem e67_1 {ls : nv_Ls} {st : List Value} {σ : nv_St} {a : Nat}  (h : st.length ≤ 4) (h0 : nv_isO σ 4 a = true) : np_X 67 1 ls (.ref a :: st) σ = np_aft 67 1 4 ls st (np_X 62 0 [some (.ref a)] [] σ) := np_call k67 rfl (Nat.le_add_left 1 _) rfl rfl h rfl h0 rfl
theorem e67_4 {ls : nv_Ls} {st : List Value} {σ : nv_St} {x : Int32} : np_X 67 4 ls (.int x :: st) σ = if x = 0 then np_X 67 46 ls st σ else np_X 67 7 ls st σ := np_br inferInstance k67 rfl rfl
theorem e67_7 (x : Nat) {l1 l2 : Option Value} {st : List Value} {σ : nv_St} : np_X 67 7 [some (.ref x), l1, l2] st σ = np_X 67 8 [some (.ref x), l1, l2] (.ref x :: st) σ := np_op k67 rfl rfl
theorem e67_7u  {l1 l2 : Option Value} {st : List Value} {σ : nv_St} : np_X 67 7 [some .null, l1, l2] st σ = np_X 67 8 [some .null, l1, l2] (.null :: st) σ := np_op k67 rfl rfl
theorem e67_8 (x : Int32) {l0 l2 : Option Value} {st : List Value} {σ : nv_St} : np_X 67 8 [l0, some (.int x), l2] st σ = np_X 67 9 [l0, some (.int x), l2] (.int x :: st) σ := np_op k67 rfl rfl
theorem e67_9 (x : Int32) {l0 l1 : Option Value} {st : List Value} {σ : nv_St} : np_X 67 9 [l0, l1, some (.int x)] st σ = np_X 67 10 [l0, l1, some (.int x)] (.int x :: st) σ := np_op k67 rfl rfl
theorem e67_10 {ls : nv_Ls} {st : List Value} {σ : nv_St} {a : Nat} {x0 : Int32} {x1 : Int32} (h : st.length ≤ 4) (h0 : nv_isO σ 4 a = true) : np_X 67 10 ls (.int x1 :: .int x0 :: .ref a :: st) σ = np_aft 67 10 13 ls st (np_X 66 0 [some (.ref a), some (.int x0), some (.int x1), none] [] σ) := np_call k67 rfl (Nat.le_add_left 3 _) rfl rfl h rfl h0 rfl
theorem e67_13 {ls : nv_Ls} {st : List Value} {σ : nv_St} {x : Int32} : np_X 67 13 ls (.int x :: st) σ = if x = 0 then np_X 67 46 ls st σ else np_X 67 16 ls st σ := np_br inferInstance k67 rfl rfl
theorem e67_16 (x : Nat) {l1 l2 : Option Value} {st : List Value} {σ : nv_St} : np_X 67 16 [some (.ref x), l1, l2] st σ = np_X 67 17 [some (.ref x), l1, l2] (.ref x :: st) σ := np_op k67 rfl rfl
theorem e67_16u  {l1 l2 : Option Value} {st : List Value} {σ : nv_St} : np_X 67 16 [some .null, l1, l2] st σ = np_X 67 17 [some .null, l1, l2] (.null :: st) σ := np_op k67 rfl rfl
theorem e67_17 {ls : nv_Ls} {st : List Value} {σ : nv_St} {a : Nat} : np_X 67 17 ls (.ref a :: st) σ = np_b (nv_fld σ 4 4 a) (fun v => np_X 67 20 ls (v :: st) σ) := np_get k67 rfl
theorem e67_20 (x : Int32) {l0 l2 : Option Value} {st : List Value} {σ : nv_St} : np_X 67 20 [l0, some (.int x), l2] st σ = np_X 67 21 [l0, some (.int x), l2] (.int x :: st) σ := np_op k67 rfl rfl
theorem e67_21 (x : Nat) {l1 l2 : Option Value} {st : List Value} {σ : nv_St} : np_X 67 21 [some (.ref x), l1, l2] st σ = np_X 67 22 [some (.ref x), l1, l2] (.ref x :: st) σ := np_op k67 rfl rfl
theorem e67_21u  {l1 l2 : Option Value} {st : List Value} {σ : nv_St} : np_X 67 21 [some .null, l1, l2] st σ = np_X 67 22 [some .null, l1, l2] (.null :: st) σ := np_op k67 rfl rfl
theorem e67_22 {ls : nv_Ls} {st : List Value} {σ : nv_St} {a : Nat} : np_X 67 22 ls (.ref a :: st) σ = np_b (nv_fld σ 4 2 a) (fun v => np_X 67 25 ls (v :: st) σ) := np_get k67 rfl
theorem e67_25 {ls : nv_Ls} {st : List Value} {σ : nv_St} {x y : Int32} : np_X 67 25 ls (.int y :: .int x :: st) σ = np_X 67 26 ls (.int (x - y) :: st) σ := np_op k67 rfl rfl
theorem e67_26 (x : Int32) {l0 l1 : Option Value} {st : List Value} {σ : nv_St} : np_X 67 26 [l0, l1, some (.int x)] st σ = np_X 67 27 [l0, l1, some (.int x)] (.int x :: st) σ := np_op k67 rfl rfl
theorem e67_27 (x : Nat) {l1 l2 : Option Value} {st : List Value} {σ : nv_St} : np_X 67 27 [some (.ref x), l1, l2] st σ = np_X 67 28 [some (.ref x), l1, l2] (.ref x :: st) σ := np_op k67 rfl rfl
theorem e67_27u  {l1 l2 : Option Value} {st : List Value} {σ : nv_St} : np_X 67 27 [some .null, l1, l2] st σ = np_X 67 28 [some .null, l1, l2] (.null :: st) σ := np_op k67 rfl rfl
theorem e67_28 {ls : nv_Ls} {st : List Value} {σ : nv_St} {a : Nat} : np_X 67 28 ls (.ref a :: st) σ = np_b (nv_fld σ 4 3 a) (fun v => np_X 67 31 ls (v :: st) σ) := np_get k67 rfl
theorem e67_31 {ls : nv_Ls} {st : List Value} {σ : nv_St} {x y : Int32} : np_X 67 31 ls (.int y :: .int x :: st) σ = np_X 67 32 ls (.int (x - y) :: st) σ := np_op k67 rfl rfl
theorem e67_32 {ls : nv_Ls} {st : List Value} {σ : nv_St}  {x0 : Int32} {x1 : Int32} (h : st.length ≤ 4) : np_X 67 32 ls (.int x1 :: .int x0 :: st) σ = np_aft 67 32 35 ls st (np_X 138 0 [some (.int x0), some (.int x1), none, none] [] σ) := np_call k67 rfl (Nat.le_add_left 2 _) rfl rfl h rfl rfl rfl
theorem e67_35 {ls : nv_Ls} {st : List Value} {σ : nv_St}  {x0 : Int32} {x1 : Int32} (h : st.length ≤ 4) : np_X 67 35 ls (.int x1 :: .int x0 :: st) σ = np_aft 67 35 38 ls st (np_X 139 0 [some (.int x0), some (.int x1), none] [] σ) := np_call k67 rfl (Nat.le_add_left 2 _) rfl rfl h rfl rfl rfl
theorem e67_38 {ls : nv_Ls} {st : List Value} {σ : nv_St} : np_X 67 38 ls st σ = np_X 67 39 ls (.int (1) :: st) σ := np_op k67 rfl rfl
theorem e67_39 {ls : nv_Ls} {st : List Value} {σ : nv_St} {x y : Int32} : np_X 67 39 ls (.int y :: .int x :: st) σ = if y < x then np_X 67 46 ls st σ else np_X 67 42 ls st σ := np_br inferInstance k67 rfl rfl
theorem e67_42 {ls : nv_Ls} {st : List Value} {σ : nv_St} : np_X 67 42 ls st σ = np_X 67 43 ls (.int (1) :: st) σ := np_op k67 rfl rfl
theorem e67_43 {ls : nv_Ls} {st : List Value} {σ : nv_St} : np_X 67 43 ls st σ = np_X 67 47 ls st σ := np_op k67 rfl rfl
theorem e67_46 {ls : nv_Ls} {st : List Value} {σ : nv_St} : np_X 67 46 ls st σ = np_X 67 47 ls (.int (0) :: st) σ := np_op k67 rfl rfl
theorem e67_47 {ls : nv_Ls} {σ : nv_St} {x : Int32} (h : narrow .boolean (.int x) = .int x) : np_X 67 47 ls [.int x] σ = some (.inl (some (.int x)), σ) := np_reti k67 rfl h
-- 68 SpoonNavy$Spoon.becomeKnown
theorem k68 : np_P.1 68 = np_c68 := rfl
theorem e68_0 (x : Nat) {st : List Value} {σ : nv_St} : np_X 68 0 [some (.ref x)] st σ = np_X 68 1 [some (.ref x)] (.ref x :: st) σ := np_op k68 rfl rfl
theorem e68_0u  {st : List Value} {σ : nv_St} : np_X 68 0 [some .null] st σ = np_X 68 1 [some .null] (.null :: st) σ := np_op k68 rfl rfl
theorem e68_1 (x : Nat) {st : List Value} {σ : nv_St} : np_X 68 1 [some (.ref x)] st σ = np_X 68 2 [some (.ref x)] (.ref x :: st) σ := np_op k68 rfl rfl
theorem e68_1u  {st : List Value} {σ : nv_St} : np_X 68 1 [some .null] st σ = np_X 68 2 [some .null] (.null :: st) σ := np_op k68 rfl rfl
theorem e68_2 {ls : nv_Ls} {st : List Value} {σ : nv_St} {a : Nat} : np_X 68 2 ls (.ref a :: st) σ = np_b (nv_fld σ 4 2 a) (fun v => np_X 68 5 ls (v :: st) σ) := np_get k68 rfl
theorem e68_5 {ls : nv_Ls} {st : List Value} {σ : nv_St} {a : Nat} {v : Value} : np_X 68 5 ls (v :: .ref a :: st) σ = np_b (nv_sto σ 4 7 .int a v) (fun σ' => np_X 68 8 ls st σ') := np_put k68 rfl
theorem e68_8 (x : Nat) {st : List Value} {σ : nv_St} : np_X 68 8 [some (.ref x)] st σ = np_X 68 9 [some (.ref x)] (.ref x :: st) σ := np_op k68 rfl rfl
theorem e68_8u  {st : List Value} {σ : nv_St} : np_X 68 8 [some .null] st σ = np_X 68 9 [some .null] (.null :: st) σ := np_op k68 rfl rfl
theorem e68_9 (x : Nat) {st : List Value} {σ : nv_St} : np_X 68 9 [some (.ref x)] st σ = np_X 68 10 [some (.ref x)] (.ref x :: st) σ := np_op k68 rfl rfl
theorem e68_9u  {st : List Value} {σ : nv_St} : np_X 68 9 [some .null] st σ = np_X 68 10 [some .null] (.null :: st) σ := np_op k68 rfl rfl
theorem e68_10 {ls : nv_Ls} {st : List Value} {σ : nv_St} {a : Nat} : np_X 68 10 ls (.ref a :: st) σ = np_b (nv_fld σ 4 3 a) (fun v => np_X 68 13 ls (v :: st) σ) := np_get k68 rfl
theorem e68_13 {ls : nv_Ls} {st : List Value} {σ : nv_St} {a : Nat} {v : Value} : np_X 68 13 ls (v :: .ref a :: st) σ = np_b (nv_sto σ 4 8 .int a v) (fun σ' => np_X 68 16 ls st σ') := np_put k68 rfl
theorem e68_16 {ls : nv_Ls} {σ : nv_St} : np_X 68 16 ls [] σ = some (.inl none, σ) := np_ret k68 rfl rfl
-- 69 SpoonNavy$Spoon.ranksBefore
theorem k69 : np_P.1 69 = np_c69 := rfl
theorem e69_0 (x : Nat) {l1 : Option Value} {st : List Value} {σ : nv_St} : np_X 69 0 [some (.ref x), l1] st σ = np_X 69 1 [some (.ref x), l1] (.ref x :: st) σ := np_op k69 rfl rfl
theorem e69_0u  {l1 : Option Value} {st : List Value} {σ : nv_St} : np_X 69 0 [some .null, l1] st σ = np_X 69 1 [some .null, l1] (.null :: st) σ := np_op k69 rfl rfl
theorem e69_1 {ls : nv_Ls} {st : List Value} {σ : nv_St} {a : Nat} : np_X 69 1 ls (.ref a :: st) σ = np_b (nv_fld σ 4 6 a) (fun v => np_X 69 4 ls (v :: st) σ) := np_get k69 rfl
theorem e69_4 (x : Nat) {l0 : Option Value} {st : List Value} {σ : nv_St} : np_X 69 4 [l0, some (.ref x)] st σ = np_X 69 5 [l0, some (.ref x)] (.ref x :: st) σ := np_op k69 rfl rfl
theorem e69_4u  {l0 : Option Value} {st : List Value} {σ : nv_St} : np_X 69 4 [l0, some .null] st σ = np_X 69 5 [l0, some .null] (.null :: st) σ := np_op k69 rfl rfl
theorem e69_5 {ls : nv_Ls} {st : List Value} {σ : nv_St} {a : Nat} : np_X 69 5 ls (.ref a :: st) σ = np_b (nv_fld σ 4 6 a) (fun v => np_X 69 8 ls (v :: st) σ) := np_get k69 rfl
theorem e69_8 {ls : nv_Ls} {st : List Value} {σ : nv_St} {x y : Int32} : np_X 69 8 ls (.int y :: .int x :: st) σ = if x = y then np_X 69 28 ls st σ else np_X 69 11 ls st σ := np_br inferInstance k69 rfl rfl
theorem e69_11 (x : Nat) {l1 : Option Value} {st : List Value} {σ : nv_St} : np_X 69 11 [some (.ref x), l1] st σ = np_X 69 12 [some (.ref x), l1] (.ref x :: st) σ := np_op k69 rfl rfl
theorem e69_11u  {l1 : Option Value} {st : List Value} {σ : nv_St} : np_X 69 11 [some .null, l1] st σ = np_X 69 12 [some .null, l1] (.null :: st) σ := np_op k69 rfl rfl
theorem e69_12 {ls : nv_Ls} {st : List Value} {σ : nv_St} {a : Nat} : np_X 69 12 ls (.ref a :: st) σ = np_b (nv_fld σ 4 6 a) (fun v => np_X 69 15 ls (v :: st) σ) := np_get k69 rfl
theorem e69_15 (x : Nat) {l0 : Option Value} {st : List Value} {σ : nv_St} : np_X 69 15 [l0, some (.ref x)] st σ = np_X 69 16 [l0, some (.ref x)] (.ref x :: st) σ := np_op k69 rfl rfl
theorem e69_15u  {l0 : Option Value} {st : List Value} {σ : nv_St} : np_X 69 15 [l0, some .null] st σ = np_X 69 16 [l0, some .null] (.null :: st) σ := np_op k69 rfl rfl
theorem e69_16 {ls : nv_Ls} {st : List Value} {σ : nv_St} {a : Nat} : np_X 69 16 ls (.ref a :: st) σ = np_b (nv_fld σ 4 6 a) (fun v => np_X 69 19 ls (v :: st) σ) := np_get k69 rfl
theorem e69_19 {ls : nv_Ls} {st : List Value} {σ : nv_St} {x y : Int32} : np_X 69 19 ls (.int y :: .int x :: st) σ = if y < x then np_X 69 22 ls st σ else np_X 69 26 ls st σ := np_br inferInstance k69 rfl rfl
theorem e69_22 {ls : nv_Ls} {st : List Value} {σ : nv_St} : np_X 69 22 ls st σ = np_X 69 23 ls (.int (1) :: st) σ := np_op k69 rfl rfl
theorem e69_23 {ls : nv_Ls} {st : List Value} {σ : nv_St} : np_X 69 23 ls st σ = np_X 69 27 ls st σ := np_op k69 rfl rfl
theorem e69_26 {ls : nv_Ls} {st : List Value} {σ : nv_St} : np_X 69 26 ls st σ = np_X 69 27 ls (.int (0) :: st) σ := np_op k69 rfl rfl
theorem e69_27 {ls : nv_Ls} {σ : nv_St} {x : Int32} (h : narrow .boolean (.int x) = .int x) : np_X 69 27 ls [.int x] σ = some (.inl (some (.int x)), σ) := np_reti k69 rfl h
theorem e69_28 (x : Nat) {l1 : Option Value} {st : List Value} {σ : nv_St} : np_X 69 28 [some (.ref x), l1] st σ = np_X 69 29 [some (.ref x), l1] (.ref x :: st) σ := np_op k69 rfl rfl
theorem e69_28u  {l1 : Option Value} {st : List Value} {σ : nv_St} : np_X 69 28 [some .null, l1] st σ = np_X 69 29 [some .null, l1] (.null :: st) σ := np_op k69 rfl rfl
theorem e69_29 {ls : nv_Ls} {st : List Value} {σ : nv_St} {a : Nat} : np_X 69 29 ls (.ref a :: st) σ = np_b (nv_fld σ 4 5 a) (fun v => np_X 69 32 ls (v :: st) σ) := np_get k69 rfl
theorem e69_32 (x : Nat) {l0 : Option Value} {st : List Value} {σ : nv_St} : np_X 69 32 [l0, some (.ref x)] st σ = np_X 69 33 [l0, some (.ref x)] (.ref x :: st) σ := np_op k69 rfl rfl
theorem e69_32u  {l0 : Option Value} {st : List Value} {σ : nv_St} : np_X 69 32 [l0, some .null] st σ = np_X 69 33 [l0, some .null] (.null :: st) σ := np_op k69 rfl rfl
theorem e69_33 {ls : nv_Ls} {st : List Value} {σ : nv_St} {a : Nat} : np_X 69 33 ls (.ref a :: st) σ = np_b (nv_fld σ 4 5 a) (fun v => np_X 69 36 ls (v :: st) σ) := np_get k69 rfl
theorem e69_36 {ls : nv_Ls} {st : List Value} {σ : nv_St} {x y : Int32} : np_X 69 36 ls (.int y :: .int x :: st) σ = if x = y then np_X 69 56 ls st σ else np_X 69 39 ls st σ := np_br inferInstance k69 rfl rfl
theorem e69_39 (x : Nat) {l1 : Option Value} {st : List Value} {σ : nv_St} : np_X 69 39 [some (.ref x), l1] st σ = np_X 69 40 [some (.ref x), l1] (.ref x :: st) σ := np_op k69 rfl rfl
theorem e69_39u  {l1 : Option Value} {st : List Value} {σ : nv_St} : np_X 69 39 [some .null, l1] st σ = np_X 69 40 [some .null, l1] (.null :: st) σ := np_op k69 rfl rfl
theorem e69_40 {ls : nv_Ls} {st : List Value} {σ : nv_St} {a : Nat} : np_X 69 40 ls (.ref a :: st) σ = np_b (nv_fld σ 4 5 a) (fun v => np_X 69 43 ls (v :: st) σ) := np_get k69 rfl
theorem e69_43 (x : Nat) {l0 : Option Value} {st : List Value} {σ : nv_St} : np_X 69 43 [l0, some (.ref x)] st σ = np_X 69 44 [l0, some (.ref x)] (.ref x :: st) σ := np_op k69 rfl rfl
theorem e69_43u  {l0 : Option Value} {st : List Value} {σ : nv_St} : np_X 69 43 [l0, some .null] st σ = np_X 69 44 [l0, some .null] (.null :: st) σ := np_op k69 rfl rfl
theorem e69_44 {ls : nv_Ls} {st : List Value} {σ : nv_St} {a : Nat} : np_X 69 44 ls (.ref a :: st) σ = np_b (nv_fld σ 4 5 a) (fun v => np_X 69 47 ls (v :: st) σ) := np_get k69 rfl
theorem e69_47 {ls : nv_Ls} {st : List Value} {σ : nv_St} {x y : Int32} : np_X 69 47 ls (.int y :: .int x :: st) σ = if y < x then np_X 69 50 ls st σ else np_X 69 54 ls st σ := np_br inferInstance k69 rfl rfl
theorem e69_50 {ls : nv_Ls} {st : List Value} {σ : nv_St} : np_X 69 50 ls st σ = np_X 69 51 ls (.int (1) :: st) σ := np_op k69 rfl rfl
theorem e69_51 {ls : nv_Ls} {st : List Value} {σ : nv_St} : np_X 69 51 ls st σ = np_X 69 55 ls st σ := np_op k69 rfl rfl
theorem e69_54 {ls : nv_Ls} {st : List Value} {σ : nv_St} : np_X 69 54 ls st σ = np_X 69 55 ls (.int (0) :: st) σ := np_op k69 rfl rfl
theorem e69_55 {ls : nv_Ls} {σ : nv_St} {x : Int32} (h : narrow .boolean (.int x) = .int x) : np_X 69 55 ls [.int x] σ = some (.inl (some (.int x)), σ) := np_reti k69 rfl h
theorem e69_56 (x : Nat) {l1 : Option Value} {st : List Value} {σ : nv_St} : np_X 69 56 [some (.ref x), l1] st σ = np_X 69 57 [some (.ref x), l1] (.ref x :: st) σ := np_op k69 rfl rfl
theorem e69_56u  {l1 : Option Value} {st : List Value} {σ : nv_St} : np_X 69 56 [some .null, l1] st σ = np_X 69 57 [some .null, l1] (.null :: st) σ := np_op k69 rfl rfl
theorem e69_57 {ls : nv_Ls} {st : List Value} {σ : nv_St} {a : Nat} : np_X 69 57 ls (.ref a :: st) σ = np_b (nv_fld σ 4 0 a) (fun v => np_X 69 60 ls (v :: st) σ) := np_get k69 rfl
theorem e69_60 (x : Nat) {l0 : Option Value} {st : List Value} {σ : nv_St} : np_X 69 60 [l0, some (.ref x)] st σ = np_X 69 61 [l0, some (.ref x)] (.ref x :: st) σ := np_op k69 rfl rfl
theorem e69_60u  {l0 : Option Value} {st : List Value} {σ : nv_St} : np_X 69 60 [l0, some .null] st σ = np_X 69 61 [l0, some .null] (.null :: st) σ := np_op k69 rfl rfl
theorem e69_61 {ls : nv_Ls} {st : List Value} {σ : nv_St} {a : Nat} : np_X 69 61 ls (.ref a :: st) σ = np_b (nv_fld σ 4 0 a) (fun v => np_X 69 64 ls (v :: st) σ) := np_get k69 rfl
theorem e69_64 {ls : nv_Ls} {st : List Value} {σ : nv_St} {x y : Int32} : np_X 69 64 ls (.int y :: .int x :: st) σ = if x < y then np_X 69 67 ls st σ else np_X 69 71 ls st σ := np_br inferInstance k69 rfl rfl
theorem e69_67 {ls : nv_Ls} {st : List Value} {σ : nv_St} : np_X 69 67 ls st σ = np_X 69 68 ls (.int (1) :: st) σ := np_op k69 rfl rfl
theorem e69_68 {ls : nv_Ls} {st : List Value} {σ : nv_St} : np_X 69 68 ls st σ = np_X 69 72 ls st σ := np_op k69 rfl rfl
theorem e69_71 {ls : nv_Ls} {st : List Value} {σ : nv_St} : np_X 69 71 ls st σ = np_X 69 72 ls (.int (0) :: st) σ := np_op k69 rfl rfl
theorem e69_72 {ls : nv_Ls} {σ : nv_St} {x : Int32} (h : narrow .boolean (.int x) = .int x) : np_X 69 72 ls [.int x] σ = some (.inl (some (.int x)), σ) := np_reti k69 rfl h
-- 70 SpoonNavy$Spoon.letter
theorem k70 : np_P.1 70 = np_c70 := rfl
theorem e70_0 (x : Nat) {st : List Value} {σ : nv_St} : np_X 70 0 [some (.ref x)] st σ = np_X 70 1 [some (.ref x)] (.ref x :: st) σ := np_op k70 rfl rfl
theorem e70_0u  {st : List Value} {σ : nv_St} : np_X 70 0 [some .null] st σ = np_X 70 1 [some .null] (.null :: st) σ := np_op k70 rfl rfl
theorem e70_1 {ls : nv_Ls} {st : List Value} {σ : nv_St} {a : Nat} : np_X 70 1 ls (.ref a :: st) σ = np_b (nv_fld σ 4 1 a) (fun v => np_X 70 4 ls (v :: st) σ) := np_get k70 rfl
theorem e70_4 {ls : nv_Ls} {st : List Value} {σ : nv_St} {x : Int32} : np_X 70 4 ls (.int x :: st) σ = if x = 0 then np_X 70 7 ls st σ else np_X 70 12 ls st σ := np_br inferInstance k70 rfl rfl
theorem e70_7 {ls : nv_Ls} {st : List Value} {σ : nv_St} : np_X 70 7 ls st σ = np_X 70 9 ls (.int (97) :: st) σ := np_op k70 rfl rfl
theorem e70_9 {ls : nv_Ls} {st : List Value} {σ : nv_St} : np_X 70 9 ls st σ = np_X 70 14 ls st σ := np_op k70 rfl rfl
theorem e70_12 {ls : nv_Ls} {st : List Value} {σ : nv_St} : np_X 70 12 ls st σ = np_X 70 14 ls (.int (65) :: st) σ := np_op k70 rfl rfl
theorem e70_14 (x : Nat) {st : List Value} {σ : nv_St} : np_X 70 14 [some (.ref x)] st σ = np_X 70 15 [some (.ref x)] (.ref x :: st) σ := np_op k70 rfl rfl
theorem e70_14u  {st : List Value} {σ : nv_St} : np_X 70 14 [some .null] st σ = np_X 70 15 [some .null] (.null :: st) σ := np_op k70 rfl rfl
theorem e70_15 {ls : nv_Ls} {st : List Value} {σ : nv_St} {a : Nat} : np_X 70 15 ls (.ref a :: st) σ = np_b (nv_fld σ 4 0 a) (fun v => np_X 70 18 ls (v :: st) σ) := np_get k70 rfl
theorem e70_18 {ls : nv_Ls} {st : List Value} {σ : nv_St} {x y : Int32} : np_X 70 18 ls (.int y :: .int x :: st) σ = np_X 70 19 ls (.int (x + y) :: st) σ := np_op k70 rfl rfl
theorem e70_19 {ls : nv_Ls} {st : List Value} {σ : nv_St} {x : Int32} : np_X 70 19 ls (.int x :: st) σ = np_X 70 20 ls (.int (x.toUInt32 % 65536).toInt32 :: st) σ := np_op k70 rfl rfl
theorem e70_20 {ls : nv_Ls} {σ : nv_St} {x : Int32} (h : narrow .char (.int x) = .int x) : np_X 70 20 ls [.int x] σ = some (.inl (some (.int x)), σ) := np_reti k70 rfl h
-- 71 SpoonNavy.<init>
theorem k71 : np_P.1 71 = np_c71 := rfl
theorem e71_0 (x : Nat) {st : List Value} {σ : nv_St} : np_X 71 0 [some (.ref x)] st σ = np_X 71 1 [some (.ref x)] (.ref x :: st) σ := np_op k71 rfl rfl
theorem e71_0u  {st : List Value} {σ : nv_St} : np_X 71 0 [some .null] st σ = np_X 71 1 [some .null] (.null :: st) σ := np_op k71 rfl rfl
theorem e71_1 {ls : nv_Ls} {st : List Value} {σ : nv_St} {a : Nat} (h : a < 1000000) (h1 : st.length ≤ 4) : np_X 71 1 ls (.ref a :: st) σ = np_X 71 4 ls st σ := np_oinit k71 rfl h h1
theorem e71_4 (x : Nat) {st : List Value} {σ : nv_St} : np_X 71 4 [some (.ref x)] st σ = np_X 71 5 [some (.ref x)] (.ref x :: st) σ := np_op k71 rfl rfl
theorem e71_4u  {st : List Value} {σ : nv_St} : np_X 71 4 [some .null] st σ = np_X 71 5 [some .null] (.null :: st) σ := np_op k71 rfl rfl
theorem e71_5 {ls : nv_Ls} {st : List Value} {σ : nv_St} (h : σ.2.2.1 = 0) (h1 : σ.2.1 < 1000000) : np_X 71 5 ls st σ = np_X 71 8 ls (.ref σ.2.1 :: st) (nv_mk σ (.inr (2, [.null, .null, .null, .int 0, .int 0, .int 0, .int 0, .int 0, .int 0, .int 0, .long 0, .int 0])) 12) := np_op k71 rfl (by simp only [nv_new]; rw [if_pos ⟨h, h1⟩]; rfl)
theorem e71_8 {ls : nv_Ls} {st : List Value} {σ : nv_St} {x : Nat} : np_X 71 8 ls (.ref x :: st) σ = np_X 71 9 ls (.ref x :: .ref x :: st) σ := np_op k71 rfl rfl
theorem e71_8i {ls : nv_Ls} {st : List Value} {σ : nv_St} {x : Int32} : np_X 71 8 ls (.int x :: st) σ = np_X 71 9 ls (.int x :: .int x :: st) σ := np_op k71 rfl rfl
theorem e71_9 {ls : nv_Ls} {st : List Value} {σ : nv_St} {a : Nat}  (h : st.length ≤ 4) (h0 : nv_isO σ 2 a = true) : np_X 71 9 ls (.ref a :: st) σ = np_aft 71 9 12 ls st (np_X 26 0 [some (.ref a), none] [] σ) := np_call k71 rfl (Nat.le_add_left 1 _) rfl rfl h rfl h0 rfl
theorem e71_12 {ls : nv_Ls} {st : List Value} {σ : nv_St} {a : Nat} {v : Value} : np_X 71 12 ls (v :: .ref a :: st) σ = np_b (nv_sto σ 5 0 (.object "SpoonNavy$Game") a v) (fun σ' => np_X 71 15 ls st σ') := np_put k71 rfl
theorem e71_15 (x : Nat) {st : List Value} {σ : nv_St} : np_X 71 15 [some (.ref x)] st σ = np_X 71 16 [some (.ref x)] (.ref x :: st) σ := np_op k71 rfl rfl
theorem e71_15u  {st : List Value} {σ : nv_St} : np_X 71 15 [some .null] st σ = np_X 71 16 [some .null] (.null :: st) σ := np_op k71 rfl rfl
theorem e71_16 {ls : nv_Ls} {st : List Value} {σ : nv_St} (h : σ.2.2.1 = 0) (h1 : σ.2.1 < 1000000) : np_X 71 16 ls st σ = np_X 71 19 ls (.ref σ.2.1 :: st) (nv_mk σ (.inr (2, [.null, .null, .null, .int 0, .int 0, .int 0, .int 0, .int 0, .int 0, .int 0, .long 0, .int 0])) 12) := np_op k71 rfl (by simp only [nv_new]; rw [if_pos ⟨h, h1⟩]; rfl)
theorem e71_19 {ls : nv_Ls} {st : List Value} {σ : nv_St} {x : Nat} : np_X 71 19 ls (.ref x :: st) σ = np_X 71 20 ls (.ref x :: .ref x :: st) σ := np_op k71 rfl rfl
theorem e71_19i {ls : nv_Ls} {st : List Value} {σ : nv_St} {x : Int32} : np_X 71 19 ls (.int x :: st) σ = np_X 71 20 ls (.int x :: .int x :: st) σ := np_op k71 rfl rfl
theorem e71_20 {ls : nv_Ls} {st : List Value} {σ : nv_St} {a : Nat}  (h : st.length ≤ 4) (h0 : nv_isO σ 2 a = true) : np_X 71 20 ls (.ref a :: st) σ = np_aft 71 20 23 ls st (np_X 26 0 [some (.ref a), none] [] σ) := np_call k71 rfl (Nat.le_add_left 1 _) rfl rfl h rfl h0 rfl
theorem e71_23 {ls : nv_Ls} {st : List Value} {σ : nv_St} {a : Nat} {v : Value} : np_X 71 23 ls (v :: .ref a :: st) σ = np_b (nv_sto σ 5 1 (.object "SpoonNavy$Game") a v) (fun σ' => np_X 71 26 ls st σ') := np_put k71 rfl
theorem e71_26 (x : Nat) {st : List Value} {σ : nv_St} : np_X 71 26 [some (.ref x)] st σ = np_X 71 27 [some (.ref x)] (.ref x :: st) σ := np_op k71 rfl rfl
theorem e71_26u  {st : List Value} {σ : nv_St} : np_X 71 26 [some .null] st σ = np_X 71 27 [some .null] (.null :: st) σ := np_op k71 rfl rfl
theorem e71_27 {ls : nv_Ls} {st : List Value} {σ : nv_St} (h : σ.2.2.1 = 0) (h1 : σ.2.1 < 1000000) : np_X 71 27 ls st σ = np_X 71 30 ls (.ref σ.2.1 :: st) (nv_mk σ (.inr (2, [.null, .null, .null, .int 0, .int 0, .int 0, .int 0, .int 0, .int 0, .int 0, .long 0, .int 0])) 12) := np_op k71 rfl (by simp only [nv_new]; rw [if_pos ⟨h, h1⟩]; rfl)
theorem e71_30 {ls : nv_Ls} {st : List Value} {σ : nv_St} {x : Nat} : np_X 71 30 ls (.ref x :: st) σ = np_X 71 31 ls (.ref x :: .ref x :: st) σ := np_op k71 rfl rfl
theorem e71_30i {ls : nv_Ls} {st : List Value} {σ : nv_St} {x : Int32} : np_X 71 30 ls (.int x :: st) σ = np_X 71 31 ls (.int x :: .int x :: st) σ := np_op k71 rfl rfl
theorem e71_31 {ls : nv_Ls} {st : List Value} {σ : nv_St} {a : Nat}  (h : st.length ≤ 4) (h0 : nv_isO σ 2 a = true) : np_X 71 31 ls (.ref a :: st) σ = np_aft 71 31 34 ls st (np_X 26 0 [some (.ref a), none] [] σ) := np_call k71 rfl (Nat.le_add_left 1 _) rfl rfl h rfl h0 rfl
theorem e71_34 {ls : nv_Ls} {st : List Value} {σ : nv_St} {a : Nat} {v : Value} : np_X 71 34 ls (v :: .ref a :: st) σ = np_b (nv_sto σ 5 2 (.object "SpoonNavy$Game") a v) (fun σ' => np_X 71 37 ls st σ') := np_put k71 rfl
theorem e71_37 (x : Nat) {st : List Value} {σ : nv_St} : np_X 71 37 [some (.ref x)] st σ = np_X 71 38 [some (.ref x)] (.ref x :: st) σ := np_op k71 rfl rfl
theorem e71_37u  {st : List Value} {σ : nv_St} : np_X 71 37 [some .null] st σ = np_X 71 38 [some .null] (.null :: st) σ := np_op k71 rfl rfl
theorem e71_38 {ls : nv_Ls} {st : List Value} {σ : nv_St} (h : σ.2.2.1 = 0) (h1 : σ.2.1 < 1000000) : np_X 71 38 ls st σ = np_X 71 41 ls (.ref σ.2.1 :: st) (nv_mk σ (.inr (3, [.null, .int 0, .int 0])) 3) := np_op k71 rfl (by simp only [nv_new]; rw [if_pos ⟨h, h1⟩]; rfl)
theorem e71_41 {ls : nv_Ls} {st : List Value} {σ : nv_St} {x : Nat} : np_X 71 41 ls (.ref x :: st) σ = np_X 71 42 ls (.ref x :: .ref x :: st) σ := np_op k71 rfl rfl
theorem e71_41i {ls : nv_Ls} {st : List Value} {σ : nv_St} {x : Int32} : np_X 71 41 ls (.int x :: st) σ = np_X 71 42 ls (.int x :: .int x :: st) σ := np_op k71 rfl rfl
theorem e71_42 {ls : nv_Ls} {st : List Value} {σ : nv_St} {a : Nat}  (h : st.length ≤ 4) (h0 : nv_isO σ 3 a = true) : np_X 71 42 ls (.ref a :: st) σ = np_aft 71 42 45 ls st (np_X 56 0 [some (.ref a), none] [] σ) := np_call k71 rfl (Nat.le_add_left 1 _) rfl rfl h rfl h0 rfl
theorem e71_45 {ls : nv_Ls} {st : List Value} {σ : nv_St} {a : Nat} {v : Value} : np_X 71 45 ls (v :: .ref a :: st) σ = np_b (nv_sto σ 5 3 (.object "SpoonNavy$History") a v) (fun σ' => np_X 71 48 ls st σ') := np_put k71 rfl
theorem e71_48 (x : Nat) {st : List Value} {σ : nv_St} : np_X 71 48 [some (.ref x)] st σ = np_X 71 49 [some (.ref x)] (.ref x :: st) σ := np_op k71 rfl rfl
theorem e71_48u  {st : List Value} {σ : nv_St} : np_X 71 48 [some .null] st σ = np_X 71 49 [some .null] (.null :: st) σ := np_op k71 rfl rfl
theorem e71_49 {ls : nv_Ls} {st : List Value} {σ : nv_St} (h : σ.2.2.1 = 0) (h1 : σ.2.1 < 1000000) : np_X 71 49 ls st σ = np_X 71 52 ls (.ref σ.2.1 :: st) (nv_mk σ (.inr (1, [.null, .null, .int 0, .int 0, .int 0, .int 0, .null])) 7) := np_op k71 rfl (by simp only [nv_new]; rw [if_pos ⟨h, h1⟩]; rfl)
theorem e71_52 {ls : nv_Ls} {st : List Value} {σ : nv_St} {x : Nat} : np_X 71 52 ls (.ref x :: st) σ = np_X 71 53 ls (.ref x :: .ref x :: st) σ := np_op k71 rfl rfl
theorem e71_52i {ls : nv_Ls} {st : List Value} {σ : nv_St} {x : Int32} : np_X 71 52 ls (.int x :: st) σ = np_X 71 53 ls (.int x :: .int x :: st) σ := np_op k71 rfl rfl
theorem e71_53 {ls : nv_Ls} {st : List Value} {σ : nv_St} {a : Nat}  (h : st.length ≤ 4) (h0 : nv_isO σ 1 a = true) : np_X 71 53 ls (.ref a :: st) σ = np_aft 71 53 56 ls st (np_X 11 0 [some (.ref a)] [] σ) := np_call k71 rfl (Nat.le_add_left 1 _) rfl rfl h rfl h0 rfl
theorem e71_56 {ls : nv_Ls} {st : List Value} {σ : nv_St} {a : Nat} {v : Value} : np_X 71 56 ls (v :: .ref a :: st) σ = np_b (nv_sto σ 5 4 (.object "SpoonNavy$CommandText") a v) (fun σ' => np_X 71 59 ls st σ') := np_put k71 rfl
theorem e71_59 (x : Nat) {st : List Value} {σ : nv_St} : np_X 71 59 [some (.ref x)] st σ = np_X 71 60 [some (.ref x)] (.ref x :: st) σ := np_op k71 rfl rfl
theorem e71_59u  {st : List Value} {σ : nv_St} : np_X 71 59 [some .null] st σ = np_X 71 60 [some .null] (.null :: st) σ := np_op k71 rfl rfl
theorem e71_60 {ls : nv_Ls} {st : List Value} {σ : nv_St} : np_X 71 60 ls st σ = np_X 71 62 ls (.int (10) :: st) σ := np_op k71 rfl rfl
theorem e71_62 {ls : nv_Ls} {st : List Value} {σ : nv_St} {x : Int32} (h : σ.2.2.1 = 0) (h1 : σ.2.1 < 1000000) (h2 : ¬ x < 0) (h3 : x.toNatClampNeg ≤ 1000) : np_X 71 62 ls (.int x :: st) σ = np_X 71 64 ls (.ref σ.2.1 :: st) (nv_mk σ (.inl (0, x.toNatClampNeg, .inl (fun _ => 0))) x.toNatClampNeg) := np_op k71 rfl (by simp only [nv_newi]; rw [if_pos ⟨h, h1, h2, h3⟩])
theorem e71_64 {ls : nv_Ls} {st : List Value} {σ : nv_St} {a : Nat} {v : Value} : np_X 71 64 ls (v :: .ref a :: st) σ = np_b (nv_sto σ 5 5 (.array .char) a v) (fun σ' => np_X 71 67 ls st σ') := np_put k71 rfl
theorem e71_67 (x : Nat) {st : List Value} {σ : nv_St} : np_X 71 67 [some (.ref x)] st σ = np_X 71 68 [some (.ref x)] (.ref x :: st) σ := np_op k71 rfl rfl
theorem e71_67u  {st : List Value} {σ : nv_St} : np_X 71 67 [some .null] st σ = np_X 71 68 [some .null] (.null :: st) σ := np_op k71 rfl rfl
theorem e71_68 {ls : nv_Ls} {st : List Value} {σ : nv_St} : np_X 71 68 ls st σ = np_X 71 69 ls (.int (0) :: st) σ := np_op k71 rfl rfl
theorem e71_69 {ls : nv_Ls} {st : List Value} {σ : nv_St} {a : Nat} {v : Value} : np_X 71 69 ls (v :: .ref a :: st) σ = np_b (nv_sto σ 5 6 .int a v) (fun σ' => np_X 71 72 ls st σ') := np_put k71 rfl
theorem e71_72 (x : Nat) {st : List Value} {σ : nv_St} : np_X 71 72 [some (.ref x)] st σ = np_X 71 73 [some (.ref x)] (.ref x :: st) σ := np_op k71 rfl rfl
theorem e71_72u  {st : List Value} {σ : nv_St} : np_X 71 72 [some .null] st σ = np_X 71 73 [some .null] (.null :: st) σ := np_op k71 rfl rfl
theorem e71_73 {ls : nv_Ls} {st : List Value} {σ : nv_St} : np_X 71 73 ls st σ = np_X 71 74 ls (.int (0) :: st) σ := np_op k71 rfl rfl
theorem e71_74 {ls : nv_Ls} {st : List Value} {σ : nv_St} {a : Nat} {v : Value} : np_X 71 74 ls (v :: .ref a :: st) σ = np_b (nv_sto σ 5 7 .boolean a v) (fun σ' => np_X 71 77 ls st σ') := np_put k71 rfl
theorem e71_77 (x : Nat) {st : List Value} {σ : nv_St} : np_X 71 77 [some (.ref x)] st σ = np_X 71 78 [some (.ref x)] (.ref x :: st) σ := np_op k71 rfl rfl
theorem e71_77u  {st : List Value} {σ : nv_St} : np_X 71 77 [some .null] st σ = np_X 71 78 [some .null] (.null :: st) σ := np_op k71 rfl rfl
theorem e71_78 {ls : nv_Ls} {st : List Value} {σ : nv_St} : np_X 71 78 ls st σ = np_X 71 79 ls (.int (0) :: st) σ := np_op k71 rfl rfl
theorem e71_79 {ls : nv_Ls} {st : List Value} {σ : nv_St} {a : Nat} {v : Value} : np_X 71 79 ls (v :: .ref a :: st) σ = np_b (nv_sto σ 5 8 .int a v) (fun σ' => np_X 71 82 ls st σ') := np_put k71 rfl
theorem e71_82 (x : Nat) {st : List Value} {σ : nv_St} : np_X 71 82 [some (.ref x)] st σ = np_X 71 83 [some (.ref x)] (.ref x :: st) σ := np_op k71 rfl rfl
theorem e71_82u  {st : List Value} {σ : nv_St} : np_X 71 82 [some .null] st σ = np_X 71 83 [some .null] (.null :: st) σ := np_op k71 rfl rfl
theorem e71_83 {ls : nv_Ls} {st : List Value} {σ : nv_St} : np_X 71 83 ls st σ = np_X 71 84 ls (.int (-1) :: st) σ := np_op k71 rfl rfl
theorem e71_84 {ls : nv_Ls} {st : List Value} {σ : nv_St} {a : Nat} {v : Value} : np_X 71 84 ls (v :: .ref a :: st) σ = np_b (nv_sto σ 5 9 .int a v) (fun σ' => np_X 71 87 ls st σ') := np_put k71 rfl
theorem e71_87 (x : Nat) {st : List Value} {σ : nv_St} : np_X 71 87 [some (.ref x)] st σ = np_X 71 88 [some (.ref x)] (.ref x :: st) σ := np_op k71 rfl rfl
theorem e71_87u  {st : List Value} {σ : nv_St} : np_X 71 87 [some .null] st σ = np_X 71 88 [some .null] (.null :: st) σ := np_op k71 rfl rfl
theorem e71_88 {ls : nv_Ls} {st : List Value} {σ : nv_St} : np_X 71 88 ls st σ = np_X 71 89 ls (.int (-1) :: st) σ := np_op k71 rfl rfl
theorem e71_89 {ls : nv_Ls} {st : List Value} {σ : nv_St} {a : Nat} {v : Value} : np_X 71 89 ls (v :: .ref a :: st) σ = np_b (nv_sto σ 5 10 .int a v) (fun σ' => np_X 71 92 ls st σ') := np_put k71 rfl
theorem e71_92 {ls : nv_Ls} {σ : nv_St} : np_X 71 92 ls [] σ = some (.inl none, σ) := np_ret k71 rfl rfl
-- 72 SpoonNavy.addSpoon
theorem k72 : np_P.1 72 = np_c72 := rfl
theorem e72_0 (x : Nat) {l1 l2 l3 l4 l5 : Option Value} {st : List Value} {σ : nv_St} : np_X 72 0 [some (.ref x), l1, l2, l3, l4, l5] st σ = np_X 72 1 [some (.ref x), l1, l2, l3, l4, l5] (.ref x :: st) σ := np_op k72 rfl rfl
theorem e72_0u  {l1 l2 l3 l4 l5 : Option Value} {st : List Value} {σ : nv_St} : np_X 72 0 [some .null, l1, l2, l3, l4, l5] st σ = np_X 72 1 [some .null, l1, l2, l3, l4, l5] (.null :: st) σ := np_op k72 rfl rfl
theorem e72_1 {ls : nv_Ls} {st : List Value} {σ : nv_St} {a : Nat} : np_X 72 1 ls (.ref a :: st) σ = np_b (nv_fld σ 5 1 a) (fun v => np_X 72 4 ls (v :: st) σ) := np_get k72 rfl
theorem e72_4 (x : Nat) {l1 l2 l3 l4 l5 : Option Value} {st : List Value} {σ : nv_St} : np_X 72 4 [some (.ref x), l1, l2, l3, l4, l5] st σ = np_X 72 5 [some (.ref x), l1, l2, l3, l4, l5] (.ref x :: st) σ := np_op k72 rfl rfl
theorem e72_4u  {l1 l2 l3 l4 l5 : Option Value} {st : List Value} {σ : nv_St} : np_X 72 4 [some .null, l1, l2, l3, l4, l5] st σ = np_X 72 5 [some .null, l1, l2, l3, l4, l5] (.null :: st) σ := np_op k72 rfl rfl
theorem e72_5 {ls : nv_Ls} {st : List Value} {σ : nv_St} {a : Nat} : np_X 72 5 ls (.ref a :: st) σ = np_b (nv_fld σ 5 0 a) (fun v => np_X 72 8 ls (v :: st) σ) := np_get k72 rfl
theorem e72_8 {ls : nv_Ls} {st : List Value} {σ : nv_St} {a : Nat} {x0 : Nat} (h : st.length ≤ 4) (h0 : nv_isO σ 2 a = true) : np_X 72 8 ls (.ref x0 :: .ref a :: st) σ = np_aft 72 8 11 ls st (np_X 27 0 [some (.ref a), some (.ref x0), none] [] σ) := np_call k72 rfl (Nat.le_add_left 2 _) rfl rfl h rfl h0 rfl
theorem e72_11 (x : Nat) {l1 l2 l3 l4 l5 : Option Value} {st : List Value} {σ : nv_St} : np_X 72 11 [some (.ref x), l1, l2, l3, l4, l5] st σ = np_X 72 12 [some (.ref x), l1, l2, l3, l4, l5] (.ref x :: st) σ := np_op k72 rfl rfl
theorem e72_11u  {l1 l2 l3 l4 l5 : Option Value} {st : List Value} {σ : nv_St} : np_X 72 11 [some .null, l1, l2, l3, l4, l5] st σ = np_X 72 12 [some .null, l1, l2, l3, l4, l5] (.null :: st) σ := np_op k72 rfl rfl
theorem e72_12 (x : Nat) {l1 l2 l3 l4 l5 : Option Value} {st : List Value} {σ : nv_St} : np_X 72 12 [some (.ref x), l1, l2, l3, l4, l5] st σ = np_X 72 13 [some (.ref x), l1, l2, l3, l4, l5] (.ref x :: st) σ := np_op k72 rfl rfl
theorem e72_12u  {l1 l2 l3 l4 l5 : Option Value} {st : List Value} {σ : nv_St} : np_X 72 12 [some .null, l1, l2, l3, l4, l5] st σ = np_X 72 13 [some .null, l1, l2, l3, l4, l5] (.null :: st) σ := np_op k72 rfl rfl
theorem e72_13 {ls : nv_Ls} {st : List Value} {σ : nv_St} {a : Nat} : np_X 72 13 ls (.ref a :: st) σ = np_b (nv_fld σ 5 0 a) (fun v => np_X 72 16 ls (v :: st) σ) := np_get k72 rfl
theorem e72_16 (x : Int32) {l0 l2 l3 l4 l5 : Option Value} {st : List Value} {σ : nv_St} : np_X 72 16 [l0, some (.int x), l2, l3, l4, l5] st σ = np_X 72 17 [l0, some (.int x), l2, l3, l4, l5] (.int x :: st) σ := np_op k72 rfl rfl
theorem e72_17 (x : Int32) {l0 l1 l3 l4 l5 : Option Value} {st : List Value} {σ : nv_St} : np_X 72 17 [l0, l1, some (.int x), l3, l4, l5] st σ = np_X 72 18 [l0, l1, some (.int x), l3, l4, l5] (.int x :: st) σ := np_op k72 rfl rfl
theorem e72_18 (x : Int32) {l0 l1 l2 l4 l5 : Option Value} {st : List Value} {σ : nv_St} : np_X 72 18 [l0, l1, l2, some (.int x), l4, l5] st σ = np_X 72 19 [l0, l1, l2, some (.int x), l4, l5] (.int x :: st) σ := np_op k72 rfl rfl
theorem e72_19 (x : Int32) {l0 l1 l2 l3 l5 : Option Value} {st : List Value} {σ : nv_St} : np_X 72 19 [l0, l1, l2, l3, some (.int x), l5] st σ = np_X 72 21 [l0, l1, l2, l3, some (.int x), l5] (.int x :: st) σ := np_op k72 rfl rfl
theorem e72_21 (x : Int32) {l0 l1 l2 l3 l4 : Option Value} {st : List Value} {σ : nv_St} : np_X 72 21 [l0, l1, l2, l3, l4, some (.int x)] st σ = np_X 72 23 [l0, l1, l2, l3, l4, some (.int x)] (.int x :: st) σ := np_op k72 rfl rfl
theorem e72_23 {ls : nv_Ls} {st : List Value} {σ : nv_St} {a : Nat} {x0 : Int32} {x1 : Int32} {x2 : Int32} {x3 : Int32} {x4 : Int32} (h : st.length ≤ 4) (h0 : nv_isO σ 2 a = true) : np_X 72 23 ls (.int x4 :: .int x3 :: .int x2 :: .int x1 :: .int x0 :: .ref a :: st) σ = np_aft 72 23 26 ls st (np_X 44 0 [some (.ref a), some (.int x0), some (.int x1), some (.int x2), some (.int x3), some (.int x4), none, none] [] σ) := np_call k72 rfl (Nat.le_add_left 6 _) rfl rfl h rfl h0 rfl
theorem e72_26 {ls : nv_Ls} {st : List Value} {σ : nv_St} {a : Nat} {x0 : Int32} (h : st.length ≤ 4) (h0 : nv_isO σ 5 a = true) : np_X 72 26 ls (.int x0 :: .ref a :: st) σ = np_aft 72 26 29 ls st (np_X 123 0 [some (.ref a), some (.int x0)] [] σ) := np_call k72 rfl (Nat.le_add_left 2 _) rfl rfl h rfl h0 rfl
theorem e72_29 {ls : nv_Ls} {σ : nv_St} {x : Int32} : np_X 72 29 ls [.int x] σ = some (.inl (some (.int x)), σ) := np_reti k72 rfl rfl
-- 73 SpoonNavy.start
theorem k73 : np_P.1 73 = np_c73 := rfl
theorem e73_0 (x : Nat) {st : List Value} {σ : nv_St} : np_X 73 0 [some (.ref x)] st σ = np_X 73 1 [some (.ref x)] (.ref x :: st) σ := np_op k73 rfl rfl
theorem e73_0u  {st : List Value} {σ : nv_St} : np_X 73 0 [some .null] st σ = np_X 73 1 [some .null] (.null :: st) σ := np_op k73 rfl rfl
theorem e73_1 {ls : nv_Ls} {st : List Value} {σ : nv_St} {a : Nat} : np_X 73 1 ls (.ref a :: st) σ = np_b (nv_fld σ 5 1 a) (fun v => np_X 73 4 ls (v :: st) σ) := np_get k73 rfl
theorem e73_4 (x : Nat) {st : List Value} {σ : nv_St} : np_X 73 4 [some (.ref x)] st σ = np_X 73 5 [some (.ref x)] (.ref x :: st) σ := np_op k73 rfl rfl
theorem e73_4u  {st : List Value} {σ : nv_St} : np_X 73 4 [some .null] st σ = np_X 73 5 [some .null] (.null :: st) σ := np_op k73 rfl rfl
theorem e73_5 {ls : nv_Ls} {st : List Value} {σ : nv_St} {a : Nat} : np_X 73 5 ls (.ref a :: st) σ = np_b (nv_fld σ 5 0 a) (fun v => np_X 73 8 ls (v :: st) σ) := np_get k73 rfl
theorem e73_8 {ls : nv_Ls} {st : List Value} {σ : nv_St} {a : Nat} {x0 : Nat} (h : st.length ≤ 4) (h0 : nv_isO σ 2 a = true) : np_X 73 8 ls (.ref x0 :: .ref a :: st) σ = np_aft 73 8 11 ls st (np_X 27 0 [some (.ref a), some (.ref x0), none] [] σ) := np_call k73 rfl (Nat.le_add_left 2 _) rfl rfl h rfl h0 rfl
theorem e73_11 (x : Nat) {st : List Value} {σ : nv_St} : np_X 73 11 [some (.ref x)] st σ = np_X 73 12 [some (.ref x)] (.ref x :: st) σ := np_op k73 rfl rfl
theorem e73_11u  {st : List Value} {σ : nv_St} : np_X 73 11 [some .null] st σ = np_X 73 12 [some .null] (.null :: st) σ := np_op k73 rfl rfl
theorem e73_12 (x : Nat) {st : List Value} {σ : nv_St} : np_X 73 12 [some (.ref x)] st σ = np_X 73 13 [some (.ref x)] (.ref x :: st) σ := np_op k73 rfl rfl
theorem e73_12u  {st : List Value} {σ : nv_St} : np_X 73 12 [some .null] st σ = np_X 73 13 [some .null] (.null :: st) σ := np_op k73 rfl rfl
theorem e73_13 {ls : nv_Ls} {st : List Value} {σ : nv_St} {a : Nat} : np_X 73 13 ls (.ref a :: st) σ = np_b (nv_fld σ 5 0 a) (fun v => np_X 73 16 ls (v :: st) σ) := np_get k73 rfl
theorem e73_16 {ls : nv_Ls} {st : List Value} {σ : nv_St} {a : Nat}  (h : st.length ≤ 4) (h0 : nv_isO σ 2 a = true) : np_X 73 16 ls (.ref a :: st) σ = np_aft 73 16 19 ls st (np_X 45 0 [some (.ref a)] [] σ) := np_call k73 rfl (Nat.le_add_left 1 _) rfl rfl h rfl h0 rfl
theorem e73_19 {ls : nv_Ls} {st : List Value} {σ : nv_St} {a : Nat} {x0 : Int32} (h : st.length ≤ 4) (h0 : nv_isO σ 5 a = true) : np_X 73 19 ls (.int x0 :: .ref a :: st) σ = np_aft 73 19 22 ls st (np_X 123 0 [some (.ref a), some (.int x0)] [] σ) := np_call k73 rfl (Nat.le_add_left 2 _) rfl rfl h rfl h0 rfl
theorem e73_22 {ls : nv_Ls} {σ : nv_St} {x : Int32} : np_X 73 22 ls [.int x] σ = some (.inl (some (.int x)), σ) := np_reti k73 rfl rfl
-- 74 SpoonNavy.endTurn
theorem k74 : np_P.1 74 = np_c74 := rfl
theorem e74_0 (x : Nat) {st : List Value} {σ : nv_St} : np_X 74 0 [some (.ref x)] st σ = np_X 74 1 [some (.ref x)] (.ref x :: st) σ := np_op k74 rfl rfl
theorem e74_0u  {st : List Value} {σ : nv_St} : np_X 74 0 [some .null] st σ = np_X 74 1 [some .null] (.null :: st) σ := np_op k74 rfl rfl
theorem e74_1 {ls : nv_Ls} {st : List Value} {σ : nv_St} {a : Nat} : np_X 74 1 ls (.ref a :: st) σ = np_b (nv_fld σ 5 1 a) (fun v => np_X 74 4 ls (v :: st) σ) := np_get k74 rfl
theorem e74_4 (x : Nat) {st : List Value} {σ : nv_St} : np_X 74 4 [some (.ref x)] st σ = np_X 74 5 [some (.ref x)] (.ref x :: st) σ := np_op k74 rfl rfl
theorem e74_4u  {st : List Value} {σ : nv_St} : np_X 74 4 [some .null] st σ = np_X 74 5 [some .null] (.null :: st) σ := np_op k74 rfl rfl
theorem e74_5 {ls : nv_Ls} {st : List Value} {σ : nv_St} {a : Nat} : np_X 74 5 ls (.ref a :: st) σ = np_b (nv_fld σ 5 0 a) (fun v => np_X 74 8 ls (v :: st) σ) := np_get k74 rfl
theorem e74_8 {ls : nv_Ls} {st : List Value} {σ : nv_St} {a : Nat} {x0 : Nat} (h : st.length ≤ 4) (h0 : nv_isO σ 2 a = true) : np_X 74 8 ls (.ref x0 :: .ref a :: st) σ = np_aft 74 8 11 ls st (np_X 27 0 [some (.ref a), some (.ref x0), none] [] σ) := np_call k74 rfl (Nat.le_add_left 2 _) rfl rfl h rfl h0 rfl
theorem e74_11 (x : Nat) {st : List Value} {σ : nv_St} : np_X 74 11 [some (.ref x)] st σ = np_X 74 12 [some (.ref x)] (.ref x :: st) σ := np_op k74 rfl rfl
theorem e74_11u  {st : List Value} {σ : nv_St} : np_X 74 11 [some .null] st σ = np_X 74 12 [some .null] (.null :: st) σ := np_op k74 rfl rfl
theorem e74_12 (x : Nat) {st : List Value} {σ : nv_St} : np_X 74 12 [some (.ref x)] st σ = np_X 74 13 [some (.ref x)] (.ref x :: st) σ := np_op k74 rfl rfl
theorem e74_12u  {st : List Value} {σ : nv_St} : np_X 74 12 [some .null] st σ = np_X 74 13 [some .null] (.null :: st) σ := np_op k74 rfl rfl
theorem e74_13 {ls : nv_Ls} {st : List Value} {σ : nv_St} {a : Nat} : np_X 74 13 ls (.ref a :: st) σ = np_b (nv_fld σ 5 0 a) (fun v => np_X 74 16 ls (v :: st) σ) := np_get k74 rfl
theorem e74_16 {ls : nv_Ls} {st : List Value} {σ : nv_St} {a : Nat}  (h : st.length ≤ 4) (h0 : nv_isO σ 2 a = true) : np_X 74 16 ls (.ref a :: st) σ = np_aft 74 16 19 ls st (np_X 46 0 [some (.ref a)] [] σ) := np_call k74 rfl (Nat.le_add_left 1 _) rfl rfl h rfl h0 rfl
theorem e74_19 {ls : nv_Ls} {st : List Value} {σ : nv_St} {a : Nat} {x0 : Int32} (h : st.length ≤ 4) (h0 : nv_isO σ 5 a = true) : np_X 74 19 ls (.int x0 :: .ref a :: st) σ = np_aft 74 19 22 ls st (np_X 123 0 [some (.ref a), some (.int x0)] [] σ) := np_call k74 rfl (Nat.le_add_left 2 _) rfl rfl h rfl h0 rfl
theorem e74_22 {ls : nv_Ls} {σ : nv_St} {x : Int32} : np_X 74 22 ls [.int x] σ = some (.inl (some (.int x)), σ) := np_reti k74 rfl rfl
-- 75 SpoonNavy.isStarted
theorem k75 : np_P.1 75 = np_c75 := rfl
theorem e75_0 (x : Nat) {st : List Value} {σ : nv_St} : np_X 75 0 [some (.ref x)] st σ = np_X 75 1 [some (.ref x)] (.ref x :: st) σ := np_op k75 rfl rfl
theorem e75_0u  {st : List Value} {σ : nv_St} : np_X 75 0 [some .null] st σ = np_X 75 1 [some .null] (.null :: st) σ := np_op k75 rfl rfl
theorem e75_1 {ls : nv_Ls} {st : List Value} {σ : nv_St} {a : Nat} : np_X 75 1 ls (.ref a :: st) σ = np_b (nv_fld σ 5 0 a) (fun v => np_X 75 4 ls (v :: st) σ) := np_get k75 rfl
theorem e75_4 {ls : nv_Ls} {st : List Value} {σ : nv_St} {a : Nat} : np_X 75 4 ls (.ref a :: st) σ = np_b (nv_fld σ 2 4 a) (fun v => np_X 75 7 ls (v :: st) σ) := np_get k75 rfl
theorem e75_7 {ls : nv_Ls} {σ : nv_St} {x : Int32} (h : narrow .boolean (.int x) = .int x) : np_X 75 7 ls [.int x] σ = some (.inl (some (.int x)), σ) := np_reti k75 rfl h
-- 76 SpoonNavy.isFinished
theorem k76 : np_P.1 76 = np_c76 := rfl
theorem e76_0 (x : Nat) {st : List Value} {σ : nv_St} : np_X 76 0 [some (.ref x)] st σ = np_X 76 1 [some (.ref x)] (.ref x :: st) σ := np_op k76 rfl rfl
theorem e76_0u  {st : List Value} {σ : nv_St} : np_X 76 0 [some .null] st σ = np_X 76 1 [some .null] (.null :: st) σ := np_op k76 rfl rfl
theorem e76_1 {ls : nv_Ls} {st : List Value} {σ : nv_St} {a : Nat} : np_X 76 1 ls (.ref a :: st) σ = np_b (nv_fld σ 5 0 a) (fun v => np_X 76 4 ls (v :: st) σ) := np_get k76 rfl
theorem e76_4 {ls : nv_Ls} {st : List Value} {σ : nv_St} {a : Nat}  (h : st.length ≤ 4) (h0 : nv_isO σ 2 a = true) : np_X 76 4 ls (.ref a :: st) σ = np_aft 76 4 7 ls st (np_X 30 0 [some (.ref a)] [] σ) := np_call k76 rfl (Nat.le_add_left 1 _) rfl rfl h rfl h0 rfl
theorem e76_7 {ls : nv_Ls} {σ : nv_St} {x : Int32} (h : narrow .boolean (.int x) = .int x) : np_X 76 7 ls [.int x] σ = some (.inl (some (.int x)), σ) := np_reti k76 rfl h
-- 77 SpoonNavy.winner
theorem k77 : np_P.1 77 = np_c77 := rfl
theorem e77_0 (x : Nat) {st : List Value} {σ : nv_St} : np_X 77 0 [some (.ref x)] st σ = np_X 77 1 [some (.ref x)] (.ref x :: st) σ := np_op k77 rfl rfl
theorem e77_0u  {st : List Value} {σ : nv_St} : np_X 77 0 [some .null] st σ = np_X 77 1 [some .null] (.null :: st) σ := np_op k77 rfl rfl
theorem e77_1 {ls : nv_Ls} {st : List Value} {σ : nv_St} {a : Nat} : np_X 77 1 ls (.ref a :: st) σ = np_b (nv_fld σ 5 0 a) (fun v => np_X 77 4 ls (v :: st) σ) := np_get k77 rfl
theorem e77_4 {ls : nv_Ls} {st : List Value} {σ : nv_St} {a : Nat}  (h : st.length ≤ 4) (h0 : nv_isO σ 2 a = true) : np_X 77 4 ls (.ref a :: st) σ = np_aft 77 4 7 ls st (np_X 30 0 [some (.ref a)] [] σ) := np_call k77 rfl (Nat.le_add_left 1 _) rfl rfl h rfl h0 rfl
theorem e77_7 {ls : nv_Ls} {st : List Value} {σ : nv_St} {x : Int32} : np_X 77 7 ls (.int x :: st) σ = if x = 0 then np_X 77 10 ls st σ else np_X 77 20 ls st σ := np_br inferInstance k77 rfl rfl
theorem e77_10 {ls : nv_Ls} {σ : nv_St} : np_X 77 10 ls [] σ = some (.inr "java/lang/IllegalStateException", nv_bump σ) := np_thr k77 rfl
theorem e77_20 (x : Nat) {st : List Value} {σ : nv_St} : np_X 77 20 [some (.ref x)] st σ = np_X 77 21 [some (.ref x)] (.ref x :: st) σ := np_op k77 rfl rfl
theorem e77_20u  {st : List Value} {σ : nv_St} : np_X 77 20 [some .null] st σ = np_X 77 21 [some .null] (.null :: st) σ := np_op k77 rfl rfl
theorem e77_21 {ls : nv_Ls} {st : List Value} {σ : nv_St} {a : Nat} : np_X 77 21 ls (.ref a :: st) σ = np_b (nv_fld σ 5 0 a) (fun v => np_X 77 24 ls (v :: st) σ) := np_get k77 rfl
theorem e77_24 {ls : nv_Ls} {st : List Value} {σ : nv_St} : np_X 77 24 ls st σ = np_X 77 25 ls (.int (0) :: st) σ := np_op k77 rfl rfl
theorem e77_25 {ls : nv_Ls} {st : List Value} {σ : nv_St} {a : Nat} {x0 : Int32} (h : st.length ≤ 4) (h0 : nv_isO σ 2 a = true) : np_X 77 25 ls (.int x0 :: .ref a :: st) σ = np_aft 77 25 28 ls st (np_X 29 0 [some (.ref a), some (.int x0)] [] σ) := np_call k77 rfl (Nat.le_add_left 2 _) rfl rfl h rfl h0 rfl
theorem e77_28 {ls : nv_Ls} {st : List Value} {σ : nv_St} {a : Nat} : np_X 77 28 ls (.ref a :: st) σ = np_b (nv_fld σ 0 1 a) (fun v => np_X 77 31 ls (v :: st) σ) := np_get k77 rfl
theorem e77_31 {ls : nv_Ls} {st : List Value} {σ : nv_St} {x : Int32} : np_X 77 31 ls (.int x :: st) σ = if 0 < x then np_X 77 34 ls st σ else np_X 77 38 ls st σ := np_br inferInstance k77 rfl rfl
theorem e77_34 {ls : nv_Ls} {st : List Value} {σ : nv_St} : np_X 77 34 ls st σ = np_X 77 35 ls (.int (0) :: st) σ := np_op k77 rfl rfl
theorem e77_35 {ls : nv_Ls} {st : List Value} {σ : nv_St} : np_X 77 35 ls st σ = np_X 77 39 ls st σ := np_op k77 rfl rfl
theorem e77_38 {ls : nv_Ls} {st : List Value} {σ : nv_St} : np_X 77 38 ls st σ = np_X 77 39 ls (.int (1) :: st) σ := np_op k77 rfl rfl
theorem e77_39 {ls : nv_Ls} {σ : nv_St} {x : Int32} : np_X 77 39 ls [.int x] σ = some (.inl (some (.int x)), σ) := np_reti k77 rfl rfl
-- 78 SpoonNavy.activeFleet
theorem k78 : np_P.1 78 = np_c78 := rfl
theorem e78_0 (x : Nat) {st : List Value} {σ : nv_St} : np_X 78 0 [some (.ref x)] st σ = np_X 78 1 [some (.ref x)] (.ref x :: st) σ := np_op k78 rfl rfl
theorem e78_0u  {st : List Value} {σ : nv_St} : np_X 78 0 [some .null] st σ = np_X 78 1 [some .null] (.null :: st) σ := np_op k78 rfl rfl
theorem e78_1 {ls : nv_Ls} {st : List Value} {σ : nv_St} {a : Nat}  (h : st.length ≤ 4) (h0 : nv_isO σ 5 a = true) : np_X 78 1 ls (.ref a :: st) σ = np_aft 78 1 4 ls st (np_X 129 0 [some (.ref a)] [] σ) := np_call k78 rfl (Nat.le_add_left 1 _) rfl rfl h rfl h0 rfl
theorem e78_4 (x : Nat) {st : List Value} {σ : nv_St} : np_X 78 4 [some (.ref x)] st σ = np_X 78 5 [some (.ref x)] (.ref x :: st) σ := np_op k78 rfl rfl
theorem e78_4u  {st : List Value} {σ : nv_St} : np_X 78 4 [some .null] st σ = np_X 78 5 [some .null] (.null :: st) σ := np_op k78 rfl rfl
theorem e78_5 {ls : nv_Ls} {st : List Value} {σ : nv_St} {a : Nat} : np_X 78 5 ls (.ref a :: st) σ = np_b (nv_fld σ 5 0 a) (fun v => np_X 78 8 ls (v :: st) σ) := np_get k78 rfl
theorem e78_8 {ls : nv_Ls} {st : List Value} {σ : nv_St} {a : Nat} : np_X 78 8 ls (.ref a :: st) σ = np_b (nv_fld σ 2 5 a) (fun v => np_X 78 11 ls (v :: st) σ) := np_get k78 rfl
theorem e78_11 {ls : nv_Ls} {σ : nv_St} {x : Int32} : np_X 78 11 ls [.int x] σ = some (.inl (some (.int x)), σ) := np_reti k78 rfl rfl
-- 79 SpoonNavy.actionsLeft
theorem k79 : np_P.1 79 = np_c79 := rfl
theorem e79_0 (x : Nat) {st : List Value} {σ : nv_St} : np_X 79 0 [some (.ref x)] st σ = np_X 79 1 [some (.ref x)] (.ref x :: st) σ := np_op k79 rfl rfl
theorem e79_0u  {st : List Value} {σ : nv_St} : np_X 79 0 [some .null] st σ = np_X 79 1 [some .null] (.null :: st) σ := np_op k79 rfl rfl
theorem e79_1 {ls : nv_Ls} {st : List Value} {σ : nv_St} {a : Nat}  (h : st.length ≤ 4) (h0 : nv_isO σ 5 a = true) : np_X 79 1 ls (.ref a :: st) σ = np_aft 79 1 4 ls st (np_X 129 0 [some (.ref a)] [] σ) := np_call k79 rfl (Nat.le_add_left 1 _) rfl rfl h rfl h0 rfl
theorem e79_4 (x : Nat) {st : List Value} {σ : nv_St} : np_X 79 4 [some (.ref x)] st σ = np_X 79 5 [some (.ref x)] (.ref x :: st) σ := np_op k79 rfl rfl
theorem e79_4u  {st : List Value} {σ : nv_St} : np_X 79 4 [some .null] st σ = np_X 79 5 [some .null] (.null :: st) σ := np_op k79 rfl rfl
theorem e79_5 {ls : nv_Ls} {st : List Value} {σ : nv_St} {a : Nat} : np_X 79 5 ls (.ref a :: st) σ = np_b (nv_fld σ 5 0 a) (fun v => np_X 79 8 ls (v :: st) σ) := np_get k79 rfl
theorem e79_8 {ls : nv_Ls} {st : List Value} {σ : nv_St} {a : Nat} : np_X 79 8 ls (.ref a :: st) σ = np_b (nv_fld σ 2 6 a) (fun v => np_X 79 11 ls (v :: st) σ) := np_get k79 rfl
theorem e79_11 {ls : nv_Ls} {σ : nv_St} {x : Int32} : np_X 79 11 ls [.int x] σ = some (.inl (some (.int x)), σ) := np_reti k79 rfl rfl
