/-! THE PURE PART, 21: the constructors of a spoon and of an account, for any state. -/
theorem nv_mk_wr {σ : nv_St} {o : nv_Ob} {m : Nat} : nv_mk σ o m = nv_wr (σ.1, σ.2.1 + 1, σ.2.2.1, σ.2.2.2.1 + m, σ.2.2.2.2) σ.2.1 o := rfl
theorem nv_wr_wr {σ : nv_St} {a : Nat} {o o' : nv_Ob} : nv_wr (nv_wr σ a o) a o' = nv_wr σ a o' := by
  unfold nv_wr
  congr 1
  funext q
  by_cases h : q = a <;> simp [h]
theorem np_sto_w {σ : nv_St} {a ci k : Nat} {ty : FieldType} {v : Value} {fs : List Value} (hk : k < fs.length) (hn : narrow ty v = v) (hf : fits ty v = true) : nv_sto (nv_wr σ a (.inr (ci, fs))) ci k ty a v = some (nv_wr σ a (.inr (ci, fs.set k v))) := by
  have h : (nv_wr σ a (.inr (ci, fs))).1 a = some (.inr (ci, fs)) := if_pos rfl
  unfold nv_sto
  rw [h]
  simp only
  rw [if_pos ⟨trivial, hk, hn, hf⟩, nv_wr_wr]
theorem np_ow {σ : nv_St} {a ci : Nat} {fs : List Value} : nv_isO (nv_wr σ a (.inr (ci, fs))) ci a = true := by
  have h : (nv_wr σ a (.inr (ci, fs))).1 a = some (.inr (ci, fs)) := if_pos rfl
  unfold nv_isO
  rw [h]
  simp
def np_z8 : List Value := [.int 0, .int 0, .int 0, .int 0, .int 0, .int 0, .int 0, .int 0]
def np_z9 : List Value := [.int 0, .int 0, .int 0, .int 0, .int 0, .int 0, .int 0, .int 0, .int 0]
theorem m60 {σ : nv_St} {a : Nat} {i : Int32} (ha : a < 1000000) : np_X 60 0 [some (.ref a), some (.int i)] [] (nv_wr σ a (.inr (4, np_z9))) = some (.inl none, nv_wr σ a (.inr (4, np_z9.set 0 (.int i)))) := by
  have hs : nv_sto (nv_wr σ a (.inr (4, np_z9))) 4 0 .int a (.int i) = some (nv_wr σ a (.inr (4, np_z9.set 0 (.int i)))) := np_sto_w (by decide) rfl rfl
  simp only [e60_0, e60_0u, e60_1, e60_4, e60_4u, e60_5, e60_6, e60_9, ha, np_len0, hs, np_b_s]
theorem m8 {σ : nv_St} {a : Nat} (ha : a < 1000000) : np_X 8 0 [some (.ref a)] [] (nv_wr σ a (.inr (0, np_z8))) = some (.inl none, nv_wr σ a (.inr (0, [.int 0, .int 0, .int 20, .int 0, .int 0, .int 0, .int 0, .int 0]))) := by
  have s0 : nv_sto (nv_wr σ a (.inr (0, np_z8))) 0 0 .int a (.int 0) = some (nv_wr σ a (.inr (0, np_z8))) := np_sto_w (by decide) rfl rfl
  have s1 : nv_sto (nv_wr σ a (.inr (0, np_z8))) 0 1 .int a (.int 0) = some (nv_wr σ a (.inr (0, np_z8))) := np_sto_w (by decide) rfl rfl
  have s2 : nv_sto (nv_wr σ a (.inr (0, np_z8))) 0 2 .int a (.int 20) = some (nv_wr σ a (.inr (0, np_z8.set 2 (.int 20)))) := np_sto_w (by decide) rfl rfl
  have s3 : ∀ j, j = 3 ∨ j = 4 ∨ j = 5 ∨ j = 6 ∨ j = 7 → nv_sto (nv_wr σ a (.inr (0, np_z8.set 2 (.int 20)))) 0 j .int a (.int 0) = some (nv_wr σ a (.inr (0, np_z8.set 2 (.int 20)))) := by
    rintro j (rfl | rfl | rfl | rfl | rfl) <;> exact np_sto_w (by decide) rfl rfl
  simp only [e8_0, e8_0u, e8_1, e8_4, e8_4u, e8_5, e8_6, e8_9, e8_9u, e8_10, e8_11, e8_14, e8_14u, e8_15, e8_17, e8_20, e8_20u, e8_21, e8_22, e8_25, e8_25u, e8_26, e8_27, e8_30, e8_30u, e8_31, e8_32, e8_35, e8_35u, e8_36, e8_37, e8_40, e8_40u, e8_41, e8_42, e8_45, ha, np_len0, s0, s1, s2, s3 3 (by decide), s3 4 (by decide), s3 5 (by decide), s3 6 (by decide), s3 7 (by decide), np_b_s]
  rfl
