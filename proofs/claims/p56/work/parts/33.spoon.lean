/-! THE PURE PART, 3: methods of a spoon, of an account, and small ones. -/
def np_i (b : Bool) : Int32 := if b = true then 1 else 0
section
variable {σ : nv_St} {c : Prop} {d : Decidable c} {a b : Int32} {y : Bool}
abbrev np_o (v : Int32) (σ : nv_St) : Option nv_Out := some (.inl (some (.int v)), σ)
theorem np_ri : (@ite _ c d (np_o a σ) (np_o b σ)) = np_o (@ite _ c d a b) σ := by split <;> rfl
theorem np_rb : (@ite _ c d (np_o 1 σ) (np_o 0 σ)) = np_o (np_i (@decide c d)) σ := by
  by_cases h : c <;> simp [h, np_i]
theorem np_rn : (@ite _ c d (np_o 0 σ) (np_o 1 σ)) = np_o (np_i (!@decide c d)) σ := by
  by_cases h : c <;> simp [h, np_i]
theorem np_ra : (@ite _ c d (np_o (np_i y) σ) (np_o 0 σ)) = np_o (np_i (@decide c d && y)) σ := by
  by_cases h : c <;> simp [h, np_i]
theorem np_ran : (@ite _ c d (np_o 0 σ) (np_o (np_i y) σ)) = np_o (np_i (!@decide c d && y)) σ := by
  by_cases h : c <;> simp [h, np_i]
theorem np_ro : (@ite _ c d (np_o 1 σ) (np_o (np_i y) σ)) = np_o (np_i (@decide c d || y)) σ := by
  by_cases h : c <;> simp [h, np_i]
theorem np_ron : (@ite _ c d (np_o (np_i y) σ) (np_o 1 σ)) = np_o (np_i (!@decide c d || y)) σ := by
  by_cases h : c <;> simp [h, np_i]
end
theorem np_i0 {y : Bool} : (np_i y = 0) = (y = false) := by cases y <;> simp [np_i]
theorem np_nb {y : Bool} : narrow .boolean (.int (np_i y)) = .int (np_i y) := by cases y <;> rfl
theorem np_nb1 : narrow .boolean (.int 1) = .int 1 := id rfl
theorem np_nb0 : narrow .boolean (.int 0) = .int 0 := id rfl
theorem np_ni {x : Int32} : narrow .int (.int x) = .int x := id rfl
theorem np_u_eq {F : Nat → Nat → Int32} {a k : Nat} {v : Int32} : np_u F a k v a k = v := if_pos ⟨rfl, rfl⟩
theorem np_u_k {F : Nat → Nat → Int32} {a k b j : Nat} {v : Int32} (h : ¬ j = k) : np_u F a k v b j = F b j := if_neg (fun q => h q.2)
theorem np_u_a {F : Nat → Nat → Int32} {a k b j : Nat} {v : Int32} (h : ¬ b = a) : np_u F a k v b j = F b j := if_neg (fun q => h q.1)
theorem np_len0 : ([] : List Value).length ≤ 4 := by decide
section
variable {F : Nat → Nat → Int32} {L : Nat → Int64} {C : Nat → Nat → Int32} {fm k : Nat} {scr : nv_Scr}
def sp_abs (x : Int32) : Int32 := if 0 ≤ x then x else 0 - x
def sp_max (x z : Int32) : Int32 := if x < z then z else x
def sp_min (x z : Int32) : Int32 := if z < x then z else x
def sp_stepX (b : Int32) : Int32 := if b = 0 then 0 else if b = 4 then 0 else if b < 4 then 1 else -1
def sp_stepY (b : Int32) : Int32 := if b = 2 then 0 else if b = 6 then 0 else if 2 < b then (if b < 6 then -1 else 1) else 1
theorem m136 {b : Int32} : np_X 136 0 [some (.int b)] [] (np_S F L C fm k scr) = np_o (sp_stepX b) (np_S F L C fm k scr) := by
  simp only [e136_0, e136_1, e136_4, e136_5, e136_6, e136_9, e136_10, e136_11, e136_12, e136_13, e136_16, e136_17, e136_20, e136_21, np_ni, np_ri, sp_stepX]
theorem m137 {b : Int32} : np_X 137 0 [some (.int b)] [] (np_S F L C fm k scr) = np_o (sp_stepY b) (np_S F L C fm k scr) := by
  simp only [e137_0, e137_1, e137_2, e137_5, e137_6, e137_8, e137_11, e137_12, e137_13, e137_14, e137_15, e137_18, e137_19, e137_21, e137_24, e137_25, e137_28, e137_29, np_ni, np_ri, sp_stepY]
def sp_bet (a b : Int32) : Int32 := sp_min (sp_abs (a - b)) (8 - sp_abs (a - b))
theorem m139 {a b : Int32} : np_X 139 0 [some (.int a), some (.int b), none] [] (np_S F L C fm k scr) = np_o (sp_bet a b) (np_S F L C fm k scr) := by
  simp only [e139_0, e139_1, e139_2, e139_3, e139_6n, e139_6i, e139_6r, e139_6v, e139_7, e139_8, e139_10, e139_11, e139_12, e139_15, np_len0, np_ni, sp_bet, sp_abs, sp_min]
  rfl
def sp_dir (x y : Int32) : Int32 :=
  if sp_abs x < 2 * sp_abs y then (if sp_abs y < 2 * sp_abs x then (if 0 < x then (if 0 < y then 1 else 3) else (if 0 < y then 7 else 5)) else (if 0 < y then 0 else 4)) else (if 0 < x then 2 else 6)
theorem m138 {a b : Int32} : np_X 138 0 [some (.int a), some (.int b), none, none] [] (np_S F L C fm k scr) = np_o (sp_dir a b) (np_S F L C fm k scr) := by
  simp only [e138_0, e138_1, e138_4n, e138_4i, e138_4r, e138_4v, e138_5, e138_6, e138_9n, e138_9i, e138_9r, e138_9v, e138_10, e138_11, e138_12, e138_13, e138_14, e138_17, e138_18, e138_21, e138_22, e138_25, e138_27, e138_28, e138_29, e138_30, e138_31, e138_32, e138_35, e138_36, e138_39, e138_40, e138_43, e138_44, e138_45, e138_46, e138_49, e138_50, e138_53, e138_54, e138_57, e138_58, e138_59, e138_60, e138_63, e138_65, e138_68, e138_69, np_len0, np_ni, sp_dir, sp_abs, np_ri]
  rfl
theorem m132 {a : Int32} : np_X 132 0 [some (.int a)] [] (np_S F L C fm k scr) = np_o (np_i (decide (a = 0) || decide (a = 1))) (np_S F L C fm k scr) := by
  simp only [e132_0, e132_1, e132_4, e132_5, e132_6, e132_9, e132_10, e132_13, e132_14, np_nb1, np_nb0, np_rb, np_rn, np_ra, np_ran, np_ro, np_ron]
def sp_tray (x y : Int32) : Bool := !decide (x < 0) && (decide (x < 10) && (!decide (y < 0) && decide (y < 10)))
theorem m133 {x y : Int32} : np_X 133 0 [some (.int x), some (.int y)] [] (np_S F L C fm k scr) = np_o (np_i (sp_tray x y)) (np_S F L C fm k scr) := by
  simp only [e133_0, e133_1, e133_4, e133_5, e133_7, e133_10, e133_11, e133_14, e133_15, e133_17, e133_20, e133_21, e133_24, e133_25, np_nb1, np_nb0, np_rb, np_rn, np_ra, np_ran, np_ro, np_ron, sp_tray]
theorem m134 {x : Int32} : np_X 134 0 [some (.int x)] [] (np_S F L C fm k scr) = np_o (np_i (!decide (x < 0) && decide (x < 8))) (np_S F L C fm k scr) := by
  simp only [e134_0, e134_1, e134_4, e134_5, e134_7, e134_10, e134_11, e134_14, e134_15, np_nb1, np_nb0, np_rb, np_rn, np_ra, np_ran, np_ro, np_ron]
theorem m135 {x : Int32} : np_X 135 0 [some (.int x)] [] (np_S F L C fm k scr) = np_o (np_i (!decide (x < 1) && !decide (9 < x))) (np_S F L C fm k scr) := by
  simp only [e135_0, e135_1, e135_2, e135_5, e135_6, e135_8, e135_11, e135_12, e135_15, e135_16, np_nb1, np_nb0, np_rb, np_rn, np_ra, np_ran, np_ro, np_ron]
-- a spoon's
def sp_aflo (F : Nat → Nat → Int32) (a : Nat) : Bool := decide (0 < F a 5)
theorem m62 {a : Nat} (h : np_isS a) : np_X 62 0 [some (.ref a)] [] (np_S F L C fm k scr) = np_o (np_i (sp_aflo F a)) (np_S F L C fm k scr) := by
  simp only [e62_0, e62_0u, e62_1, e62_4, e62_7, e62_8, e62_11, e62_12, fldS h (show 5 < 9 by decide), np_b_s, np_nb1, np_nb0, np_rb, sp_aflo]
theorem m63 {a : Nat} {f : Int32} (h : np_isS a) : np_X 63 0 [some (.ref a), some (.int f)] [] (np_S F L C fm k scr) = np_o (np_i (sp_aflo F a && decide (F a 1 = f))) (np_S F L C fm k scr) := by
  simp only [e63_0, e63_0u, e63_1, e63_4, e63_7, e63_7u, e63_8, e63_11, e63_12, e63_15, e63_16, e63_19, e63_20, np_len0, isoS h, m62 h, np_aft_v, np_o, np_i0, fldS h (show 1 < 9 by decide), np_b_s, np_nb1, np_nb0, np_rb, np_ran, np_rn]
  cases sp_aflo F a <;> simp [np_i]
def sp_isIn (F : Nat → Nat → Int32) (a : Nat) (x y : Int32) : Bool := decide (F a 2 = x) && decide (F a 3 = y)
theorem m64 {a : Nat} {x y : Int32} (h : np_isS a) : np_X 64 0 [some (.ref a), some (.int x), some (.int y)] [] (np_S F L C fm k scr) = np_o (np_i (sp_isIn F a x y)) (np_S F L C fm k scr) := by
  simp only [e64_0, e64_0u, e64_1, e64_4, e64_5, e64_8, e64_8u, e64_9, e64_12, e64_13, e64_16, e64_17, e64_20, e64_21, fldS h (show 2 < 9 by decide), fldS h (show 3 < 9 by decide), np_b_s, np_nb1, np_nb0, np_rb, np_ra, sp_isIn]
def sp_dist (F : Nat → Nat → Int32) (a : Nat) (x y : Int32) : Int32 := sp_max (sp_abs (x - F a 2)) (sp_abs (y - F a 3))
theorem m65 {a : Nat} {x y : Int32} (h : np_isS a) : np_X 65 0 [some (.ref a), some (.int x), some (.int y)] [] (np_S F L C fm k scr) = np_o (sp_dist F a x y) (np_S F L C fm k scr) := by
  simp only [e65_0, e65_1, e65_1u, e65_2, e65_5, e65_6, e65_9, e65_10, e65_10u, e65_11, e65_14, e65_15, e65_18, e65_21, fldS h (show 2 < 9 by decide), fldS h (show 3 < 9 by decide), np_b_s, np_ni, List.length_cons, List.length_nil, Nat.reduceLeDiff, Nat.reduceAdd, sp_dist, sp_max, sp_abs]
  rfl
def sp_rng (F : Nat → Nat → Int32) (a : Nat) (x y : Int32) : Bool := !decide (sp_dist F a x y < 1) && !decide (F a 6 < sp_dist F a x y)
theorem m66 {a : Nat} {x y : Int32} (h : np_isS a) : np_X 66 0 [some (.ref a), some (.int x), some (.int y), none] [] (np_S F L C fm k scr) = np_o (np_i (sp_rng F a x y)) (np_S F L C fm k scr) := by
  simp only [e66_0, e66_0u, e66_1, e66_2, e66_3, e66_6n, e66_6i, e66_6r, e66_6v, e66_7, e66_8, e66_9, e66_12, e66_13, e66_13u, e66_14, e66_17, e66_20, e66_21, e66_24, e66_25, np_len0, isoS h, m65 h, np_aft_v, np_o, fldS h (show 6 < 9 by decide), np_b_s, np_nb1, np_nb0, np_rb, np_rn, np_ran, sp_rng]
def sp_rch (F : Nat → Nat → Int32) (a : Nat) (x y : Int32) : Bool := sp_aflo F a && (sp_rng F a x y && !decide (1 < sp_bet (F a 4) (sp_dir (x - F a 2) (y - F a 3))))
theorem m67 {a : Nat} {x y : Int32} (h : np_isS a) : np_X 67 0 [some (.ref a), some (.int x), some (.int y)] [] (np_S F L C fm k scr) = np_o (np_i (sp_rch F a x y)) (np_S F L C fm k scr) := by
  simp only [e67_0, e67_0u, e67_1, e67_4, e67_7, e67_7u, e67_8, e67_9, e67_10, e67_13, e67_16, e67_16u, e67_17, e67_20, e67_21, e67_21u, e67_22, e67_25, e67_26, e67_27, e67_27u, e67_28, e67_31, e67_32, e67_35, e67_38, e67_39, e67_42, e67_43, e67_46, e67_47, np_len0, isoS h, m62 h, m66 h, m138, m139, np_aft_v, np_o, np_i0, fldS h (show 2 < 9 by decide), fldS h (show 3 < 9 by decide), fldS h (show 4 < 9 by decide), np_b_s, List.length_cons, List.length_nil, Nat.reduceLeDiff, Nat.reduceAdd, np_nb1, np_nb0, np_rb, np_rn, np_ran, sp_rch]
  cases sp_aflo F a <;> cases sp_rng F a x y <;> simp [np_i]
theorem m68 {a : Nat} (h : np_isS a) : np_X 68 0 [some (.ref a)] [] (np_S F L C fm k scr) = some (.inl none, np_S (np_u (np_u F a 7 (F a 2)) a 8 (F a 3)) L C fm k scr) := by
  simp only [e68_0, e68_0u, e68_1, e68_1u, e68_2, e68_5, e68_8, e68_8u, e68_9, e68_9u, e68_10, e68_13, e68_16, fldS h (show 2 < 9 by decide), fldS h (show 3 < 9 by decide), np_b_s, stoS h (show 7 < 9 by decide), stoS h (show 8 < 9 by decide), np_u_k (show ¬ 3 = 7 by decide)]
def sp_bef (F : Nat → Nat → Int32) (a b : Nat) : Bool := if F a 6 = F b 6 then (if F a 5 = F b 5 then decide (F a 0 < F b 0) else decide (F b 5 < F a 5)) else decide (F b 6 < F a 6)
theorem m69 {a b : Nat} (h : np_isS a) (g : np_isS b) : np_X 69 0 [some (.ref a), some (.ref b)] [] (np_S F L C fm k scr) = np_o (np_i (sp_bef F a b)) (np_S F L C fm k scr) := by
  simp only [e69_0, e69_0u, e69_1, e69_4, e69_4u, e69_5, e69_8, e69_11, e69_11u, e69_12, e69_15, e69_15u, e69_16, e69_19, e69_22, e69_23, e69_26, e69_27, e69_28, e69_28u, e69_29, e69_32, e69_32u, e69_33, e69_36, e69_39, e69_39u, e69_40, e69_43, e69_43u, e69_44, e69_47, e69_50, e69_51, e69_54, e69_55, e69_56, e69_56u, e69_57, e69_60, e69_60u, e69_61, e69_64, e69_67, e69_68, e69_71, e69_72, fldS h (show 0 < 9 by decide), fldS h (show 5 < 9 by decide), fldS h (show 6 < 9 by decide), fldS g (show 0 < 9 by decide), fldS g (show 5 < 9 by decide), fldS g (show 6 < 9 by decide), np_b_s, np_nb1, np_nb0, np_rb]
  unfold sp_bef
  repeat' split
  all_goals rfl
-- an account's
def sp_bal (F : Nat → Nat → Int32) (a : Nat) : Int32 := F a 3 + F a 4 - F a 5 - F a 6 - F a 7
theorem m10 {a : Nat} (h : np_isA a) : np_X 10 0 [some (.ref a)] [] (np_S F L C fm k scr) = np_o (sp_bal F a) (np_S F L C fm k scr) := by
  simp only [e10_0, e10_0u, e10_1, e10_4, e10_4u, e10_5, e10_8, e10_9, e10_9u, e10_10, e10_13, e10_14, e10_14u, e10_15, e10_18, e10_19, e10_19u, e10_20, e10_23, e10_24, fldA h (show 3 < 8 by decide), fldA h (show 4 < 8 by decide), fldA h (show 5 < 8 by decide), fldA h (show 6 < 8 by decide), fldA h (show 7 < 8 by decide), np_b_s, np_ni, sp_bal]
end
