/-! THE PURE PART, 8: the changes of a game. -/
section
variable {F : Nat → Nat → Int32} {L : Nat → Int64} {C : Nat → Nat → Int32} {fm k : Nat} {scr : nv_Scr}
theorem sp_aco_lt {f : Int32} : sp_aco f < 5 ∧ 3 ≤ sp_aco f := by unfold sp_aco; split <;> omega
theorem np_a1 {j : Nat} : ¬ 1 = 5 + j := by omega
theorem np_a2 {j : Nat} : ¬ 5 + j = 1 := by omega
theorem np_a3 {f : Int32} {j : Nat} : ¬ sp_aco f = 5 + j := by have := @sp_aco_lt f; omega
theorem np_a4 {f : Int32} {j : Nat} : ¬ 5 + j = sp_aco f := by have := @sp_aco_lt f; omega
theorem np_a5 {f : Int32} : ¬ sp_aco f = 1 := by have := @sp_aco_lt f; omega
theorem np_a6 {f : Int32} : ¬ 1 = sp_aco f := by have := @sp_aco_lt f; omega
theorem np_g {j : Nat} (h : 3 ≤ j ∧ j < 12 ∧ ¬ j = 10) : 3 ≤ j ∧ j < 12 ∧ ¬ j = 10 := h
def sp_obj (F : Nat → Nat → Int32) (a : Nat) (ok : Bool) : Int32 := if ok = false then -2 else if (sp_gng F && (sp_aflo F a && decide (F a 1 = F 1 5))) = false then -3 else if F 1 6 = 0 then -11 else 0
theorem m55 {a : Nat} {ok : Bool} (ha : np_isS a) : np_X 55 0 [some (.ref 1), some (.ref a), some (.int (np_i ok))] [] (np_S F L C fm k scr) = np_o (sp_obj F a ok) (np_S F L C fm k scr) := by
  simp only [e55_0, e55_1, e55_4, e55_6, e55_7, e55_7u, e55_8, e55_11, e55_14, e55_14u, e55_15, e55_15u, e55_16, e55_19, e55_22, e55_25, e55_27, e55_28, e55_28u, e55_29, e55_32, e55_35, e55_37, e55_40, e55_41, isoG np_B1, isoS ha, np_len0, m31, m63 ha, np_aft_v, np_i0, fldG np_B1 (show 3 ≤ 5 ∧ 5 < 12 ∧ ¬ 5 = 10 by decide), fldG np_B1 (show 3 ≤ 6 ∧ 6 < 12 ∧ ¬ 6 = 10 by decide), np_b_s, np_ni]
  unfold sp_obj
  cases ok <;> cases sp_gng F <;> cases (sp_aflo F a && decide (F a 1 = F 1 5)) <;> by_cases h : F 1 6 = 0 <;> simp [h]
theorem sp_obj_in {a : Nat} {ok : Bool} : sp_obj F a ok = -2 ∨ sp_obj F a ok = -3 ∨ sp_obj F a ok = -11 ∨ sp_obj F a ok = 0 := by
  unfold sp_obj
  split
  · simp
  · split
    · simp
    · split <;> simp
-- 45 begin
def sp_bgn (F : Nat → Nat → Int32) : Bool := decide (F 1 4 = 0) && (!decide (F 3 0 = 0) && !decide (F 4 0 = 0))
def np_bgF (F : Nat → Nat → Int32) : Nat → Nat → Int32 := np_u (np_u (np_u F 1 4 1) 1 5 0) 1 6 3
theorem m45n (h : sp_bgn F = false) : np_X 45 0 [some (.ref 1)] [] (np_S F L C fm k scr) = np_o (-3) (np_S F L C fm k scr) := by
  unfold sp_bgn at h
  by_cases h1 : F 1 4 = 0
  · by_cases h2 : F 3 0 = 0
    · simp only [e45_0, e45_0u, e45_1, e45_4, e45_7, e45_7u, e45_8, e45_11, e45_14, e45_17, e45_17u, e45_18, e45_21, e45_24, e45_27, e45_29, e45_30, e45_30u, e45_31, e45_32, e45_35, e45_35u, e45_36, e45_37, e45_40, e45_40u, e45_41, e45_42, e45_45, e45_45u, e45_46, e45_49, fldG np_B1 (show 3 ≤ 4 ∧ 4 < 12 ∧ ¬ 4 = 10 by decide), fldG1 np_B1, np_b_s, h1, Nat.reduceAdd, fldA np_isA3 (show 0 < 8 by decide), h2, if_true, np_ni]
    · have h3 : F 4 0 = 0 := by simpa [h1, h2] using h
      simp only [e45_0, e45_0u, e45_1, e45_4, e45_7, e45_7u, e45_8, e45_11, e45_14, e45_17, e45_17u, e45_18, e45_21, e45_24, e45_27, e45_29, e45_30, e45_30u, e45_31, e45_32, e45_35, e45_35u, e45_36, e45_37, e45_40, e45_40u, e45_41, e45_42, e45_45, e45_45u, e45_46, e45_49, fldG np_B1 (show 3 ≤ 4 ∧ 4 < 12 ∧ ¬ 4 = 10 by decide), fldG1 np_B1, fldG2 np_B1, np_b_s, h1, Nat.reduceAdd, fldA np_isA3 (show 0 < 8 by decide), fldA np_isA4 (show 0 < 8 by decide), h2, h3, if_true, if_false, np_ni]
  · simp only [e45_0, e45_0u, e45_1, e45_4, e45_7, e45_7u, e45_8, e45_11, e45_14, e45_17, e45_17u, e45_18, e45_21, e45_24, e45_27, e45_29, e45_30, e45_30u, e45_31, e45_32, e45_35, e45_35u, e45_36, e45_37, e45_40, e45_40u, e45_41, e45_42, e45_45, e45_45u, e45_46, e45_49, fldG np_B1 (show 3 ≤ 4 ∧ 4 < 12 ∧ ¬ 4 = 10 by decide), np_b_s, h1, if_false, np_ni]
theorem m45s (h : sp_bgn F = true) : np_X 45 0 [some (.ref 1)] [] (np_S F L C fm k scr) = np_o (F 1 3) (np_S (np_bgF F) L C fm k scr) := by
  unfold sp_bgn at h
  simp only [Bool.and_eq_true, decide_eq_true_eq, Bool.not_eq_true', decide_eq_false_iff_not] at h
  obtain ⟨h1, h2, h3⟩ := h
  simp only [e45_0, e45_0u, e45_1, e45_4, e45_7, e45_7u, e45_8, e45_11, e45_14, e45_17, e45_17u, e45_18, e45_21, e45_24, e45_27, e45_29, e45_30, e45_30u, e45_31, e45_32, e45_35, e45_35u, e45_36, e45_37, e45_40, e45_40u, e45_41, e45_42, e45_45, e45_45u, e45_46, e45_49, fldG np_B1 (show 3 ≤ 4 ∧ 4 < 12 ∧ ¬ 4 = 10 by decide), fldG np_B1 (show 3 ≤ 3 ∧ 3 < 12 ∧ ¬ 3 = 10 by decide), fldG1 np_B1, fldG2 np_B1, np_b_s, h1, Nat.reduceAdd, fldA np_isA3 (show 0 < 8 by decide), fldA np_isA4 (show 0 < 8 by decide), h2, h3, if_true, if_false, stoG4 np_B1 (Or.inr rfl), stoG np_B1 (show 3 ≤ 5 ∧ 5 < 12 ∧ ¬ 5 = 10 by decide), stoG np_B1 (show 3 ≤ 6 ∧ 6 < 12 ∧ ¬ 6 = 10 by decide), np_u_k (show ¬ 3 = 4 by decide), np_u_k (show ¬ 3 = 5 by decide), np_u_k (show ¬ 3 = 6 by decide), np_ni]
  rfl
-- 46 passTurn
def np_ptF (F : Nat → Nat → Int32) : Nat → Nat → Int32 := np_u (np_u (np_u F 1 5 (1 - F 1 5)) 1 6 3) 1 7 (F 1 7 + 1)
theorem m46n (h : sp_gng F = false) : np_X 46 0 [some (.ref 1)] [] (np_S F L C fm k scr) = np_o (-3) (np_S F L C fm k scr) := by
  simp only [e46_0, e46_0u, e46_1, e46_4, e46_7, e46_9, e46_10, e46_10u, e46_11, e46_12, e46_12u, e46_13, e46_16, e46_17, e46_20, e46_20u, e46_21, e46_22, e46_25, e46_25u, e46_26, e46_26i, e46_27, e46_30, e46_31, e46_32, e46_35, e46_35u, e46_36, e46_39, isoG np_B1, np_len0, m31, np_aft_v, np_i0, h, if_true, np_ni]
theorem m46s (h : sp_gng F = true) : np_X 46 0 [some (.ref 1)] [] (np_S F L C fm k scr) = np_o (1 - F 1 5) (np_S (np_ptF F) L C fm k scr) := by
  have e : (true = false) = False := by simp
  simp only [e46_0, e46_0u, e46_1, e46_4, e46_7, e46_9, e46_10, e46_10u, e46_11, e46_12, e46_12u, e46_13, e46_16, e46_17, e46_20, e46_20u, e46_21, e46_22, e46_25, e46_25u, e46_26, e46_26i, e46_27, e46_30, e46_31, e46_32, e46_35, e46_35u, e46_36, e46_39, isoG np_B1, np_len0, m31, np_aft_v, np_i0, h, e, if_false, fldG np_B1 (show 3 ≤ 5 ∧ 5 < 12 ∧ ¬ 5 = 10 by decide), fldG np_B1 (show 3 ≤ 7 ∧ 7 < 12 ∧ ¬ 7 = 10 by decide), np_b_s, stoG np_B1 (show 3 ≤ 5 ∧ 5 < 12 ∧ ¬ 5 = 10 by decide), stoG np_B1 (show 3 ≤ 6 ∧ 6 < 12 ∧ ¬ 6 = 10 by decide), stoG np_B1 (show 3 ≤ 7 ∧ 7 < 12 ∧ ¬ 7 = 10 by decide), np_u_k (show ¬ 7 = 5 by decide), np_u_k (show ¬ 7 = 6 by decide), np_u_k (show ¬ 5 = 6 by decide), np_u_k (show ¬ 5 = 7 by decide), np_u_eq, np_ni]
  rfl
-- 47 rotate
def sp_okb (b : Int32) : Bool := !decide (b < 0) && decide (b < 8)
def np_roF (F : Nat → Nat → Int32) (a : Nat) (b : Int32) : Nat → Nat → Int32 := np_u (np_u F a 4 b) 1 6 (F 1 6 - 1)
theorem m47n {x b : Int32} (h : sp_num F x = none) : np_X 47 0 [some (.ref 1), some (.int x), some (.int b), none, none, none] [] (np_S F L C fm k scr) = np_o (-1) (np_S F L C fm k scr) := by
  simp only [e47_0, e47_0u, e47_1, e47_2, e47_5n, e47_5i, e47_5r, e47_5v, e47_5un, e47_5ui, e47_5ur, e47_5uv, e47_6, e47_6u, e47_7, e47_7u, e47_10, e47_11, e47_12, e47_12u, e47_13, e47_13u, e47_14, e47_15, e47_18, e47_21n, e47_21i, e47_21r, e47_21v, e47_23, e47_25, e47_28, e47_30, e47_31, e47_31u, e47_32, e47_35, e47_36, e47_39n, e47_39i, e47_39r, e47_39v, e47_41, e47_41u, e47_42, e47_43, e47_46, e47_46u, e47_47, e47_47i, e47_48, e47_51, e47_52, e47_53, e47_56, e47_58, isoG np_B1, np_len0, m28, h, np_sr, np_aft_v, np_ni]
theorem m47o {x b : Int32} {j : Nat} (h : sp_num F x = some j) (ho : ¬ sp_obj F (5 + j) (sp_okb b) = 0) : np_X 47 0 [some (.ref 1), some (.int x), some (.int b), none, none, none] [] (np_S F L C fm k scr) = np_o (sp_obj F (5 + j) (sp_okb b)) (np_S F L C fm k scr) := by
  have hj := (sp_num_lt h).1
  have hS := np_isS5 hj
  simp only [e47_0, e47_0u, e47_1, e47_2, e47_5n, e47_5i, e47_5r, e47_5v, e47_5un, e47_5ui, e47_5ur, e47_5uv, e47_6, e47_6u, e47_7, e47_7u, e47_10, e47_11, e47_12, e47_12u, e47_13, e47_13u, e47_14, e47_15, e47_18, e47_21n, e47_21i, e47_21r, e47_21v, e47_23, e47_25, e47_28, e47_30, e47_31, e47_31u, e47_32, e47_35, e47_36, e47_39n, e47_39i, e47_39r, e47_39v, e47_41, e47_41u, e47_42, e47_43, e47_46, e47_46u, e47_47, e47_47i, e47_48, e47_51, e47_52, e47_53, e47_56, e47_58, isoG np_B1, isoS hS, np_len0, List.length_cons, List.length_nil, Nat.reduceLeDiff, Nat.reduceAdd, m28, h, np_sr, np_aft_v, np_refS hj, m134, m55 hS, show (!decide (b < 0) && decide (b < 8)) = sp_okb b from rfl, ho, if_false, np_ni]
theorem m47s {x b : Int32} {j : Nat} (h : sp_num F x = some j) (ho : sp_obj F (5 + j) (sp_okb b) = 0) : np_X 47 0 [some (.ref 1), some (.int x), some (.int b), none, none, none] [] (np_S F L C fm k scr) = np_o (sp_bet (F (5 + j) 4) b) (np_S (np_roF F (5 + j) b) L C fm k scr) := by
  have hj := (sp_num_lt h).1
  have hS := np_isS5 hj
  simp only [e47_0, e47_0u, e47_1, e47_2, e47_5n, e47_5i, e47_5r, e47_5v, e47_5un, e47_5ui, e47_5ur, e47_5uv, e47_6, e47_6u, e47_7, e47_7u, e47_10, e47_11, e47_12, e47_12u, e47_13, e47_13u, e47_14, e47_15, e47_18, e47_21n, e47_21i, e47_21r, e47_21v, e47_23, e47_25, e47_28, e47_30, e47_31, e47_31u, e47_32, e47_35, e47_36, e47_39n, e47_39i, e47_39r, e47_39v, e47_41, e47_41u, e47_42, e47_43, e47_46, e47_46u, e47_47, e47_47i, e47_48, e47_51, e47_52, e47_53, e47_56, e47_58, isoG np_B1, isoS hS, np_len0, List.length_cons, List.length_nil, Nat.reduceLeDiff, Nat.reduceAdd, m28, h, np_sr, np_aft_v, np_refS hj, m134, m55 hS, show (!decide (b < 0) && decide (b < 8)) = sp_okb b from rfl, ho, if_true, fldS hS (show 4 < 9 by decide), np_b_s, m139, stoS hS (show 4 < 9 by decide), fldG np_B1 (show 3 ≤ 6 ∧ 6 < 12 ∧ ¬ 6 = 10 by decide), stoG np_B1 (show 3 ≤ 6 ∧ 6 < 12 ∧ ¬ 6 = 10 by decide), np_u_a np_a1, np_ni]
  rfl
-- 49 payForSecret, 50 discover
def np_pyF (F : Nat → Nat → Int32) (a : Nat) : Nat → Nat → Int32 := np_u (np_u (np_u F a 6 (F a 6 - 1)) (sp_aco (F a 1)) 6 (F (sp_aco (F a 1)) 6 + 1)) 1 11 (F 1 11 + 1)
theorem m49 {j : Nat} (hj : j < 12) : np_X 49 0 [some (.ref 1), some (.ref (5 + j))] [] (np_S F L C fm k scr) = some (.inl none, np_S (np_pyF F (5 + j)) L C fm k scr) := by
  have hS := np_isS5 hj
  simp only [e49_0, e49_0u, e49_1, e49_1i, e49_2, e49_5, e49_6, e49_7, e49_10, e49_10u, e49_11, e49_11u, e49_12, e49_15, e49_18, e49_18i, e49_19, e49_22, e49_23, e49_24, e49_27, e49_27u, e49_28, e49_28i, e49_29, e49_32, e49_33, e49_34, e49_37, isoG np_B1, np_len0, fldS hS (show 6 < 9 by decide), fldS hS (show 1 < 9 by decide), stoS hS (show 6 < 9 by decide), np_b_s, m29, np_aft_v, np_u_k (show ¬ 1 = 6 by decide), fldA sp_aco_A (show 6 < 8 by decide), stoA sp_aco_A (show 6 < 8 by decide), np_u_a np_a3, fldG np_B1 (show 3 ≤ 11 ∧ 11 < 12 ∧ ¬ 11 = 10 by decide), stoG np_B1 (show 3 ≤ 11 ∧ 11 < 12 ∧ ¬ 11 = 10 by decide), np_u_a np_a1, np_u_a np_a6]
  rfl
def np_kn (F : Nat → Nat → Int32) (a : Nat) : Nat → Nat → Int32 := np_u (np_u F a 7 (F a 2)) a 8 (F a 3)
theorem m68' {a : Nat} (h : np_isS a) : np_X 68 0 [some (.ref a)] [] (np_S F L C fm k scr) = some (.inl none, np_S (np_kn F a) L C fm k scr) := m68 h
def sp_ds1 (F : Nat → Nat → Int32) (i : Nat) : Nat → Nat → Int32 := if (sp_aflo F (5 + i) && sp_opp F (5 + i)) = true then np_kn F (5 + i) else F
def sp_dis (F : Nat → Nat → Int32) : Nat → Nat → Nat → Nat → Int32
  | _, 0 => F
  | i, n + 1 => sp_dis (sp_ds1 F i) (i + 1) n
theorem sp_dis_s {i n : Nat} : sp_dis F i (n + 1) = sp_dis (sp_ds1 F i) (i + 1) n := rfl
end
section
variable {L : Nat → Int64} {C : Nat → Nat → Int32} {fm k : Nat} {scr : nv_Scr}
theorem l50 : ∀ (n i : Nat), i + n = 12 → ∀ (F : Nat → Nat → Int32) (l4 : Option Value), np_X 50 10 [some (.ref 1), some (.ref 2), some (.int 12), some (.int (nI i)), l4] [] (np_S F L C fm k scr) = some (.inl none, np_S (sp_dis F i n) L C fm k scr)
  | 0, i, h, F, l4 => by
    obtain rfl : i = 12 := by omega
    rw [e50_10]
    simp only [e50_0, e50_0u, e50_1, e50_4n, e50_4i, e50_4r, e50_4v, e50_4un, e50_4ui, e50_4ur, e50_4uv, e50_5, e50_5u, e50_6, e50_7n, e50_7i, e50_7r, e50_7v, e50_8, e50_9n, e50_9i, e50_9r, e50_9v, e50_11, e50_12, e50_15, e50_15u, e50_16, e50_17, e50_18n, e50_18i, e50_18r, e50_18v, e50_18un, e50_18ui, e50_18ur, e50_18uv, e50_20, e50_20u, e50_22, e50_25, e50_28, e50_28u, e50_29, e50_29u, e50_31, e50_34, e50_37, e50_37u, e50_39, e50_42n, e50_42i, e50_42r, e50_42v, e50_45, e50_48, np_nlt12, if_false, sp_dis]
  | n + 1, i, h, F, l4 => by
    have hi : i < 12 := by omega
    have ih := l50 n (i + 1) (by omega)
    have hS := np_isS5 hi
    rw [e50_10, sp_dis_s, sp_ds1]
    simp only [e50_0, e50_0u, e50_1, e50_4n, e50_4i, e50_4r, e50_4v, e50_4un, e50_4ui, e50_4ur, e50_4uv, e50_5, e50_5u, e50_6, e50_7n, e50_7i, e50_7r, e50_7v, e50_8, e50_9n, e50_9i, e50_9r, e50_9v, e50_11, e50_12, e50_15, e50_15u, e50_16, e50_17, e50_18n, e50_18i, e50_18r, e50_18v, e50_18un, e50_18ui, e50_18ur, e50_18uv, e50_20, e50_20u, e50_22, e50_25, e50_28, e50_28u, e50_29, e50_29u, e50_31, e50_34, e50_37, e50_37u, e50_39, e50_42n, e50_42i, e50_42r, e50_42v, e50_45, e50_48, np_lt12 hi, if_true, rdR2 hi, np_b_s, isoS hS, isoG np_B1, m62 hS, m51 hS, m68' hS, np_len0, np_aft_v, np_aft_u, np_i0, nI_1, ih]
    cases sp_aflo F (5 + i) <;> cases sp_opp F (5 + i) <;> simp
variable {F : Nat → Nat → Int32}
theorem m50 : np_X 50 0 [some (.ref 1), none, none, none, none] [] (np_S F L C fm k scr) = some (.inl none, np_S (sp_dis F 0 12) L C fm k scr) := by
  have h := l50 (L := L) (C := C) (fm := fm) (k := k) (scr := scr) 12 0 rfl F none
  rw [nI_0] at h
  simp only [e50_0, e50_0u, e50_1, e50_4n, e50_4i, e50_4r, e50_4v, e50_4un, e50_4ui, e50_4ur, e50_4uv, e50_5, e50_5u, e50_6, e50_7n, e50_7i, e50_7r, e50_7v, e50_8, e50_9n, e50_9i, e50_9r, e50_9v, e50_11, e50_12, e50_15, e50_15u, e50_16, e50_17, e50_18n, e50_18i, e50_18r, e50_18v, e50_18un, e50_18ui, e50_18ur, e50_18uv, e50_20, e50_20u, e50_22, e50_25, e50_28, e50_28u, e50_29, e50_29u, e50_31, e50_34, e50_37, e50_37u, e50_39, e50_42n, e50_42i, e50_42r, e50_42v, e50_45, e50_48, fldG0 np_B1, np_b_s, Nat.reduceAdd, lenR2, np_of12, h]
-- 53 hit
def np_h1F (F : Nat → Nat → Int32) (a : Nat) : Nat → Nat → Int32 := np_kn (np_u (np_u F 1 9 (F 1 9 + 1)) a 5 (F a 5 - 1)) a
def np_h2F (F : Nat → Nat → Int32) (a : Nat) : Nat → Nat → Int32 := np_u (np_u (np_u (np_h1F F a) (sp_aco (F a 1)) 1 (F (sp_aco (F a 1)) 1 - 1)) (sp_aco (F a 1)) 7 (F (sp_aco (F a 1)) 7 + F a 6)) a 6 0
def np_htF (F : Nat → Nat → Int32) (a : Nat) : Nat → Nat → Int32 := if 0 < F a 5 - 1 then np_h1F F a else np_h2F F a
theorem np_h1F_r {j q : Nat} (hq : ¬ q = 5) (h7 : ¬ q = 7) (h8 : ¬ q = 8) : np_h1F F (5 + j) (5 + j) q = F (5 + j) q := by
  unfold np_h1F np_kn
  rw [np_u_k h8, np_u_k h7, np_u_k hq, np_u_a np_a2]
theorem np_h1F_a {j q : Nat} {f : Int32} : np_h1F F (5 + j) (sp_aco f) q = F (sp_aco f) q := by
  unfold np_h1F np_kn
  rw [np_u_a np_a3, np_u_a np_a3, np_u_a np_a3, np_u_a np_a5]
theorem m53 {j : Nat} (hj : j < 12) : np_X 53 0 [some (.ref 1), some (.ref (5 + j)), none] [] (np_S F L C fm k scr) = np_o (if 0 < F (5 + j) 5 - 1 then 1 else 2) (np_S (np_htF F (5 + j)) L C fm k scr) := by
  have hS := np_isS5 hj
  have e5 : sp_aflo (np_h1F F (5 + j)) (5 + j) = decide (0 < F (5 + j) 5 - 1) := by
    unfold sp_aflo np_h1F np_kn
    rw [np_u_k (by decide), np_u_k (by decide), np_u_eq]
  have e0 : np_kn (np_u (np_u F 1 9 (F 1 9 + 1)) (5 + j) 5 (F (5 + j) 5 - 1)) (5 + j) = np_h1F F (5 + j) := rfl
  have e1 : np_h1F F (5 + j) (5 + j) 1 = F (5 + j) 1 := np_h1F_r (by decide) (by decide) (by decide)
  have e6 : np_h1F F (5 + j) (5 + j) 6 = F (5 + j) 6 := np_h1F_r (by decide) (by decide) (by decide)
  simp only [e53_0, e53_0u, e53_1, e53_1i, e53_2, e53_5, e53_6, e53_7, e53_10, e53_10u, e53_11, e53_11i, e53_12, e53_15, e53_16, e53_17, e53_20, e53_20u, e53_21, e53_24, e53_24u, e53_25, e53_28, e53_31, e53_32, e53_33, e53_33u, e53_34, e53_34u, e53_35, e53_38, e53_41n, e53_41i, e53_41r, e53_41v, e53_41un, e53_41ui, e53_41ur, e53_41uv, e53_42, e53_42u, e53_43, e53_43i, e53_44, e53_47, e53_48, e53_49, e53_52, e53_52u, e53_53, e53_53i, e53_54, e53_57, e53_57u, e53_58, e53_61, e53_62, e53_65, e53_65u, e53_66, e53_67, e53_70, e53_71, isoS hS, isoG np_B1, np_len0, fldG np_B1 (show 3 ≤ 9 ∧ 9 < 12 ∧ ¬ 9 = 10 by decide), stoG np_B1 (show 3 ≤ 9 ∧ 9 < 12 ∧ ¬ 9 = 10 by decide), np_b_s, fldS hS (show 5 < 9 by decide), np_u_a np_a2, stoS hS (show 5 < 9 by decide), m68' hS, e0, np_aft_u, m62 hS, np_aft_v, e5, np_i0, np_ni, fldS hS (show 1 < 9 by decide), e1, m29, fldA sp_aco_A (show 1 < 8 by decide), np_h1F_a, stoA sp_aco_A (show 1 < 8 by decide), fldA sp_aco_A (show 7 < 8 by decide), np_u_k (show ¬ 7 = 1 by decide), fldS hS (show 6 < 9 by decide), np_u_a np_a4, e6, stoA sp_aco_A (show 7 < 8 by decide), stoS hS (show 6 < 9 by decide)]
  unfold np_htF
  by_cases h : 0 < F (5 + j) 5 - 1 <;> simp [h, np_h2F]
-- 54 fill
def sp_okc (c : Int32) : Bool := !decide (c < 1) && !decide (9 < c)
def sp_lod (F : Nat → Nat → Int32) (a : Nat) (c : Int32) : Bool := !decide (F (sp_aco (F a 1)) 2 < c) && !decide (9 < F a 6 + c)
def np_fiF (F : Nat → Nat → Int32) (a : Nat) (c : Int32) : Nat → Nat → Int32 := np_u (np_u (np_u (np_u F (sp_aco (F a 1)) 2 (F (sp_aco (F a 1)) 2 - c)) (sp_aco (F a 1)) 4 (F (sp_aco (F a 1)) 4 + c)) a 6 (F a 6 + c)) 1 6 (F 1 6 - 1)
theorem m54n {x c : Int32} (h : sp_num F x = none) : np_X 54 0 [some (.ref 1), some (.int x), some (.int c), none, none, none] [] (np_S F L C fm k scr) = np_o (-1) (np_S F L C fm k scr) := by
  simp only [e54_0, e54_0u, e54_1, e54_2, e54_5n, e54_5i, e54_5r, e54_5v, e54_5un, e54_5ui, e54_5ur, e54_5uv, e54_6, e54_6u, e54_7, e54_7u, e54_10, e54_11, e54_12, e54_12u, e54_13, e54_13u, e54_14, e54_15, e54_18, e54_21n, e54_21i, e54_21r, e54_21v, e54_23, e54_25, e54_28, e54_30, e54_31, e54_31u, e54_32, e54_32u, e54_33, e54_36, e54_39n, e54_39i, e54_39r, e54_39v, e54_39un, e54_39ui, e54_39ur, e54_39uv, e54_41, e54_41u, e54_43, e54_46, e54_47, e54_50, e54_50u, e54_51, e54_54, e54_55, e54_56, e54_58, e54_61, e54_63, e54_64, e54_64u, e54_66, e54_66i, e54_67, e54_70, e54_71, e54_72, e54_75, e54_75u, e54_77, e54_77i, e54_78, e54_81, e54_82, e54_83, e54_86, e54_86u, e54_87, e54_87i, e54_88, e54_91, e54_92, e54_93, e54_96, e54_96u, e54_97, e54_97i, e54_98, e54_101, e54_102, e54_103, e54_106, e54_106u, e54_107, e54_110, isoG np_B1, np_len0, m28, h, np_sr, np_aft_v, np_ni]
theorem m54o {x c : Int32} {j : Nat} (h : sp_num F x = some j) (ho : ¬ sp_obj F (5 + j) (sp_okc c) = 0) : np_X 54 0 [some (.ref 1), some (.int x), some (.int c), none, none, none] [] (np_S F L C fm k scr) = np_o (sp_obj F (5 + j) (sp_okc c)) (np_S F L C fm k scr) := by
  have hj := (sp_num_lt h).1
  have hS := np_isS5 hj
  simp only [e54_0, e54_0u, e54_1, e54_2, e54_5n, e54_5i, e54_5r, e54_5v, e54_5un, e54_5ui, e54_5ur, e54_5uv, e54_6, e54_6u, e54_7, e54_7u, e54_10, e54_11, e54_12, e54_12u, e54_13, e54_13u, e54_14, e54_15, e54_18, e54_21n, e54_21i, e54_21r, e54_21v, e54_23, e54_25, e54_28, e54_30, e54_31, e54_31u, e54_32, e54_32u, e54_33, e54_36, e54_39n, e54_39i, e54_39r, e54_39v, e54_39un, e54_39ui, e54_39ur, e54_39uv, e54_41, e54_41u, e54_43, e54_46, e54_47, e54_50, e54_50u, e54_51, e54_54, e54_55, e54_56, e54_58, e54_61, e54_63, e54_64, e54_64u, e54_66, e54_66i, e54_67, e54_70, e54_71, e54_72, e54_75, e54_75u, e54_77, e54_77i, e54_78, e54_81, e54_82, e54_83, e54_86, e54_86u, e54_87, e54_87i, e54_88, e54_91, e54_92, e54_93, e54_96, e54_96u, e54_97, e54_97i, e54_98, e54_101, e54_102, e54_103, e54_106, e54_106u, e54_107, e54_110, isoG np_B1, isoS hS, np_len0, List.length_cons, List.length_nil, Nat.reduceLeDiff, Nat.reduceAdd, m28, h, np_sr, np_aft_v, np_refS hj, m135, m55 hS, show (!decide (c < 1) && !decide (9 < c)) = sp_okc c from rfl, ho, if_false, np_ni]
theorem m54r {x c : Int32} {j : Nat} (h : sp_num F x = some j) (ho : sp_obj F (5 + j) (sp_okc c) = 0) (hl : sp_lod F (5 + j) c = false) : np_X 54 0 [some (.ref 1), some (.int x), some (.int c), none, none, none] [] (np_S F L C fm k scr) = np_o (-16) (np_S F L C fm k scr) := by
  have hj := (sp_num_lt h).1
  have hS := np_isS5 hj
  unfold sp_lod at hl
  simp only [e54_0, e54_0u, e54_1, e54_2, e54_5n, e54_5i, e54_5r, e54_5v, e54_5un, e54_5ui, e54_5ur, e54_5uv, e54_6, e54_6u, e54_7, e54_7u, e54_10, e54_11, e54_12, e54_12u, e54_13, e54_13u, e54_14, e54_15, e54_18, e54_21n, e54_21i, e54_21r, e54_21v, e54_23, e54_25, e54_28, e54_30, e54_31, e54_31u, e54_32, e54_32u, e54_33, e54_36, e54_39n, e54_39i, e54_39r, e54_39v, e54_39un, e54_39ui, e54_39ur, e54_39uv, e54_41, e54_41u, e54_43, e54_46, e54_47, e54_50, e54_50u, e54_51, e54_54, e54_55, e54_56, e54_58, e54_61, e54_63, e54_64, e54_64u, e54_66, e54_66i, e54_67, e54_70, e54_71, e54_72, e54_75, e54_75u, e54_77, e54_77i, e54_78, e54_81, e54_82, e54_83, e54_86, e54_86u, e54_87, e54_87i, e54_88, e54_91, e54_92, e54_93, e54_96, e54_96u, e54_97, e54_97i, e54_98, e54_101, e54_102, e54_103, e54_106, e54_106u, e54_107, e54_110, isoG np_B1, isoS hS, np_len0, List.length_cons, List.length_nil, Nat.reduceLeDiff, Nat.reduceAdd, m28, h, np_sr, np_aft_v, np_refS hj, m135, m55 hS, show (!decide (c < 1) && !decide (9 < c)) = sp_okc c from rfl, ho, if_true, fldS hS (show 1 < 9 by decide), np_b_s, m29, fldA sp_aco_A (show 2 < 8 by decide), fldS hS (show 6 < 9 by decide), np_ni]
  by_cases h1 : F (sp_aco (F (5 + j) 1)) 2 < c
  · simp [h1]
  · have h2 : 9 < F (5 + j) 6 + c := by simpa [h1] using hl
    simp [h1, h2]
theorem m54s {x c : Int32} {j : Nat} (h : sp_num F x = some j) (ho : sp_obj F (5 + j) (sp_okc c) = 0) (hl : sp_lod F (5 + j) c = true) : np_X 54 0 [some (.ref 1), some (.int x), some (.int c), none, none, none] [] (np_S F L C fm k scr) = np_o (F (5 + j) 6 + c) (np_S (np_fiF F (5 + j) c) L C fm k scr) := by
  have hj := (sp_num_lt h).1
  have hS := np_isS5 hj
  unfold sp_lod at hl
  simp only [Bool.and_eq_true, Bool.not_eq_true', decide_eq_false_iff_not] at hl
  simp only [e54_0, e54_0u, e54_1, e54_2, e54_5n, e54_5i, e54_5r, e54_5v, e54_5un, e54_5ui, e54_5ur, e54_5uv, e54_6, e54_6u, e54_7, e54_7u, e54_10, e54_11, e54_12, e54_12u, e54_13, e54_13u, e54_14, e54_15, e54_18, e54_21n, e54_21i, e54_21r, e54_21v, e54_23, e54_25, e54_28, e54_30, e54_31, e54_31u, e54_32, e54_32u, e54_33, e54_36, e54_39n, e54_39i, e54_39r, e54_39v, e54_39un, e54_39ui, e54_39ur, e54_39uv, e54_41, e54_41u, e54_43, e54_46, e54_47, e54_50, e54_50u, e54_51, e54_54, e54_55, e54_56, e54_58, e54_61, e54_63, e54_64, e54_64u, e54_66, e54_66i, e54_67, e54_70, e54_71, e54_72, e54_75, e54_75u, e54_77, e54_77i, e54_78, e54_81, e54_82, e54_83, e54_86, e54_86u, e54_87, e54_87i, e54_88, e54_91, e54_92, e54_93, e54_96, e54_96u, e54_97, e54_97i, e54_98, e54_101, e54_102, e54_103, e54_106, e54_106u, e54_107, e54_110, isoG np_B1, isoS hS, np_len0, List.length_cons, List.length_nil, Nat.reduceLeDiff, Nat.reduceAdd, m28, h, np_sr, np_aft_v, np_refS hj, m135, m55 hS, show (!decide (c < 1) && !decide (9 < c)) = sp_okc c from rfl, ho, if_true, fldS hS (show 1 < 9 by decide), np_b_s, m29, fldA sp_aco_A (show 2 < 8 by decide), fldS hS (show 6 < 9 by decide), np_ni, hl.1, hl.2, if_false, stoA sp_aco_A (show 2 < 8 by decide), fldA sp_aco_A (show 4 < 8 by decide), stoA sp_aco_A (show 4 < 8 by decide), np_u_k (show ¬ 4 = 2 by decide), np_u_a np_a4, stoS hS (show 6 < 9 by decide), fldG np_B1 (show 3 ≤ 6 ∧ 6 < 12 ∧ ¬ 6 = 10 by decide), np_u_a np_a1, np_u_a np_a6, np_u_a np_a2, stoG np_B1 (show 3 ≤ 6 ∧ 6 < 12 ∧ ¬ 6 = 10 by decide), np_u_eq]
  rfl
end
