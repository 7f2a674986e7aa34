/-! THE PURE PART, 5: what the face answers. -/
theorem np_hn0 : ∀ y, y < 140 → np_hls.getD y [] = [] := by decide
theorem np_hn {y pc : Nat} {E : String} (h : y < 140) : np_hd y pc E = none := by
  unfold np_hd
  rw [np_hn0 y h]
  rfl
theorem np_ib0 {y : Bool} {α : Type} {d : Decidable (y = false)} {a b : α} : @ite _ (y = false) d a b = bif y then b else a := by cases y <;> simp
theorem np_x12 {x : Int32} (h : ¬ x < 0) (h2 : x < 12) : ∃ j : Nat, j < 12 ∧ x = nI j := by
  obtain ⟨j, hj, rfl⟩ := nI_of h
  exact ⟨j, by
    have : (12 : Int32) = nI 12 := rfl
    rw [this] at h2
    exact (nI_ltI hj (by decide)).mp h2, rfl⟩
theorem np_rt {α : Type} {c : Prop} {d : Decidable c} {a b : α} (h : c = True) : @ite _ c d a b = a := if_pos (of_eq_true h)
section
variable {F : Nat → Nat → Int32} {L : Nat → Int64} {C : Nat → Nat → Int32} {fm k : Nat} {scr : nv_Scr}
abbrev np_xo (E : String) (σ : nv_St) : Option nv_Out := some (.inr E, σ)
-- 28 numbered
def sp_num (F : Nat → Nat → Int32) (x : Int32) : Option Nat := if x < 0 then none else if x < F 1 3 then (if x < 12 then some x.toNatClampNeg else none) else none
theorem sp_num_lt {x : Int32} {j : Nat} (h : sp_num F x = some j) : j < 12 ∧ x = nI j ∧ x < F 1 3 := by
  unfold sp_num at h
  split at h
  · cases h
  · split at h
    · split at h
      · rename_i h1 h2 h3
        obtain ⟨j', hj, rfl⟩ := np_x12 h1 h3
        cases h
        rw [nI_clamp (by omega)]
        exact ⟨hj, rfl, h2⟩
      · cases h
    · cases h
theorem m28 {x : Int32} : np_X 28 0 [some (.ref 1), some (.int x)] [] (np_S F L C fm k scr) = np_vo (np_sr (sp_num F x)) (np_S F L C fm k scr) := by
  unfold sp_num
  by_cases h1 : x < 0
  · simp only [e28_0, e28_1, e28_4, e28_5, e28_5u, e28_6, e28_9, e28_12, e28_13, e28_13u, e28_14, e28_17, e28_18, e28_21, e28_22, e28_22u, e28_23, e28_23u, e28_24, e28_27, e28_28, e28_29, e28_29u, h1, if_true, np_sr]
  · by_cases h2 : x < F 1 3
    · by_cases h3 : x < 12
      · obtain ⟨j, hj, rfl⟩ := np_x12 h1 h3
        simp only [e28_0, e28_1, e28_4, e28_5, e28_5u, e28_6, e28_9, e28_12, e28_13, e28_13u, e28_14, e28_17, e28_18, e28_21, e28_22, e28_22u, e28_23, e28_23u, e28_24, e28_27, e28_28, e28_29, e28_29u, h1, h2, h3, if_true, if_false, fldG np_B1 (show 3 ≤ 3 ∧ 3 < 12 ∧ ¬ 3 = 10 by decide), fldG0 np_B1, np_b_s, Nat.reduceAdd, lenR2, np_of12, rdR2 hj, np_sr, nI_clamp (show j < 2 ^ 31 by omega)]
      · simp only [e28_0, e28_1, e28_4, e28_5, e28_5u, e28_6, e28_9, e28_12, e28_13, e28_13u, e28_14, e28_17, e28_18, e28_21, e28_22, e28_22u, e28_23, e28_23u, e28_24, e28_27, e28_28, e28_29, e28_29u, h1, h2, h3, if_true, if_false, fldG np_B1 (show 3 ≤ 3 ∧ 3 < 12 ∧ ¬ 3 = 10 by decide), fldG0 np_B1, np_b_s, Nat.reduceAdd, lenR2, np_of12, np_sr]
    · simp only [e28_0, e28_1, e28_4, e28_5, e28_5u, e28_6, e28_9, e28_12, e28_13, e28_13u, e28_14, e28_17, e28_18, e28_21, e28_22, e28_22u, e28_23, e28_23u, e28_24, e28_27, e28_28, e28_29, e28_29u, h1, h2, if_true, if_false, fldG np_B1 (show 3 ≤ 3 ∧ 3 < 12 ∧ ¬ 3 = 10 by decide), np_b_s, np_sr]
-- 29 accountOf
def sp_aco (f : Int32) : Nat := if f = 0 then 3 else 4
theorem sp_aco_A {f : Int32} : np_isA (sp_aco f) := by unfold sp_aco; split; exact np_isA3; exact np_isA4
theorem m29 {f : Int32} : np_X 29 0 [some (.ref 1), some (.int f)] [] (np_S F L C fm k scr) = np_vo (.ref (sp_aco f)) (np_S F L C fm k scr) := by
  simp only [e29_0, e29_1, e29_4, e29_4u, e29_5, e29_8, e29_11, e29_11u, e29_12, e29_15, e29_15u, fldG1 np_B1, fldG2 np_B1, np_b_s, Nat.reduceAdd, sp_aco]
  split <;> rfl
-- 30, 31
def sp_ovr (F : Nat → Nat → Int32) : Bool := !decide (F 1 4 = 0) && (decide (F 3 1 = 0) || decide (F 4 1 = 0))
theorem m30 : np_X 30 0 [some (.ref 1)] [] (np_S F L C fm k scr) = np_o (np_i (sp_ovr F)) (np_S F L C fm k scr) := by
  simp only [e30_0, e30_0u, e30_1, e30_4, e30_7, e30_7u, e30_8, e30_11, e30_14, e30_17, e30_17u, e30_18, e30_21, e30_24, e30_27, e30_28, e30_31, e30_32, fldG np_B1 (show 3 ≤ 4 ∧ 4 < 12 ∧ ¬ 4 = 10 by decide), fldG1 np_B1, fldG2 np_B1, np_b_s, Nat.reduceAdd, fldA np_isA3 (show 1 < 8 by decide), fldA np_isA4 (show 1 < 8 by decide), np_nb1, np_nb0, np_rb, np_rn, np_ra, np_ran, np_ro, np_ron, sp_ovr]
def sp_gng (F : Nat → Nat → Int32) : Bool := !decide (F 1 4 = 0) && !sp_ovr F
theorem m31 : np_X 31 0 [some (.ref 1)] [] (np_S F L C fm k scr) = np_o (np_i (sp_gng F)) (np_S F L C fm k scr) := by
  simp only [e31_0, e31_0u, e31_1, e31_4, e31_7, e31_7u, e31_8, e31_11, e31_14, e31_15, e31_18, e31_19, fldG np_B1 (show 3 ≤ 4 ∧ 4 < 12 ∧ ¬ 4 = 10 by decide), np_b_s, isoG np_B1, np_len0, m30, np_aft_v, np_i0, np_nb1, np_nb0]
  unfold sp_gng
  by_cases h : F 1 4 = 0 <;> cases sp_ovr F <;> simp [h, np_i]
-- 41, 42, 43
def sp_all (p : Nat → Bool) : Nat → Nat → Bool
  | _, 0 => true
  | i, n + 1 => p i && sp_all p (i + 1) n
theorem sp_all_s {p : Nat → Bool} {i n : Nat} : sp_all p i (n + 1) = (p i && sp_all p (i + 1) n) := rfl
def sp_tee (F : Nat → Nat → Int32) (i : Nat) : Bool := decide (sp_tgs F (5 + i) = sp_tcs F (5 + i))
theorem l41 : ∀ (n i : Nat), i + n = 12 → ∀ (l4 : Option Value), np_X 41 10 [some (.ref 1), some (.ref 2), some (.int 12), some (.int (nI i)), l4] [] (np_S F L C fm k scr) = np_o (np_i (sp_all (sp_tee F) i n)) (np_S F L C fm k scr)
  | 0, i, h, l4 => by
    obtain rfl : i = 12 := by omega
    rw [e41_10]
    simp only [e41_0, e41_0u, e41_1, e41_4n, e41_4i, e41_4r, e41_4v, e41_4un, e41_4ui, e41_4ur, e41_4uv, e41_5, e41_5u, e41_6, e41_7n, e41_7i, e41_7r, e41_7v, e41_8, e41_9n, e41_9i, e41_9r, e41_9v, e41_11, e41_12, e41_15, e41_15u, e41_16, e41_17, e41_18n, e41_18i, e41_18r, e41_18v, e41_18un, e41_18ui, e41_18ur, e41_18uv, e41_20, e41_20u, e41_21, e41_21u, e41_23, e41_26, e41_26u, e41_27, e41_27u, e41_29, e41_32, e41_35, e41_36, e41_37n, e41_37i, e41_37r, e41_37v, e41_40, e41_43, e41_44, np_nlt12, if_false, sp_all, np_nb1]
    rfl
  | n + 1, i, h, l4 => by
    have hi : i < 12 := by omega
    have ih := l41 n (i + 1) (by omega)
    have hS := np_isS5 hi
    rw [e41_10]
    simp only [e41_0, e41_0u, e41_1, e41_4n, e41_4i, e41_4r, e41_4v, e41_4un, e41_4ui, e41_4ur, e41_4uv, e41_5, e41_5u, e41_6, e41_7n, e41_7i, e41_7r, e41_7v, e41_8, e41_9n, e41_9i, e41_9r, e41_9v, e41_11, e41_12, e41_15, e41_15u, e41_16, e41_17, e41_18n, e41_18i, e41_18r, e41_18v, e41_18un, e41_18ui, e41_18ur, e41_18uv, e41_20, e41_20u, e41_21, e41_21u, e41_23, e41_26, e41_26u, e41_27, e41_27u, e41_29, e41_32, e41_35, e41_36, e41_37n, e41_37i, e41_37r, e41_37v, e41_40, e41_43, e41_44, np_lt12 hi, if_true, rdR2 hi, np_b_s, isoG np_B1, m35 hS, m36 hS, np_len0, List.length_cons, List.length_nil, Nat.reduceLeDiff, Nat.reduceAdd, np_aft_v, nI_1, ih, np_nb0]
    rw [sp_all_s, sp_tee]
    by_cases hr : sp_tgs F (5 + i) = sp_tcs F (5 + i) <;> simp [hr, np_i]
theorem m41 : np_X 41 0 [some (.ref 1), none, none, none, none] [] (np_S F L C fm k scr) = np_o (np_i (sp_all (sp_tee F) 0 12)) (np_S F L C fm k scr) := by
  have h := l41 (F := F) (L := L) (C := C) (fm := fm) (k := k) (scr := scr) 12 0 rfl none
  rw [nI_0] at h
  simp only [e41_0, e41_0u, e41_1, e41_4n, e41_4i, e41_4r, e41_4v, e41_4un, e41_4ui, e41_4ur, e41_4uv, e41_5, e41_5u, e41_6, e41_7n, e41_7i, e41_7r, e41_7v, e41_8, e41_9n, e41_9i, e41_9r, e41_9v, e41_11, e41_12, e41_15, e41_15u, e41_16, e41_17, e41_18n, e41_18i, e41_18r, e41_18v, e41_18un, e41_18ui, e41_18ur, e41_18uv, e41_20, e41_20u, e41_21, e41_21u, e41_23, e41_26, e41_26u, e41_27, e41_27u, e41_29, e41_32, e41_35, e41_36, e41_37n, e41_37i, e41_37r, e41_37v, e41_40, e41_43, e41_44, fldG0 np_B1, np_b_s, Nat.reduceAdd, lenR2, np_of12, h]
def sp_cue (F : Nat → Nat → Int32) : Bool := decide (sp_cub F 0 = sp_bal F 3) && decide (sp_cub F 1 = sp_bal F 4)
theorem m42 : np_X 42 0 [some (.ref 1)] [] (np_S F L C fm k scr) = np_o (np_i (sp_cue F)) (np_S F L C fm k scr) := by
  simp only [e42_0, e42_0u, e42_1, e42_2, e42_5, e42_5u, e42_6, e42_9, e42_12, e42_15, e42_15u, e42_16, e42_17, e42_20, e42_20u, e42_21, e42_24, e42_27, e42_30, e42_31, e42_34, e42_35, isoG np_B1, np_len0, List.length_cons, List.length_nil, Nat.reduceLeDiff, Nat.reduceAdd, m40, np_aft_v, fldG1 np_B1, fldG2 np_B1, np_b_s, isoA np_isA3, isoA np_isA4, m10 np_isA3, m10 np_isA4, np_nb1, np_nb0, np_rb, np_ra, sp_cue]
def sp_sgl (F : Nat → Nat → Int32) (i : Nat) : Bool := match sp_in F (F (5 + i) 2) (F (5 + i) 3) with
  | some j => !(sp_aflo F (5 + i) && !decide (F (5 + j) 0 = F (5 + i) 0))
  | none => true
theorem l43 : ∀ (n i : Nat), i + n = 12 → ∀ (l4 l5 : Option Value), np_X 43 10 [some (.ref 1), some (.ref 2), some (.int 12), some (.int (nI i)), l4, l5] [] (np_S F L C fm k scr) = np_o (np_i (sp_all (sp_sgl F) i n)) (np_S F L C fm k scr)
  | 0, i, h, l4, l5 => by
    obtain rfl : i = 12 := by omega
    rw [e43_10]
    simp only [e43_0, e43_0u, e43_1, e43_4n, e43_4i, e43_4r, e43_4v, e43_4un, e43_4ui, e43_4ur, e43_4uv, e43_5, e43_5u, e43_6, e43_7n, e43_7i, e43_7r, e43_7v, e43_8, e43_9n, e43_9i, e43_9r, e43_9v, e43_11, e43_12, e43_15, e43_15u, e43_16, e43_17, e43_18n, e43_18i, e43_18r, e43_18v, e43_18un, e43_18ui, e43_18ur, e43_18uv, e43_20, e43_20u, e43_21, e43_21u, e43_23, e43_26, e43_26u, e43_28, e43_31, e43_34n, e43_34i, e43_34r, e43_34v, e43_34un, e43_34ui, e43_34ur, e43_34uv, e43_36, e43_36u, e43_38, e43_41, e43_44, e43_44u, e43_46, e43_46u, e43_49, e43_49u, e43_51, e43_54, e43_54u, e43_56, e43_59, e43_62, e43_63, e43_64n, e43_64i, e43_64r, e43_64v, e43_67, e43_70, e43_71, np_nlt12, if_false, sp_all, np_nb1]
    rfl
  | n + 1, i, h, l4, l5 => by
    have hi : i < 12 := by omega
    have ih := l43 n (i + 1) (by omega)
    have hS := np_isS5 hi
    rw [e43_10, sp_all_s, sp_sgl]
    cases hx : sp_in F (F (5 + i) 2) (F (5 + i) 3) with
    | none =>
      simp only [e43_0, e43_0u, e43_1, e43_4n, e43_4i, e43_4r, e43_4v, e43_4un, e43_4ui, e43_4ur, e43_4uv, e43_5, e43_5u, e43_6, e43_7n, e43_7i, e43_7r, e43_7v, e43_8, e43_9n, e43_9i, e43_9r, e43_9v, e43_11, e43_12, e43_15, e43_15u, e43_16, e43_17, e43_18n, e43_18i, e43_18r, e43_18v, e43_18un, e43_18ui, e43_18ur, e43_18uv, e43_20, e43_20u, e43_21, e43_21u, e43_23, e43_26, e43_26u, e43_28, e43_31, e43_34n, e43_34i, e43_34r, e43_34v, e43_34un, e43_34ui, e43_34ur, e43_34uv, e43_36, e43_36u, e43_38, e43_41, e43_44, e43_44u, e43_46, e43_46u, e43_49, e43_49u, e43_51, e43_54, e43_54u, e43_56, e43_59, e43_62, e43_63, e43_64n, e43_64i, e43_64r, e43_64v, e43_67, e43_70, e43_71, np_lt12 hi, if_true, rdR2 hi, np_b_s, isoG np_B1, isoS hS, fldS hS (show 2 < 9 by decide), fldS hS (show 3 < 9 by decide), m32, hx, np_sr, m62 hS, np_len0, np_aft_v, np_i0, nI_1, ih, np_nb0]
      cases sp_aflo F (5 + i) <;> simp
    | some j =>
      have hj := sp_in_lt hx
      simp only [e43_0, e43_0u, e43_1, e43_4n, e43_4i, e43_4r, e43_4v, e43_4un, e43_4ui, e43_4ur, e43_4uv, e43_5, e43_5u, e43_6, e43_7n, e43_7i, e43_7r, e43_7v, e43_8, e43_9n, e43_9i, e43_9r, e43_9v, e43_11, e43_12, e43_15, e43_15u, e43_16, e43_17, e43_18n, e43_18i, e43_18r, e43_18v, e43_18un, e43_18ui, e43_18ur, e43_18uv, e43_20, e43_20u, e43_21, e43_21u, e43_23, e43_26, e43_26u, e43_28, e43_31, e43_34n, e43_34i, e43_34r, e43_34v, e43_34un, e43_34ui, e43_34ur, e43_34uv, e43_36, e43_36u, e43_38, e43_41, e43_44, e43_44u, e43_46, e43_46u, e43_49, e43_49u, e43_51, e43_54, e43_54u, e43_56, e43_59, e43_62, e43_63, e43_64n, e43_64i, e43_64r, e43_64v, e43_67, e43_70, e43_71, np_lt12 hi, if_true, rdR2 hi, np_b_s, isoG np_B1, isoS hS, fldS hS (show 2 < 9 by decide), fldS hS (show 3 < 9 by decide), fldS hS (show 0 < 9 by decide), fldS (np_isS5 hj) (show 0 < 9 by decide), m32, hx, np_sr, np_refS hj, m62 hS, np_len0, np_aft_v, np_i0, nI_1, ih, np_nb0]
      cases sp_aflo F (5 + i) <;> by_cases hr : F (5 + j) 0 = F (5 + i) 0 <;> simp [hr, np_i]
theorem m43 : np_X 43 0 [some (.ref 1), none, none, none, none, none] [] (np_S F L C fm k scr) = np_o (np_i (sp_all (sp_sgl F) 0 12)) (np_S F L C fm k scr) := by
  have h := l43 (F := F) (L := L) (C := C) (fm := fm) (k := k) (scr := scr) 12 0 rfl none none
  rw [nI_0] at h
  simp only [e43_0, e43_0u, e43_1, e43_4n, e43_4i, e43_4r, e43_4v, e43_4un, e43_4ui, e43_4ur, e43_4uv, e43_5, e43_5u, e43_6, e43_7n, e43_7i, e43_7r, e43_7v, e43_8, e43_9n, e43_9i, e43_9r, e43_9v, e43_11, e43_12, e43_15, e43_15u, e43_16, e43_17, e43_18n, e43_18i, e43_18r, e43_18v, e43_18un, e43_18ui, e43_18ur, e43_18uv, e43_20, e43_20u, e43_21, e43_21u, e43_23, e43_26, e43_26u, e43_28, e43_31, e43_34n, e43_34i, e43_34r, e43_34v, e43_34un, e43_34ui, e43_34ur, e43_34uv, e43_36, e43_36u, e43_38, e43_41, e43_44, e43_44u, e43_46, e43_46u, e43_49, e43_49u, e43_51, e43_54, e43_54u, e43_56, e43_59, e43_62, e43_63, e43_64n, e43_64i, e43_64r, e43_64v, e43_67, e43_70, e43_71, fldG0 np_B1, np_b_s, Nat.reduceAdd, lenR2, np_of12, h]
def sp_con (F : Nat → Nat → Int32) : Bool := sp_all (sp_tee F) 0 12 && (sp_cue F && sp_all (sp_sgl F) 0 12)
theorem m119 : np_X 119 0 [some (.ref 0)] [] (np_S F L C fm k scr) = np_o (np_i (sp_con F)) (np_S F L C fm k scr) := by
  simp only [e119_0, e119_0u, e119_1, e119_4, e119_7, e119_10, e119_10u, e119_11, e119_14, e119_17, e119_20, e119_20u, e119_21, e119_24, e119_27, e119_30, e119_31, e119_34, e119_35, fldN0, np_b_s, isoG np_B1, np_len0, m41, m42, m43, np_aft_v, np_i0, np_nb1, np_nb0]
  unfold sp_con
  cases sp_all (sp_tee F) 0 12 <;> cases sp_cue F <;> cases sp_all (sp_sgl F) 0 12 <;> simp [np_i]
-- 51 isOpponentNear
def sp_opn (F : Nat → Nat → Int32) (b : Nat) (i : Nat) : Bool := (sp_aflo F (5 + i) && decide (F (5 + i) 1 = 1 - F b 1)) && !decide (2 < sp_dist F (5 + i) (F b 2) (F b 3))
theorem l51 {b : Nat} (hb : np_isS b) : ∀ (n i : Nat), i + n = 12 → ∀ (l5 : Option Value), np_X 51 11 [some (.ref 1), some (.ref b), some (.ref 2), some (.int 12), some (.int (nI i)), l5] [] (np_S F L C fm k scr) = np_o (np_i (sp_any (sp_opn F b) i n)) (np_S F L C fm k scr)
  | 0, i, h, l5 => by
    obtain rfl : i = 12 := by omega
    rw [e51_11]
    simp only [e51_0, e51_0u, e51_1, e51_4n, e51_4i, e51_4r, e51_4v, e51_4un, e51_4ui, e51_4ur, e51_4uv, e51_5, e51_5u, e51_6, e51_7n, e51_7i, e51_7r, e51_7v, e51_8, e51_9n, e51_9i, e51_9r, e51_9v, e51_13, e51_14, e51_17, e51_17u, e51_18, e51_20, e51_21n, e51_21i, e51_21r, e51_21v, e51_21un, e51_21ui, e51_21ur, e51_21uv, e51_23, e51_23u, e51_25, e51_26, e51_26u, e51_27, e51_30, e51_31, e51_34, e51_37, e51_37u, e51_39, e51_39u, e51_40, e51_43, e51_43u, e51_44, e51_47, e51_50, e51_51, e51_54, e51_55, e51_56n, e51_56i, e51_56r, e51_56v, e51_59, e51_62, e51_63, np_nlt12, if_false, sp_any, np_nb0]
    rfl
  | n + 1, i, h, l5 => by
    have hi : i < 12 := by omega
    have ih := l51 hb n (i + 1) (by omega)
    have hS := np_isS5 hi
    rw [e51_11, sp_any_s, sp_opn]
    simp only [e51_0, e51_0u, e51_1, e51_4n, e51_4i, e51_4r, e51_4v, e51_4un, e51_4ui, e51_4ur, e51_4uv, e51_5, e51_5u, e51_6, e51_7n, e51_7i, e51_7r, e51_7v, e51_8, e51_9n, e51_9i, e51_9r, e51_9v, e51_13, e51_14, e51_17, e51_17u, e51_18, e51_20, e51_21n, e51_21i, e51_21r, e51_21v, e51_21un, e51_21ui, e51_21ur, e51_21uv, e51_23, e51_23u, e51_25, e51_26, e51_26u, e51_27, e51_30, e51_31, e51_34, e51_37, e51_37u, e51_39, e51_39u, e51_40, e51_43, e51_43u, e51_44, e51_47, e51_50, e51_51, e51_54, e51_55, e51_56n, e51_56i, e51_56r, e51_56v, e51_59, e51_62, e51_63, np_lt12 hi, if_true, rdR2 hi, np_b_s, isoS hS, isoS hb, fldS hb (show 1 < 9 by decide), fldS hb (show 2 < 9 by decide), fldS hb (show 3 < 9 by decide), m63 hS, m65 hS, np_len0, np_aft_v, np_i0, nI_1, ih, np_nb1]
    cases (sp_aflo F (5 + i) && decide (F (5 + i) 1 = 1 - F b 1)) <;> by_cases hr : 2 < sp_dist F (5 + i) (F b 2) (F b 3) <;> simp [hr, np_i]
def sp_opp (F : Nat → Nat → Int32) (b : Nat) : Bool := sp_any (sp_opn F b) 0 12
theorem m51 {b : Nat} (hb : np_isS b) : np_X 51 0 [some (.ref 1), some (.ref b), none, none, none, none] [] (np_S F L C fm k scr) = np_o (np_i (sp_opp F b)) (np_S F L C fm k scr) := by
  have h := l51 (F := F) (L := L) (C := C) (fm := fm) (k := k) (scr := scr) hb 12 0 rfl none
  rw [nI_0] at h
  simp only [e51_0, e51_0u, e51_1, e51_4n, e51_4i, e51_4r, e51_4v, e51_4un, e51_4ui, e51_4ur, e51_4uv, e51_5, e51_5u, e51_6, e51_7n, e51_7i, e51_7r, e51_7v, e51_8, e51_9n, e51_9i, e51_9r, e51_9v, e51_13, e51_14, e51_17, e51_17u, e51_18, e51_20, e51_21n, e51_21i, e51_21r, e51_21v, e51_21un, e51_21ui, e51_21ur, e51_21uv, e51_23, e51_23u, e51_25, e51_26, e51_26u, e51_27, e51_30, e51_31, e51_34, e51_37, e51_37u, e51_39, e51_39u, e51_40, e51_43, e51_43u, e51_44, e51_47, e51_50, e51_51, e51_54, e51_55, e51_56n, e51_56i, e51_56r, e51_56v, e51_59, e51_62, e51_63, fldG0 np_B1, np_b_s, Nat.reduceAdd, lenR2, np_of12, h]
  rfl
-- 127, 128: s: there is such a spoon, n: there is none
theorem m127s {x : Int32} {j : Nat} (h : sp_num F x = some j) : np_X 127 0 [some (.ref 0), some (.int x), none] [] (np_S F L C fm k scr) = np_vo (.ref (5 + j)) (np_S F L C fm k scr) := by
  have hj := (sp_num_lt h).1
  simp only [e127_0, e127_0u, e127_1, e127_4, e127_5, e127_8n, e127_8i, e127_8r, e127_8v, e127_8un, e127_8ui, e127_8ur, e127_8uv, e127_9, e127_9u, e127_10, e127_10u, e127_13, e127_24, e127_24u, e127_25, e127_25u, fldN0, np_b_s, isoG np_B1, np_len0, m28, h, np_sr, np_aft_v, np_refS hj]
theorem m127n {x : Int32} (h : sp_num F x = none) : np_X 127 0 [some (.ref 0), some (.int x), none] [] (np_S F L C fm k scr) = np_xo "java/lang/IndexOutOfBoundsException" (np_S F L C fm (k + 1) scr) := by
  simp only [e127_0, e127_0u, e127_1, e127_4, e127_5, e127_8n, e127_8i, e127_8r, e127_8v, e127_8un, e127_8ui, e127_8ur, e127_8uv, e127_9, e127_9u, e127_10, e127_10u, e127_13, e127_24, e127_24u, e127_25, e127_25u, fldN0, np_b_s, isoG np_B1, np_len0, m28, h, np_sr, np_aft_v, bump]
theorem m128s {x : Int32} {j : Nat} (h : sp_num F x = some j) : np_X 128 0 [some (.ref 0), some (.int x), none] [] (np_S F L C fm k scr) = if sp_aflo F (5 + j) = true then np_vo (.ref (5 + j)) (np_S F L C fm k scr) else np_xo "java/util/NoSuchElementException" (np_S F L C fm (k + 1) scr) := by
  have hS := np_isS5 (sp_num_lt h).1
  simp only [e128_0, e128_0u, e128_1, e128_2, e128_5n, e128_5i, e128_5r, e128_5v, e128_5un, e128_5ui, e128_5ur, e128_5uv, e128_6, e128_6u, e128_7, e128_10, e128_13, e128_24, e128_24u, e128_25, e128_25u, isoN, np_len0, m127s h, np_aft_v, isoS hS, m62 hS, np_i0, bump]
  cases sp_aflo F (5 + j) <;> simp
theorem m128n {x : Int32} (h : sp_num F x = none) : np_X 128 0 [some (.ref 0), some (.int x), none] [] (np_S F L C fm k scr) = np_xo "java/lang/IndexOutOfBoundsException" (np_S F L C fm (k + 1) scr) := by
  simp only [e128_0, e128_0u, e128_1, e128_2, e128_5n, e128_5i, e128_5r, e128_5v, e128_5un, e128_5ui, e128_5ur, e128_5uv, e128_6, e128_6u, e128_7, e128_10, e128_13, e128_24, e128_24u, e128_25, e128_25u, isoN, np_len0, m127n h, np_aft_x, np_hn, Nat.reduceLT]
-- 129, 130, 131
theorem m129 : np_X 129 0 [some (.ref 0)] [] (np_S F L C fm k scr) = if sp_gng F = true then some (.inl none, np_S F L C fm k scr) else np_xo "java/lang/IllegalStateException" (np_S F L C fm (k + 1) scr) := by
  simp only [e129_0, e129_0u, e129_1, e129_4, e129_7, e129_10, e129_21, fldN0, np_b_s, isoG np_B1, np_len0, m31, np_aft_v, np_i0, bump]
  cases sp_gng F <;> simp
theorem m130 {f : Int32} (h : f = 0 ∨ f = 1) : np_X 130 0 [some (.int f)] [] (np_S F L C fm k scr) = some (.inl none, np_S F L C fm k scr) := by
  simp only [e130_0, e130_1, e130_4, e130_7, e130_18, np_len0, m132, np_aft_v, np_i0]
  rcases h with rfl | rfl <;> simp
theorem m131 {x y : Int32} : np_X 131 0 [some (.int x), some (.int y)] [] (np_S F L C fm k scr) = if sp_tray x y = true then some (.inl none, np_S F L C fm k scr) else np_xo "java/lang/IllegalArgumentException" (np_S F L C fm (k + 1) scr) := by
  simp only [e131_0, e131_1, e131_2, e131_5, e131_8, e131_19, np_len0, m133, np_aft_v, np_i0, bump]
  cases sp_tray x y <;> simp
-- the face's answers
theorem m75 (h : F 1 4 = 0 ∨ F 1 4 = 1) : np_X 75 0 [some (.ref 0)] [] (np_S F L C fm k scr) = np_o (F 1 4) (np_S F L C fm k scr) := by
  have hn : narrow .boolean (.int (F 1 4)) = .int (F 1 4) := by rcases h with h | h <;> rw [h] <;> rfl
  simp only [e75_0, e75_0u, e75_1, e75_4, e75_7, fldN0, fldG np_B1 (show 3 ≤ 4 ∧ 4 < 12 ∧ ¬ 4 = 10 by decide), np_b_s, hn]
theorem m76 : np_X 76 0 [some (.ref 0)] [] (np_S F L C fm k scr) = np_o (np_i (sp_ovr F)) (np_S F L C fm k scr) := by
  simp only [e76_0, e76_0u, e76_1, e76_4, e76_7, fldN0, np_b_s, isoG np_B1, np_len0, m30, np_aft_v, np_nb]
def sp_win (F : Nat → Nat → Int32) : Int32 := if 0 < F 3 1 then 0 else 1
theorem m77 : np_X 77 0 [some (.ref 0)] [] (np_S F L C fm k scr) = if sp_ovr F = true then np_o (sp_win F) (np_S F L C fm k scr) else np_xo "java/lang/IllegalStateException" (np_S F L C fm (k + 1) scr) := by
  simp only [e77_0, e77_0u, e77_1, e77_4, e77_7, e77_10, e77_20, e77_20u, e77_21, e77_24, e77_25, e77_28, e77_31, e77_34, e77_35, e77_38, e77_39, fldN0, np_b_s, isoG np_B1, np_len0, m30, m29, np_aft_v, np_i0, bump, sp_aco, if_true, fldA np_isA3 (show 1 < 8 by decide), np_ni, np_ri, sp_win]
  cases sp_ovr F <;> simp
theorem m78 : np_X 78 0 [some (.ref 0)] [] (np_S F L C fm k scr) = if sp_gng F = true then np_o (F 1 5) (np_S F L C fm k scr) else np_xo "java/lang/IllegalStateException" (np_S F L C fm (k + 1) scr) := by
  simp only [e78_0, e78_0u, e78_1, e78_4, e78_4u, e78_5, e78_8, e78_11, isoN, np_len0, m129, np_aft_if, np_aft_u, np_aft_x, np_hn, Nat.reduceLT, fldN0, np_b_s, fldG np_B1 (show 3 ≤ 5 ∧ 5 < 12 ∧ ¬ 5 = 10 by decide), np_ni]
theorem m79 : np_X 79 0 [some (.ref 0)] [] (np_S F L C fm k scr) = if sp_gng F = true then np_o (F 1 6) (np_S F L C fm k scr) else np_xo "java/lang/IllegalStateException" (np_S F L C fm (k + 1) scr) := by
  simp only [e79_0, e79_0u, e79_1, e79_4, e79_4u, e79_5, e79_8, e79_11, isoN, np_len0, m129, np_aft_if, np_aft_u, np_aft_x, np_hn, Nat.reduceLT, fldN0, np_b_s, fldG np_B1 (show 3 ≤ 6 ∧ 6 < 12 ∧ ¬ 6 = 10 by decide), np_ni]
theorem m80 : np_X 80 0 [some (.ref 0)] [] (np_S F L C fm k scr) = np_o (F 1 7) (np_S F L C fm k scr) := by
  simp only [e80_0, e80_0u, e80_1, e80_4, e80_7, fldN0, fldG np_B1 (show 3 ≤ 7 ∧ 7 < 12 ∧ ¬ 7 = 10 by decide), np_b_s, np_ni]
theorem m85 : np_X 85 0 [some (.ref 0)] [] (np_S F L C fm k scr) = np_o (F 1 3) (np_S F L C fm k scr) := by
  simp only [e85_0, e85_0u, e85_1, e85_4, e85_7, fldN0, fldG np_B1 (show 3 ≤ 3 ∧ 3 < 12 ∧ ¬ 3 = 10 by decide), np_b_s, np_ni]
theorem m108 : np_X 108 0 [some (.ref 0)] [] (np_S F L C fm k scr) = np_o (F 1 8) (np_S F L C fm k scr) := by
  simp only [e108_0, e108_0u, e108_1, e108_4, e108_7, fldN0, fldG np_B1 (show 3 ≤ 8 ∧ 8 < 12 ∧ ¬ 8 = 10 by decide), np_b_s, np_ni]
theorem m109 : np_X 109 0 [some (.ref 0)] [] (np_S F L C fm k scr) = np_o (F 1 9) (np_S F L C fm k scr) := by
  simp only [e109_0, e109_0u, e109_1, e109_4, e109_7, fldN0, fldG np_B1 (show 3 ≤ 9 ∧ 9 < 12 ∧ ¬ 9 = 10 by decide), np_b_s, np_ni]
theorem m111 : np_X 111 0 [some (.ref 0)] [] (np_S F L C fm k scr) = np_o (F 1 11) (np_S F L C fm k scr) := by
  simp only [e111_0, e111_0u, e111_1, e111_4, e111_7, fldN0, fldG np_B1 (show 3 ≤ 11 ∧ 11 < 12 ∧ ¬ 11 = 10 by decide), np_b_s, np_ni]
theorem m110 : np_X 110 0 [some (.ref 0)] [] (np_S F L C fm k scr) = np_vo (.long (L 1)) (np_S F L C fm k scr) := by
  simp only [e110_0, e110_0u, e110_1, e110_4, e110_7, fldN0, fldG10 np_B1, np_b_s]
theorem m86 {x : Int32} {j : Nat} (h : sp_num F x = some j) : np_X 86 0 [some (.ref 0), some (.int x)] [] (np_S F L C fm k scr) = np_o (F (5 + j) 1) (np_S F L C fm k scr) := by
  have hS := np_isS5 (sp_num_lt h).1
  simp only [e86_0, e86_0u, e86_1, e86_2, e86_5, e86_8, isoN, np_len0, m127s h, np_aft_v, fldS hS (show 1 < 9 by decide), np_b_s, np_ni]
theorem m89 {x : Int32} {j : Nat} (h : sp_num F x = some j) : np_X 89 0 [some (.ref 0), some (.int x)] [] (np_S F L C fm k scr) = np_o (F (5 + j) 4) (np_S F L C fm k scr) := by
  have hS := np_isS5 (sp_num_lt h).1
  simp only [e89_0, e89_0u, e89_1, e89_2, e89_5, e89_8, isoN, np_len0, m127s h, np_aft_v, fldS hS (show 4 < 9 by decide), np_b_s, np_ni]
theorem m90 {x : Int32} {j : Nat} (h : sp_num F x = some j) : np_X 90 0 [some (.ref 0), some (.int x)] [] (np_S F L C fm k scr) = np_o (F (5 + j) 6) (np_S F L C fm k scr) := by
  have hS := np_isS5 (sp_num_lt h).1
  simp only [e90_0, e90_0u, e90_1, e90_2, e90_5, e90_8, isoN, np_len0, m127s h, np_aft_v, fldS hS (show 6 < 9 by decide), np_b_s, np_ni]
theorem m91 {x : Int32} {j : Nat} (h : sp_num F x = some j) : np_X 91 0 [some (.ref 0), some (.int x)] [] (np_S F L C fm k scr) = np_o (F (5 + j) 5) (np_S F L C fm k scr) := by
  have hS := np_isS5 (sp_num_lt h).1
  simp only [e91_0, e91_0u, e91_1, e91_2, e91_5, e91_8, isoN, np_len0, m127s h, np_aft_v, fldS hS (show 5 < 9 by decide), np_b_s, np_ni]
theorem m87s {x : Int32} {j : Nat} (h : sp_num F x = some j) : np_X 87 0 [some (.ref 0), some (.int x)] [] (np_S F L C fm k scr) = if sp_aflo F (5 + j) = true then np_o (F (5 + j) 2) (np_S F L C fm k scr) else np_xo "java/util/NoSuchElementException" (np_S F L C fm (k + 1) scr) := by
  have hS := np_isS5 (sp_num_lt h).1
  simp only [e87_0, e87_0u, e87_1, e87_2, e87_5, e87_8, isoN, np_len0, m128s h, np_aft_if, np_aft_v, np_aft_x, np_hn, Nat.reduceLT, fldS hS (show 2 < 9 by decide), np_b_s, np_ni]
theorem m87n {x : Int32} (h : sp_num F x = none) : np_X 87 0 [some (.ref 0), some (.int x)] [] (np_S F L C fm k scr) = np_xo "java/lang/IndexOutOfBoundsException" (np_S F L C fm (k + 1) scr) := by
  simp only [e87_0, e87_0u, e87_1, e87_2, e87_5, e87_8, isoN, np_len0, m128n h, np_aft_x, np_hn, Nat.reduceLT]
theorem m88s {x : Int32} {j : Nat} (h : sp_num F x = some j) : np_X 88 0 [some (.ref 0), some (.int x)] [] (np_S F L C fm k scr) = if sp_aflo F (5 + j) = true then np_o (F (5 + j) 3) (np_S F L C fm k scr) else np_xo "java/util/NoSuchElementException" (np_S F L C fm (k + 1) scr) := by
  have hS := np_isS5 (sp_num_lt h).1
  simp only [e88_0, e88_0u, e88_1, e88_2, e88_5, e88_8, isoN, np_len0, m128s h, np_aft_if, np_aft_v, np_aft_x, np_hn, Nat.reduceLT, fldS hS (show 3 < 9 by decide), np_b_s, np_ni]
theorem m88n {x : Int32} (h : sp_num F x = none) : np_X 88 0 [some (.ref 0), some (.int x)] [] (np_S F L C fm k scr) = np_xo "java/lang/IndexOutOfBoundsException" (np_S F L C fm (k + 1) scr) := by
  simp only [e88_0, e88_0u, e88_1, e88_2, e88_5, e88_8, isoN, np_len0, m128n h, np_aft_x, np_hn, Nat.reduceLT]
theorem m94s {x : Int32} {j : Nat} (h : sp_num F x = some j) : np_X 94 0 [some (.ref 0), some (.int x)] [] (np_S F L C fm k scr) = if sp_aflo F (5 + j) = true then np_o (F (5 + j) 7) (np_S F L C fm k scr) else np_xo "java/util/NoSuchElementException" (np_S F L C fm (k + 1) scr) := by
  have hS := np_isS5 (sp_num_lt h).1
  simp only [e94_0, e94_0u, e94_1, e94_2, e94_5, e94_8, isoN, np_len0, m128s h, np_aft_if, np_aft_v, np_aft_x, np_hn, Nat.reduceLT, fldS hS (show 7 < 9 by decide), np_b_s, np_ni]
theorem m94n {x : Int32} (h : sp_num F x = none) : np_X 94 0 [some (.ref 0), some (.int x)] [] (np_S F L C fm k scr) = np_xo "java/lang/IndexOutOfBoundsException" (np_S F L C fm (k + 1) scr) := by
  simp only [e94_0, e94_0u, e94_1, e94_2, e94_5, e94_8, isoN, np_len0, m128n h, np_aft_x, np_hn, Nat.reduceLT]
theorem m95s {x : Int32} {j : Nat} (h : sp_num F x = some j) : np_X 95 0 [some (.ref 0), some (.int x)] [] (np_S F L C fm k scr) = if sp_aflo F (5 + j) = true then np_o (F (5 + j) 8) (np_S F L C fm k scr) else np_xo "java/util/NoSuchElementException" (np_S F L C fm (k + 1) scr) := by
  have hS := np_isS5 (sp_num_lt h).1
  simp only [e95_0, e95_0u, e95_1, e95_2, e95_5, e95_8, isoN, np_len0, m128s h, np_aft_if, np_aft_v, np_aft_x, np_hn, Nat.reduceLT, fldS hS (show 8 < 9 by decide), np_b_s, np_ni]
theorem m95n {x : Int32} (h : sp_num F x = none) : np_X 95 0 [some (.ref 0), some (.int x)] [] (np_S F L C fm k scr) = np_xo "java/lang/IndexOutOfBoundsException" (np_S F L C fm (k + 1) scr) := by
  simp only [e95_0, e95_0u, e95_1, e95_2, e95_5, e95_8, isoN, np_len0, m128n h, np_aft_x, np_hn, Nat.reduceLT]
theorem m92 {x : Int32} {j : Nat} (h : sp_num F x = some j) : np_X 92 0 [some (.ref 0), some (.int x)] [] (np_S F L C fm k scr) = np_o (np_i (!sp_aflo F (5 + j))) (np_S F L C fm k scr) := by
  have hS := np_isS5 (sp_num_lt h).1
  simp only [e92_0, e92_0u, e92_1, e92_2, e92_5, e92_8, e92_11, e92_12, e92_15, e92_16, isoN, np_len0, m127s h, np_aft_v, isoS hS, m62 hS, np_i0, np_nb1, np_nb0]
  cases sp_aflo F (5 + j) <;> simp [np_i]
theorem m93 {x y : Int32} : np_X 93 0 [some (.ref 0), some (.int x), some (.int y), none] [] (np_S F L C fm k scr) = if sp_tray x y = true then (match sp_in F x y with | some j => np_o (F (5 + j) 0) (np_S F L C fm k scr) | none => np_xo "java/util/NoSuchElementException" (np_S F L C fm (k + 1) scr)) else np_xo "java/lang/IllegalArgumentException" (np_S F L C fm (k + 1) scr) := by
  cases hx : sp_in F x y with
  | none => simp only [e93_0, e93_1, e93_2, e93_5, e93_5u, e93_6, e93_9, e93_10, e93_11, e93_14n, e93_14i, e93_14r, e93_14v, e93_14un, e93_14ui, e93_14ur, e93_14uv, e93_15, e93_15u, e93_16, e93_16u, e93_19, e93_29, e93_29u, e93_30, e93_33, np_len0, m131, np_aft_if, np_aft_u, np_aft_x, np_hn, Nat.reduceLT, fldN0, np_b_s, isoG np_B1, m32, hx, np_sr, np_aft_v, bump]
  | some j =>
    have hj := sp_in_lt hx
    simp only [e93_0, e93_1, e93_2, e93_5, e93_5u, e93_6, e93_9, e93_10, e93_11, e93_14n, e93_14i, e93_14r, e93_14v, e93_14un, e93_14ui, e93_14ur, e93_14uv, e93_15, e93_15u, e93_16, e93_16u, e93_19, e93_29, e93_29u, e93_30, e93_33, np_len0, m131, np_aft_if, np_aft_u, np_aft_x, np_hn, Nat.reduceLT, fldN0, np_b_s, isoG np_B1, m32, hx, np_sr, np_aft_v, np_refS hj, fldS (np_isS5 hj) (show 0 < 9 by decide), np_ni]
def sp_hid (F : Nat → Nat → Int32) (a : Nat) : Bool := sp_aflo F a && (!decide (F a 7 = F a 2) || !decide (F a 8 = F a 3))
theorem m96 {x : Int32} {j : Nat} (h : sp_num F x = some j) : np_X 96 0 [some (.ref 0), some (.int x), none] [] (np_S F L C fm k scr) = np_o (np_i (sp_hid F (5 + j))) (np_S F L C fm k scr) := by
  have hS := np_isS5 (sp_num_lt h).1
  simp only [e96_0, e96_0u, e96_1, e96_2, e96_5n, e96_5i, e96_5r, e96_5v, e96_5un, e96_5ui, e96_5ur, e96_5uv, e96_6, e96_6u, e96_7, e96_10, e96_13, e96_13u, e96_14, e96_17, e96_17u, e96_18, e96_21, e96_24, e96_24u, e96_25, e96_28, e96_28u, e96_29, e96_32, e96_35, e96_36, e96_39, e96_40, isoN, np_len0, m127s h, np_aft_v, isoS hS, m62 hS, np_i0, fldS hS (show 7 < 9 by decide), fldS hS (show 8 < 9 by decide), fldS hS (show 2 < 9 by decide), fldS hS (show 3 < 9 by decide), np_b_s, np_nb1, np_nb0]
  unfold sp_hid
  cases sp_aflo F (5 + j) <;> by_cases h1 : F (5 + j) 7 = F (5 + j) 2 <;> by_cases h2 : F (5 + j) 8 = F (5 + j) 3 <;> simp [h1, h2, np_i]
theorem m98 {r : Int32} : np_X 98 0 [some (.ref 0), some (.int r), none] [] (np_S F L C fm k scr) = match sp_rnk F r with | some j => np_o (F (5 + j) 0) (np_S F L C fm k scr) | none => np_xo "java/util/NoSuchElementException" (np_S F L C fm (k + 1) scr) := by
  cases hx : sp_rnk F r with
  | none => simp only [e98_0, e98_0u, e98_1, e98_4, e98_5, e98_8n, e98_8i, e98_8r, e98_8v, e98_8un, e98_8ui, e98_8ur, e98_8uv, e98_9, e98_9u, e98_10, e98_10u, e98_13, e98_23, e98_23u, e98_24, e98_27, fldN0, np_b_s, isoG np_B1, np_len0, m33, hx, np_sr, np_aft_v, bump]
  | some j =>
    have hj : j < 12 := by
      have := sp_fnd_lt _ _ _ hx
      omega
    simp only [e98_0, e98_0u, e98_1, e98_4, e98_5, e98_8n, e98_8i, e98_8r, e98_8v, e98_8un, e98_8ui, e98_8ur, e98_8uv, e98_9, e98_9u, e98_10, e98_10u, e98_13, e98_23, e98_23u, e98_24, e98_27, fldN0, np_b_s, isoG np_B1, np_len0, m33, hx, np_sr, np_aft_v, np_refS hj, fldS (np_isS5 hj) (show 0 < 9 by decide), np_ni]
theorem m99 {x y : Int32} {i j : Nat} (h : sp_num F x = some i) (g : sp_num F y = some j) : np_X 99 0 [some (.ref 0), some (.int x), some (.int y), none, none] [] (np_S F L C fm k scr) = if (sp_aflo F (5 + i) && sp_aflo F (5 + j)) = true then np_o (sp_dist F (5 + i) (F (5 + j) 2) (F (5 + j) 3)) (np_S F L C fm k scr) else np_xo "java/util/NoSuchElementException" (np_S F L C fm (k + 1) scr) := by
  have hS := np_isS5 (sp_num_lt h).1
  have gS := np_isS5 (sp_num_lt g).1
  simp only [e99_0, e99_0u, e99_1, e99_2, e99_5n, e99_5i, e99_5r, e99_5v, e99_5un, e99_5ui, e99_5ur, e99_5uv, e99_6, e99_6u, e99_7, e99_8, e99_11n, e99_11i, e99_11r, e99_11v, e99_11un, e99_11ui, e99_11ur, e99_11uv, e99_13, e99_13u, e99_14, e99_17, e99_20, e99_20u, e99_22, e99_25, e99_28, e99_38, e99_38u, e99_39, e99_39u, e99_41, e99_44, e99_44u, e99_46, e99_49, e99_52, isoN, np_len0, m127s h, m127s g, np_aft_v, isoS hS, isoS gS, m62 hS, m62 gS, np_i0, fldS gS (show 2 < 9 by decide), fldS gS (show 3 < 9 by decide), np_b_s, m65 hS, bump, np_ni]
  cases sp_aflo F (5 + i) <;> cases sp_aflo F (5 + j) <;> simp
theorem m100 {x y z : Int32} {j : Nat} (h : sp_num F x = some j) : np_X 100 0 [some (.ref 0), some (.int x), some (.int y), some (.int z), none] [] (np_S F L C fm k scr) = if sp_tray y z = true then (if (sp_aflo F (5 + j) && !sp_isIn F (5 + j) y z) = true then np_o (sp_dir (y - F (5 + j) 2) (z - F (5 + j) 3)) (np_S F L C fm k scr) else np_xo "java/util/NoSuchElementException" (np_S F L C fm (k + 1) scr)) else np_xo "java/lang/IllegalArgumentException" (np_S F L C fm (k + 1) scr) := by
  have hS := np_isS5 (sp_num_lt h).1
  simp only [e100_0, e100_0u, e100_1, e100_2, e100_5n, e100_5i, e100_5r, e100_5v, e100_5un, e100_5ui, e100_5ur, e100_5uv, e100_7, e100_8, e100_9, e100_12, e100_12u, e100_14, e100_17, e100_20, e100_20u, e100_22, e100_23, e100_24, e100_27, e100_30, e100_40, e100_41, e100_41u, e100_43, e100_46, e100_47, e100_48, e100_48u, e100_50, e100_53, e100_54, e100_57, isoN, np_len0, m127s h, np_aft_v, m131, np_aft_if, np_aft_u, np_aft_x, np_hn, Nat.reduceLT, isoS hS, m62 hS, m64 hS, np_i0, fldS hS (show 2 < 9 by decide), fldS hS (show 3 < 9 by decide), np_b_s, m138, bump, np_ni]
  cases sp_tray y z <;> cases sp_aflo F (5 + j) <;> cases sp_isIn F (5 + j) y z <;> simp
theorem m101 {x y z : Int32} {j : Nat} (h : sp_num F x = some j) (ht : sp_tray y z = true) : np_X 101 0 [some (.ref 0), some (.int x), some (.int y), some (.int z), none] [] (np_S F L C fm k scr) = np_o (np_i (sp_rch F (5 + j) y z)) (np_S F L C fm k scr) := by
  have hS := np_isS5 (sp_num_lt h).1
  simp only [e101_0, e101_0u, e101_1, e101_2, e101_5n, e101_5i, e101_5r, e101_5v, e101_5un, e101_5ui, e101_5ur, e101_5uv, e101_7, e101_8, e101_9, e101_12, e101_12u, e101_14, e101_15, e101_16, e101_19, isoN, np_len0, m127s h, np_aft_v, m131, ht, if_true, np_aft_u, isoS hS, m67 hS, np_nb]
theorem m102 {x : Int32} {j : Nat} (h : sp_num F x = some j) : np_X 102 0 [some (.ref 0), some (.int x)] [] (np_S F L C fm k scr) = np_o (sp_tgs F (5 + j)) (np_S F L C fm k scr) := by
  have hS := np_isS5 (sp_num_lt h).1
  simp only [e102_0, e102_0u, e102_1, e102_4, e102_4u, e102_5, e102_6, e102_9, e102_12, fldN0, np_b_s, isoN, isoG np_B1, np_len0, List.length_cons, List.length_nil, Nat.reduceLeDiff, Nat.reduceAdd, m127s h, np_aft_v, m35 hS, np_ni]
theorem m103 {x : Int32} {j : Nat} (h : sp_num F x = some j) : np_X 103 0 [some (.ref 0), some (.int x)] [] (np_S F L C fm k scr) = np_o (sp_tcs F (5 + j)) (np_S F L C fm k scr) := by
  have hS := np_isS5 (sp_num_lt h).1
  simp only [e103_0, e103_0u, e103_1, e103_4, e103_4u, e103_5, e103_6, e103_9, e103_12, fldN0, np_b_s, isoN, isoG np_B1, np_len0, List.length_cons, List.length_nil, Nat.reduceLeDiff, Nat.reduceAdd, m127s h, np_aft_v, m36 hS, np_ni]
theorem m104 {x : Int32} {j : Nat} (h : sp_num F x = some j) : np_X 104 0 [some (.ref 0), some (.int x)] [] (np_S F L C fm k scr) = if sp_aflo F (5 + j) = true then np_o (nI (sp_ahd F (5 + j))) (np_S F L C fm k scr) else np_xo "java/util/NoSuchElementException" (np_S F L C fm (k + 1) scr) := by
  have hS := np_isS5 (sp_num_lt h).1
  simp only [e104_0, e104_0u, e104_1, e104_4, e104_4u, e104_5, e104_6, e104_9, e104_12, fldN0, np_b_s, isoN, isoG np_B1, np_len0, List.length_cons, List.length_nil, Nat.reduceLeDiff, Nat.reduceAdd, m128s h, np_aft_if, np_aft_v, np_aft_x, np_hn, Nat.reduceLT, m38 hS, np_ni]
theorem m97 {f : Int32} (h : f = 0 ∨ f = 1) : np_X 97 0 [some (.ref 0), some (.int f)] [] (np_S F L C fm k scr) = np_o (F (sp_aco f) 1) (np_S F L C fm k scr) := by
  simp only [e97_0, e97_1, e97_4, e97_4u, e97_5, e97_8, e97_9, e97_12, e97_15, np_len0, m130 h, np_aft_u, fldN0, np_b_s, isoG np_B1, m29, np_aft_v, fldA sp_aco_A (show 1 < 8 by decide), np_ni]
theorem m105 {f : Int32} (h : f = 0 ∨ f = 1) : np_X 105 0 [some (.ref 0), some (.int f)] [] (np_S F L C fm k scr) = np_o (F (sp_aco f) 2) (np_S F L C fm k scr) := by
  simp only [e105_0, e105_1, e105_4, e105_4u, e105_5, e105_8, e105_9, e105_12, e105_15, np_len0, m130 h, np_aft_u, fldN0, np_b_s, isoG np_B1, m29, np_aft_v, fldA sp_aco_A (show 2 < 8 by decide), np_ni]
theorem m106 {f : Int32} (h : f = 0 ∨ f = 1) : np_X 106 0 [some (.ref 0), some (.int f)] [] (np_S F L C fm k scr) = np_o (sp_cub F f) (np_S F L C fm k scr) := by
  simp only [e106_0, e106_1, e106_4, e106_4u, e106_5, e106_8, e106_9, e106_12, np_len0, m130 h, np_aft_u, fldN0, np_b_s, isoG np_B1, m40, np_aft_v, np_ni]
theorem m107 {f : Int32} (h : f = 0 ∨ f = 1) : np_X 107 0 [some (.ref 0), some (.int f)] [] (np_S F L C fm k scr) = np_o (sp_bal F (sp_aco f)) (np_S F L C fm k scr) := by
  simp only [e107_0, e107_1, e107_4, e107_4u, e107_5, e107_8, e107_9, e107_12, e107_15, np_len0, m130 h, np_aft_u, fldN0, np_b_s, isoG np_B1, m29, np_aft_v, isoA sp_aco_A, m10 sp_aco_A, np_ni]
end
