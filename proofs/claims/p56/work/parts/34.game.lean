/-! THE PURE PART, 4: what the game answers: loops over the spoons. The game is the object 1, its row 2, its spoons 5 to 16. -/
theorem np_lt12 {i : Nat} (h : i < 12) : (nI i < 12) = True := eq_true (nI_lt (b := 12) h (by decide))
theorem np_nlt12 : (nI 12 < 12) = False := eq_false (nI_nlt (a := 12) (b := 12) (Nat.le_refl _) (by decide))
theorem np_lt10 {i : Nat} (h : i < 10) : (nI i < 10) = True := eq_true (nI_lt (b := 10) h (by decide))
theorem np_nlt10 : (nI 10 < 10) = False := eq_false (nI_nlt (a := 10) (b := 10) (Nat.le_refl _) (by decide))
theorem np_of12 : Int32.ofNat 12 = 12 := id rfl
theorem np_it {α : Type} {c : Prop} {d : Decidable c} {a b : α} (h : c) : @ite _ c d a b = a := if_pos h
theorem np_ib {α : Type} {y : Bool} {d : Decidable (y = false)} {a b : α} : @ite _ (y = false) d a b = if y = true then b else a := by cases y <;> simp
/-- the first that fits -/
def sp_fnd (p : Nat → Bool) : Nat → Nat → Option Nat
  | _, 0 => none
  | i, n + 1 => if p i = true then some i else sp_fnd p (i + 1) n
def sp_fold (g : Nat → Int32 → Int32) : Nat → Nat → Int32 → Int32
  | _, 0, acc => acc
  | i, n + 1, acc => sp_fold g (i + 1) n (g i acc)
def sp_any (p : Nat → Bool) : Nat → Nat → Bool
  | _, 0 => false
  | i, n + 1 => p i || sp_any p (i + 1) n
theorem sp_fnd_s {p : Nat → Bool} {i n : Nat} : sp_fnd p i (n + 1) = if p i = true then some i else sp_fnd p (i + 1) n := rfl
theorem sp_fold_s {g : Nat → Int32 → Int32} {i n : Nat} {acc : Int32} : sp_fold g i (n + 1) acc = sp_fold g (i + 1) n (g i acc) := rfl
theorem sp_any_s {p : Nat → Bool} {i n : Nat} : sp_any p i (n + 1) = (p i || sp_any p (i + 1) n) := rfl
def np_sr (o : Option Nat) : Value := match o with
  | some i => .ref (5 + i)
  | none => .null
section
variable {F : Nat → Nat → Int32} {L : Nat → Int64} {C : Nat → Nat → Int32} {fm k : Nat} {scr : nv_Scr}
abbrev np_vo (v : Value) (σ : nv_St) : Option nv_Out := some (.inl (some v), σ)
-- 32 spoonIn
def sp_at (F : Nat → Nat → Int32) (x y : Int32) (i : Nat) : Bool := sp_aflo F (5 + i) && sp_isIn F (5 + i) x y
theorem l32 {x y : Int32} : ∀ (n i : Nat), i + n = 12 → ∀ l6 : Option Value, np_X 32 12 [some (.ref 1), some (.int x), some (.int y), some (.ref 2), some (.int 12), some (.int (nI i)), l6] [] (np_S F L C fm k scr) = np_vo (np_sr (sp_fnd (sp_at F x y) i n)) (np_S F L C fm k scr)
  | 0, i, h, l6 => by
    obtain rfl : i = 12 := by omega
    rw [e32_12]
    simp only [e32_0, e32_0u, e32_1, e32_4n, e32_4i, e32_4r, e32_4v, e32_4un, e32_4ui, e32_4ur, e32_4uv, e32_5, e32_5u, e32_6, e32_7n, e32_7i, e32_7r, e32_7v, e32_9, e32_10n, e32_10i, e32_10r, e32_10v, e32_14, e32_16, e32_19, e32_19u, e32_20, e32_22, e32_23n, e32_23i, e32_23r, e32_23v, e32_23un, e32_23ui, e32_23ur, e32_23uv, e32_25, e32_25u, e32_27, e32_30, e32_33, e32_33u, e32_35, e32_36, e32_37, e32_40, e32_43, e32_43u, e32_45, e32_45u, e32_46n, e32_46i, e32_46r, e32_46v, e32_49, e32_52, e32_53, e32_53u, np_nlt12, if_false, sp_fnd, np_sr]
  | n + 1, i, h, l6 => by
    have hi : i < 12 := by omega
    have ih := l32 (x := x) (y := y) n (i + 1) (by omega)
    have hS := np_isS5 hi
    rw [e32_12]
    simp only [e32_0, e32_0u, e32_1, e32_4n, e32_4i, e32_4r, e32_4v, e32_4un, e32_4ui, e32_4ur, e32_4uv, e32_5, e32_5u, e32_6, e32_7n, e32_7i, e32_7r, e32_7v, e32_9, e32_10n, e32_10i, e32_10r, e32_10v, e32_14, e32_16, e32_19, e32_19u, e32_20, e32_22, e32_23n, e32_23i, e32_23r, e32_23v, e32_23un, e32_23ui, e32_23ur, e32_23uv, e32_25, e32_25u, e32_27, e32_30, e32_33, e32_33u, e32_35, e32_36, e32_37, e32_40, e32_43, e32_43u, e32_45, e32_45u, e32_46n, e32_46i, e32_46r, e32_46v, e32_49, e32_52, e32_53, e32_53u, np_lt12 hi, if_true, rdR2 hi, np_b_s, isoS hS, m62 hS, m64 hS, np_len0, np_aft_v, np_i0, nI_1, ih]
    rw [sp_fnd_s, show sp_at F x y i = (sp_aflo F (5 + i) && sp_isIn F (5 + i) x y) from rfl]
    cases sp_aflo F (5 + i) <;> cases sp_isIn F (5 + i) x y <;> simp [np_sr]
def sp_in (F : Nat → Nat → Int32) (x y : Int32) : Option Nat := sp_fnd (sp_at F x y) 0 12
theorem m32 {x y : Int32} : np_X 32 0 [some (.ref 1), some (.int x), some (.int y), none, none, none, none] [] (np_S F L C fm k scr) = np_vo (np_sr (sp_in F x y)) (np_S F L C fm k scr) := by
  have h := l32 (F := F) (L := L) (C := C) (fm := fm) (k := k) (scr := scr) (x := x) (y := y) 12 0 rfl none
  rw [nI_0] at h
  simp only [e32_0, e32_0u, e32_1, e32_4n, e32_4i, e32_4r, e32_4v, e32_4un, e32_4ui, e32_4ur, e32_4uv, e32_5, e32_5u, e32_6, e32_7n, e32_7i, e32_7r, e32_7v, e32_9, e32_10n, e32_10i, e32_10r, e32_10v, e32_14, e32_16, e32_19, e32_19u, e32_20, e32_22, e32_23n, e32_23i, e32_23r, e32_23v, e32_23un, e32_23ui, e32_23ur, e32_23uv, e32_25, e32_25u, e32_27, e32_30, e32_33, e32_33u, e32_35, e32_36, e32_37, e32_40, e32_43, e32_43u, e32_45, e32_45u, e32_46n, e32_46i, e32_46r, e32_46v, e32_49, e32_52, e32_53, e32_53u, fldG0 np_B1, np_b_s, Nat.reduceAdd, lenR2, np_of12, h]
  rfl

-- 34 countRankedBefore
def sp_rkg (F : Nat → Nat → Int32) (b : Nat) (i : Nat) (acc : Int32) : Int32 := if (sp_aflo F (5 + i) && sp_bef F (5 + i) b) = true then acc + 1 else acc
theorem l34 {b : Nat} (hb : np_isS b) : ∀ (n i : Nat), i + n = 12 → ∀ (acc : Int32) (l6 : Option Value), np_X 34 14 [some (.ref 1), some (.ref b), some (.int acc), some (.ref 2), some (.int 12), some (.int (nI i)), l6] [] (np_S F L C fm k scr) = np_o (sp_fold (sp_rkg F b) i n acc) (np_S F L C fm k scr)
  | 0, i, h, acc, l6 => by
    obtain rfl : i = 12 := by omega
    rw [e34_14]
    simp only [e34_0, e34_1n, e34_1i, e34_1r, e34_1v, e34_2, e34_2u, e34_3, e34_6n, e34_6i, e34_6r, e34_6v, e34_6un, e34_6ui, e34_6ur, e34_6uv, e34_7, e34_7u, e34_8, e34_9n, e34_9i, e34_9r, e34_9v, e34_11, e34_12n, e34_12i, e34_12r, e34_12v, e34_16, e34_18, e34_21, e34_21u, e34_22, e34_24, e34_25n, e34_25i, e34_25r, e34_25v, e34_25un, e34_25ui, e34_25ur, e34_25uv, e34_27, e34_27u, e34_29, e34_32, e34_35, e34_35u, e34_37, e34_37u, e34_38, e34_41, e34_44n, e34_44i, e34_44r, e34_44v, e34_47n, e34_47i, e34_47r, e34_47v, e34_50, e34_53, e34_54, np_nlt12, if_false, sp_fold, np_ni]
  | n + 1, i, h, acc, l6 => by
    have hi : i < 12 := by omega
    have ih := l34 hb n (i + 1) (by omega)
    have hS := np_isS5 hi
    rw [e34_14]
    simp only [e34_0, e34_1n, e34_1i, e34_1r, e34_1v, e34_2, e34_2u, e34_3, e34_6n, e34_6i, e34_6r, e34_6v, e34_6un, e34_6ui, e34_6ur, e34_6uv, e34_7, e34_7u, e34_8, e34_9n, e34_9i, e34_9r, e34_9v, e34_11, e34_12n, e34_12i, e34_12r, e34_12v, e34_16, e34_18, e34_21, e34_21u, e34_22, e34_24, e34_25n, e34_25i, e34_25r, e34_25v, e34_25un, e34_25ui, e34_25ur, e34_25uv, e34_27, e34_27u, e34_29, e34_32, e34_35, e34_35u, e34_37, e34_37u, e34_38, e34_41, e34_44n, e34_44i, e34_44r, e34_44v, e34_47n, e34_47i, e34_47r, e34_47v, e34_50, e34_53, e34_54, np_lt12 hi, if_true, rdR2 hi, np_b_s, isoS hS, m62 hS, m69 hS hb, np_len0, np_aft_v, np_i0, nI_1, ih]
    rw [sp_fold_s, sp_rkg]
    cases sp_aflo F (5 + i) <;> cases sp_bef F (5 + i) b <;> simp
def sp_rkc (F : Nat → Nat → Int32) (b : Nat) : Int32 := sp_fold (sp_rkg F b) 0 12 0
theorem m34 {b : Nat} (hb : np_isS b) : np_X 34 0 [some (.ref 1), some (.ref b), none, none, none, none, none] [] (np_S F L C fm k scr) = np_o (sp_rkc F b) (np_S F L C fm k scr) := by
  have h := l34 (F := F) (L := L) (C := C) (fm := fm) (k := k) (scr := scr) hb 12 0 rfl 0 none
  rw [nI_0] at h
  simp only [e34_0, e34_1n, e34_1i, e34_1r, e34_1v, e34_2, e34_2u, e34_3, e34_6n, e34_6i, e34_6r, e34_6v, e34_6un, e34_6ui, e34_6ur, e34_6uv, e34_7, e34_7u, e34_8, e34_9n, e34_9i, e34_9r, e34_9v, e34_11, e34_12n, e34_12i, e34_12r, e34_12v, e34_16, e34_18, e34_21, e34_21u, e34_22, e34_24, e34_25n, e34_25i, e34_25r, e34_25v, e34_25un, e34_25ui, e34_25ur, e34_25uv, e34_27, e34_27u, e34_29, e34_32, e34_35, e34_35u, e34_37, e34_37u, e34_38, e34_41, e34_44n, e34_44i, e34_44r, e34_44v, e34_47n, e34_47i, e34_47r, e34_47v, e34_50, e34_53, e34_54, fldG0 np_B1, np_b_s, Nat.reduceAdd, lenR2, np_of12, h]
  rfl
-- 33 ranked
def sp_rkd (F : Nat → Nat → Int32) (r : Int32) (i : Nat) : Bool := sp_aflo F (5 + i) && decide (sp_rkc F (5 + i) = r)
theorem l33 {r : Int32} : ∀ (n i : Nat), i + n = 12 → ∀ l5 : Option Value, np_X 33 11 [some (.ref 1), some (.int r), some (.ref 2), some (.int 12), some (.int (nI i)), l5] [] (np_S F L C fm k scr) = np_vo (np_sr (sp_fnd (sp_rkd F r) i n)) (np_S F L C fm k scr)
  | 0, i, h, l5 => by
    obtain rfl : i = 12 := by omega
    rw [e33_11]
    simp only [e33_0, e33_0u, e33_1, e33_4n, e33_4i, e33_4r, e33_4v, e33_4un, e33_4ui, e33_4ur, e33_4uv, e33_5, e33_5u, e33_6, e33_7n, e33_7i, e33_7r, e33_7v, e33_8, e33_9n, e33_9i, e33_9r, e33_9v, e33_13, e33_14, e33_17, e33_17u, e33_18, e33_20, e33_21n, e33_21i, e33_21r, e33_21v, e33_21un, e33_21ui, e33_21ur, e33_21uv, e33_23, e33_23u, e33_25, e33_28, e33_31, e33_31u, e33_32, e33_32u, e33_34, e33_37, e33_38, e33_41, e33_41u, e33_43, e33_43u, e33_44n, e33_44i, e33_44r, e33_44v, e33_47, e33_50, e33_51, e33_51u, np_nlt12, if_false, sp_fnd, np_sr]
  | n + 1, i, h, l5 => by
    have hi : i < 12 := by omega
    have ih := l33 (r := r) n (i + 1) (by omega)
    have hS := np_isS5 hi
    rw [e33_11]
    simp only [e33_0, e33_0u, e33_1, e33_4n, e33_4i, e33_4r, e33_4v, e33_4un, e33_4ui, e33_4ur, e33_4uv, e33_5, e33_5u, e33_6, e33_7n, e33_7i, e33_7r, e33_7v, e33_8, e33_9n, e33_9i, e33_9r, e33_9v, e33_13, e33_14, e33_17, e33_17u, e33_18, e33_20, e33_21n, e33_21i, e33_21r, e33_21v, e33_21un, e33_21ui, e33_21ur, e33_21uv, e33_23, e33_23u, e33_25, e33_28, e33_31, e33_31u, e33_32, e33_32u, e33_34, e33_37, e33_38, e33_41, e33_41u, e33_43, e33_43u, e33_44n, e33_44i, e33_44r, e33_44v, e33_47, e33_50, e33_51, e33_51u, np_lt12 hi, if_true, rdR2 hi, np_b_s, isoS hS, isoG np_B1, m62 hS, m34 hS, np_len0, np_aft_v, np_i0, nI_1, ih]
    rw [sp_fnd_s, sp_rkd]
    cases sp_aflo F (5 + i) <;> by_cases hr : sp_rkc F (5 + i) = r <;> simp [np_sr, hr]
def sp_rnk (F : Nat → Nat → Int32) (r : Int32) : Option Nat := sp_fnd (sp_rkd F r) 0 12
theorem m33 {r : Int32} : np_X 33 0 [some (.ref 1), some (.int r), none, none, none, none] [] (np_S F L C fm k scr) = np_vo (np_sr (sp_rnk F r)) (np_S F L C fm k scr) := by
  have h := l33 (F := F) (L := L) (C := C) (fm := fm) (k := k) (scr := scr) (r := r) 12 0 rfl none
  rw [nI_0] at h
  simp only [e33_0, e33_0u, e33_1, e33_4n, e33_4i, e33_4r, e33_4v, e33_4un, e33_4ui, e33_4ur, e33_4uv, e33_5, e33_5u, e33_6, e33_7n, e33_7i, e33_7r, e33_7v, e33_8, e33_9n, e33_9i, e33_9r, e33_9v, e33_13, e33_14, e33_17, e33_17u, e33_18, e33_20, e33_21n, e33_21i, e33_21r, e33_21v, e33_21un, e33_21ui, e33_21ur, e33_21uv, e33_23, e33_23u, e33_25, e33_28, e33_31, e33_31u, e33_32, e33_32u, e33_34, e33_37, e33_38, e33_41, e33_41u, e33_43, e33_43u, e33_44n, e33_44i, e33_44r, e33_44v, e33_47, e33_50, e33_51, e33_51u, fldG0 np_B1, np_b_s, Nat.reduceAdd, lenR2, np_of12, h]
  rfl
-- 35 targetsBySpoons
def sp_tgg (F : Nat → Nat → Int32) (b : Nat) (i : Nat) (acc : Int32) : Int32 := if (sp_aflo F (5 + i) && decide (F (5 + i) 1 = 1 - F b 1) && sp_rch F b (F (5 + i) 2) (F (5 + i) 3)) = true then acc + 1 else acc
theorem l35 {b : Nat} (hb : np_isS b) : ∀ (n i : Nat), i + n = 12 → ∀ (acc : Int32) (l6 : Option Value), np_X 35 14 [some (.ref 1), some (.ref b), some (.int acc), some (.ref 2), some (.int 12), some (.int (nI i)), l6] [] (np_S F L C fm k scr) = np_o (sp_fold (sp_tgg F b) i n acc) (np_S F L C fm k scr)
  | 0, i, h, acc, l6 => by
    obtain rfl : i = 12 := by omega
    rw [e35_14]
    simp only [e35_0, e35_1n, e35_1i, e35_1r, e35_1v, e35_2, e35_2u, e35_3, e35_6n, e35_6i, e35_6r, e35_6v, e35_6un, e35_6ui, e35_6ur, e35_6uv, e35_7, e35_7u, e35_8, e35_9n, e35_9i, e35_9r, e35_9v, e35_11, e35_12n, e35_12i, e35_12r, e35_12v, e35_16, e35_18, e35_21, e35_21u, e35_22, e35_24, e35_25n, e35_25i, e35_25r, e35_25v, e35_25un, e35_25ui, e35_25ur, e35_25uv, e35_27, e35_27u, e35_29, e35_30, e35_30u, e35_31, e35_34, e35_35, e35_38, e35_41, e35_41u, e35_42, e35_42u, e35_44, e35_47, e35_47u, e35_49, e35_52, e35_55, e35_58n, e35_58i, e35_58r, e35_58v, e35_61n, e35_61i, e35_61r, e35_61v, e35_64, e35_67, e35_68, np_nlt12, if_false, sp_fold, np_ni]
  | n + 1, i, h, acc, l6 => by
    have hi : i < 12 := by omega
    have ih := l35 hb n (i + 1) (by omega)
    have hS := np_isS5 hi
    rw [e35_14]
    simp only [e35_0, e35_1n, e35_1i, e35_1r, e35_1v, e35_2, e35_2u, e35_3, e35_6n, e35_6i, e35_6r, e35_6v, e35_6un, e35_6ui, e35_6ur, e35_6uv, e35_7, e35_7u, e35_8, e35_9n, e35_9i, e35_9r, e35_9v, e35_11, e35_12n, e35_12i, e35_12r, e35_12v, e35_16, e35_18, e35_21, e35_21u, e35_22, e35_24, e35_25n, e35_25i, e35_25r, e35_25v, e35_25un, e35_25ui, e35_25ur, e35_25uv, e35_27, e35_27u, e35_29, e35_30, e35_30u, e35_31, e35_34, e35_35, e35_38, e35_41, e35_41u, e35_42, e35_42u, e35_44, e35_47, e35_47u, e35_49, e35_52, e35_55, e35_58n, e35_58i, e35_58r, e35_58v, e35_61n, e35_61i, e35_61r, e35_61v, e35_64, e35_67, e35_68, np_lt12 hi, if_true, rdR2 hi, np_b_s, isoS hS, isoS hb, fldS hb (show 1 < 9 by decide), fldS hS (show 2 < 9 by decide), fldS hS (show 3 < 9 by decide), m63 hS, m67 hb, np_len0, np_aft_v, np_i0, nI_1, ih]
    rw [sp_fold_s, sp_tgg]
    cases (sp_aflo F (5 + i) && decide (F (5 + i) 1 = 1 - F b 1)) <;> cases sp_rch F b (F (5 + i) 2) (F (5 + i) 3) <;> simp
def sp_tgs (F : Nat → Nat → Int32) (b : Nat) : Int32 := sp_fold (sp_tgg F b) 0 12 0
theorem m35 {b : Nat} (hb : np_isS b) : np_X 35 0 [some (.ref 1), some (.ref b), none, none, none, none, none] [] (np_S F L C fm k scr) = np_o (sp_tgs F b) (np_S F L C fm k scr) := by
  have h := l35 (F := F) (L := L) (C := C) (fm := fm) (k := k) (scr := scr) hb 12 0 rfl 0 none
  rw [nI_0] at h
  simp only [e35_0, e35_1n, e35_1i, e35_1r, e35_1v, e35_2, e35_2u, e35_3, e35_6n, e35_6i, e35_6r, e35_6v, e35_6un, e35_6ui, e35_6ur, e35_6uv, e35_7, e35_7u, e35_8, e35_9n, e35_9i, e35_9r, e35_9v, e35_11, e35_12n, e35_12i, e35_12r, e35_12v, e35_16, e35_18, e35_21, e35_21u, e35_22, e35_24, e35_25n, e35_25i, e35_25r, e35_25v, e35_25un, e35_25ui, e35_25ur, e35_25uv, e35_27, e35_27u, e35_29, e35_30, e35_30u, e35_31, e35_34, e35_35, e35_38, e35_41, e35_41u, e35_42, e35_42u, e35_44, e35_47, e35_47u, e35_49, e35_52, e35_55, e35_58n, e35_58i, e35_58r, e35_58v, e35_61n, e35_61i, e35_61r, e35_61v, e35_64, e35_67, e35_68, fldG0 np_B1, np_b_s, Nat.reduceAdd, lenR2, np_of12, h]
  rfl
theorem sp_fnd_lt {p : Nat → Bool} : ∀ (n i j : Nat), sp_fnd p i n = some j → i ≤ j ∧ j < i + n ∧ p j = true
  | 0, i, j, h => by cases h
  | n + 1, i, j, h => by
    rw [sp_fnd_s] at h
    split at h
    · rename_i hp
      cases h
      exact ⟨Nat.le_refl _, by omega, hp⟩
    · obtain ⟨h1, h2, h3⟩ := sp_fnd_lt n (i + 1) j h
      exact ⟨by omega, by omega, h3⟩
theorem sp_in_lt {x y : Int32} {j : Nat} (h : sp_in F x y = some j) : j < 12 := by
  have := sp_fnd_lt _ _ _ h
  omega
theorem np_refS {j : Nat} (h : j < 12) : (5 + j < 1000000) = True := eq_true (by omega)
-- 37 isHeldAgainst
def sp_hld (F : Nat → Nat → Int32) (b : Nat) (x y : Int32) : Bool := match sp_in F x y with
  | some i => !decide (F (5 + i) 1 = F b 1)
  | none => false
theorem m37 {b : Nat} {x y : Int32} (hb : np_isS b) : np_X 37 0 [some (.ref 1), some (.ref b), some (.int x), some (.int y), none] [] (np_S F L C fm k scr) = np_o (np_i (sp_hld F b x y)) (np_S F L C fm k scr) := by
  unfold sp_hld
  cases hx : sp_in F x y with
  | none => simp only [e37_0, e37_0u, e37_1, e37_2, e37_3, e37_6n, e37_6i, e37_6r, e37_6v, e37_6un, e37_6ui, e37_6ur, e37_6uv, e37_8, e37_8u, e37_10, e37_10u, e37_13, e37_13u, e37_15, e37_18, e37_18u, e37_19, e37_22, e37_25, e37_26, e37_29, e37_30, isoG np_B1, np_len0, m32, np_aft_v, hx, np_sr, np_nb0, np_i, if_false, Bool.false_eq_true]
  | some i =>
    have hi := sp_in_lt hx
    simp only [e37_0, e37_0u, e37_1, e37_2, e37_3, e37_6n, e37_6i, e37_6r, e37_6v, e37_6un, e37_6ui, e37_6ur, e37_6uv, e37_8, e37_8u, e37_10, e37_10u, e37_13, e37_13u, e37_15, e37_18, e37_18u, e37_19, e37_22, e37_25, e37_26, e37_29, e37_30, isoG np_B1, np_len0, m32, np_aft_v, hx, np_sr, np_refS hi, if_true, fldS (np_isS5 hi) (show 1 < 9 by decide), fldS hb (show 1 < 9 by decide), np_b_s, np_nb0, np_nb1, np_rn]
-- 36 targetsByCells
def sp_tcg (F : Nat → Nat → Int32) (b : Nat) (y : Int32) (i : Nat) (acc : Int32) : Int32 := if (sp_rch F b (nI i) y && sp_hld F b (nI i) y) = true then acc + 1 else acc
theorem l36i {b : Nat} (hb : np_isS b) {y : Int32} : ∀ (n i : Nat), i + n = 10 → ∀ (acc : Int32), np_X 36 13 [some (.ref 1), some (.ref b), some (.int acc), some (.int y), some (.int (nI i))] [] (np_S F L C fm k scr) = np_X 36 50 [some (.ref 1), some (.ref b), some (.int (sp_fold (sp_tcg F b y) i n acc)), some (.int y), some (.int (nI 10))] [] (np_S F L C fm k scr)
  | 0, i, h, acc => by
    obtain rfl : i = 10 := by omega
    rw [e36_13]
    simp only [e36_0, e36_1n, e36_1i, e36_1r, e36_1v, e36_2, e36_3n, e36_3i, e36_3r, e36_3v, e36_4, e36_5, e36_7, e36_10, e36_11n, e36_11i, e36_11r, e36_11v, e36_15, e36_17, e36_20, e36_20u, e36_21, e36_23, e36_24, e36_27, e36_30, e36_30u, e36_31, e36_31u, e36_32, e36_34, e36_35, e36_38, e36_41n, e36_41i, e36_41r, e36_41v, e36_44n, e36_44i, e36_44r, e36_44v, e36_47, e36_53, e36_56, e36_57, np_nlt10, if_false, sp_fold]
  | n + 1, i, h, acc => by
    have hi : i < 10 := by omega
    have ih := l36i hb (y := y) n (i + 1) (by omega)
    rw [e36_13]
    simp only [e36_0, e36_1n, e36_1i, e36_1r, e36_1v, e36_2, e36_3n, e36_3i, e36_3r, e36_3v, e36_4, e36_5, e36_7, e36_10, e36_11n, e36_11i, e36_11r, e36_11v, e36_15, e36_17, e36_20, e36_20u, e36_21, e36_23, e36_24, e36_27, e36_30, e36_30u, e36_31, e36_31u, e36_32, e36_34, e36_35, e36_38, e36_41n, e36_41i, e36_41r, e36_41v, e36_44n, e36_44i, e36_44r, e36_44v, e36_47, e36_53, e36_56, e36_57, np_lt10 hi, if_true, isoS hb, isoG np_B1, m67 hb, m37 hb, np_len0, np_aft_v, np_i0, nI_1, ih]
    rw [sp_fold_s, sp_tcg]
    cases sp_rch F b (nI i) y <;> cases sp_hld F b (nI i) y <;> simp
theorem l36 {b : Nat} (hb : np_isS b) : ∀ (n j : Nat), j + n = 10 → ∀ (acc : Int32) (l4 : Option Value), np_X 36 4 [some (.ref 1), some (.ref b), some (.int acc), some (.int (nI j)), l4] [] (np_S F L C fm k scr) = np_o (sp_fold (fun j acc => sp_fold (sp_tcg F b (nI j)) 0 10 acc) j n acc) (np_S F L C fm k scr)
  | 0, j, h, acc, l4 => by
    obtain rfl : j = 10 := by omega
    rw [e36_4]
    simp only [e36_0, e36_1n, e36_1i, e36_1r, e36_1v, e36_2, e36_3n, e36_3i, e36_3r, e36_3v, e36_5, e36_7, e36_10, e36_11n, e36_11i, e36_11r, e36_11v, e36_15, e36_17, e36_20, e36_20u, e36_21, e36_23, e36_24, e36_27, e36_30, e36_30u, e36_31, e36_31u, e36_32, e36_34, e36_35, e36_38, e36_41n, e36_41i, e36_41r, e36_41v, e36_44n, e36_44i, e36_44r, e36_44v, e36_47, e36_50n, e36_50i, e36_50r, e36_50v, e36_53, e36_56, e36_57, np_nlt10, if_false, sp_fold, np_ni]
  | n + 1, j, h, acc, l4 => by
    have hj : j < 10 := by omega
    have ih := l36 hb n (j + 1) (by omega)
    have hi := l36i (F := F) (L := L) (C := C) (fm := fm) (k := k) (scr := scr) hb (y := nI j) 10 0 rfl acc
    rw [nI_0] at hi
    rw [e36_4]
    simp only [e36_0, e36_1n, e36_1i, e36_1r, e36_1v, e36_2, e36_3n, e36_3i, e36_3r, e36_3v, e36_5, e36_7, e36_10, e36_11n, e36_11i, e36_11r, e36_11v, e36_15, e36_17, e36_20, e36_20u, e36_21, e36_23, e36_24, e36_27, e36_30, e36_30u, e36_31, e36_31u, e36_32, e36_34, e36_35, e36_38, e36_41n, e36_41i, e36_41r, e36_41v, e36_44n, e36_44i, e36_44r, e36_44v, e36_47, e36_50n, e36_50i, e36_50r, e36_50v, e36_53, e36_56, e36_57, np_lt10 hj, if_true, hi, nI_1, ih]
    rfl
def sp_tcs (F : Nat → Nat → Int32) (b : Nat) : Int32 := sp_fold (fun j acc => sp_fold (sp_tcg F b (nI j)) 0 10 acc) 0 10 0
theorem m36 {b : Nat} (hb : np_isS b) : np_X 36 0 [some (.ref 1), some (.ref b), none, none, none] [] (np_S F L C fm k scr) = np_o (sp_tcs F b) (np_S F L C fm k scr) := by
  have h := l36 (F := F) (L := L) (C := C) (fm := fm) (k := k) (scr := scr) hb 10 0 rfl 0 none
  rw [nI_0] at h
  simp only [e36_0, e36_1n, e36_1i, e36_1r, e36_1v, e36_2, e36_3n, e36_3i, e36_3r, e36_3v, e36_5, e36_7, e36_10, e36_11n, e36_11i, e36_11r, e36_11v, e36_15, e36_17, e36_20, e36_20u, e36_21, e36_23, e36_24, e36_27, e36_30, e36_30u, e36_31, e36_31u, e36_32, e36_34, e36_35, e36_38, e36_41n, e36_41i, e36_41r, e36_41v, e36_44n, e36_44i, e36_44r, e36_44v, e36_47, e36_50n, e36_50i, e36_50r, e36_50v, e36_53, e36_56, e36_57, h]
  rfl
-- 39 isFree, 38 freeAhead
def sp_fre (F : Nat → Nat → Int32) (x y : Int32) : Bool := sp_tray x y && (sp_in F x y).isNone
theorem m39 {x y : Int32} : np_X 39 0 [some (.ref 1), some (.int x), some (.int y)] [] (np_S F L C fm k scr) = np_o (np_i (sp_fre F x y)) (np_S F L C fm k scr) := by
  unfold sp_fre
  cases hx : sp_in F x y with
  | none =>
    simp only [e39_0, e39_1, e39_2, e39_5, e39_8, e39_8u, e39_9, e39_10, e39_11, e39_14, e39_14u, e39_17, e39_18, e39_21, e39_22, isoG np_B1, List.length_cons, List.length_nil, Nat.reduceLeDiff, Nat.reduceAdd, np_len0, m133, m32, np_aft_v, hx, np_i0, np_sr, np_nb0, np_nb1]
    cases sp_tray x y <;> simp [np_i]
  | some i =>
    have hi := sp_in_lt hx
    simp only [e39_0, e39_1, e39_2, e39_5, e39_8, e39_8u, e39_9, e39_10, e39_11, e39_14, e39_14u, e39_17, e39_18, e39_21, e39_22, isoG np_B1, List.length_cons, List.length_nil, Nat.reduceLeDiff, Nat.reduceAdd, np_len0, m133, m32, np_aft_v, hx, np_i0, np_sr, np_refS hi, if_true, np_nb0, np_nb1]
    cases sp_tray x y <;> simp [np_i]
def sp_run (p : Nat → Bool) : Nat → Nat → Nat
  | i, 0 => i
  | i, n + 1 => if p i = true then sp_run p (i + 1) n else i
theorem sp_run_s {p : Nat → Bool} {i n : Nat} : sp_run p i (n + 1) = if p i = true then sp_run p (i + 1) n else i := rfl
def sp_ahg (F : Nat → Nat → Int32) (b : Nat) (i : Nat) : Bool := sp_fre F (F b 2 + nI (i + 1) * sp_stepX (F b 4)) (F b 3 + nI (i + 1) * sp_stepY (F b 4))
theorem l38 {b : Nat} (hb : np_isS b) : ∀ (n i : Nat), i + n = 10 → np_X 38 19 [some (.ref 1), some (.ref b), some (.int (sp_stepX (F b 4))), some (.int (sp_stepY (F b 4))), some (.int (nI i))] [] (np_S F L C fm k scr) = np_o (nI (sp_run (sp_ahg F b) i n)) (np_S F L C fm k scr)
  | 0, i, h => by
    obtain rfl : i = 10 := by omega
    rw [e38_19]
    simp only [e38_0, e38_0u, e38_1, e38_4, e38_7n, e38_7i, e38_7r, e38_7v, e38_8, e38_8u, e38_9, e38_12, e38_15n, e38_15i, e38_15r, e38_15v, e38_16, e38_17n, e38_17i, e38_17r, e38_17v, e38_21, e38_23, e38_26, e38_26u, e38_27, e38_27u, e38_28, e38_31, e38_33, e38_34, e38_35, e38_36, e38_37, e38_38, e38_38u, e38_39, e38_42, e38_44, e38_45, e38_46, e38_47, e38_48, e38_49, e38_52, e38_55n, e38_55i, e38_55r, e38_55v, e38_58, e38_61, e38_63, np_nlt10, if_false, sp_run, np_ni]
  | n + 1, i, h => by
    have hi : i < 10 := by omega
    have ih := l38 hb n (i + 1) (by omega)
    rw [e38_19]
    simp only [e38_0, e38_0u, e38_1, e38_4, e38_7n, e38_7i, e38_7r, e38_7v, e38_8, e38_8u, e38_9, e38_12, e38_15n, e38_15i, e38_15r, e38_15v, e38_16, e38_17n, e38_17i, e38_17r, e38_17v, e38_21, e38_23, e38_26, e38_26u, e38_27, e38_27u, e38_28, e38_31, e38_33, e38_34, e38_35, e38_36, e38_37, e38_38, e38_38u, e38_39, e38_42, e38_44, e38_45, e38_46, e38_47, e38_48, e38_49, e38_52, e38_55n, e38_55i, e38_55r, e38_55v, e38_58, e38_61, e38_63, np_lt10 hi, if_true, isoG np_B1, fldS hb (show 2 < 9 by decide), fldS hb (show 3 < 9 by decide), np_b_s, m39, np_len0, np_aft_v, np_i0, nI_1, ih, np_ni]
    rw [sp_run_s, sp_ahg]
    cases sp_fre F (F b 2 + nI (i + 1) * sp_stepX (F b 4)) (F b 3 + nI (i + 1) * sp_stepY (F b 4)) <;> simp
def sp_ahd (F : Nat → Nat → Int32) (b : Nat) : Nat := sp_run (sp_ahg F b) 0 10
theorem m38 {b : Nat} (hb : np_isS b) : np_X 38 0 [some (.ref 1), some (.ref b), none, none, none] [] (np_S F L C fm k scr) = np_o (nI (sp_ahd F b)) (np_S F L C fm k scr) := by
  have h := l38 (F := F) (L := L) (C := C) (fm := fm) (k := k) (scr := scr) hb 10 0 rfl
  rw [nI_0] at h
  simp only [e38_0, e38_0u, e38_1, e38_4, e38_7n, e38_7i, e38_7r, e38_7v, e38_8, e38_8u, e38_9, e38_12, e38_15n, e38_15i, e38_15r, e38_15v, e38_16, e38_17n, e38_17i, e38_17r, e38_17v, e38_21, e38_23, e38_26, e38_26u, e38_27, e38_27u, e38_28, e38_31, e38_33, e38_34, e38_35, e38_36, e38_37, e38_38, e38_38u, e38_39, e38_42, e38_44, e38_45, e38_46, e38_47, e38_48, e38_49, e38_52, e38_55n, e38_55i, e38_55r, e38_55v, e38_58, e38_61, e38_63, fldS hb (show 4 < 9 by decide), np_b_s, m136, m137, np_len0, np_aft_v, h]
  rfl
-- 40 cubesBySpoons
def sp_cug (F : Nat → Nat → Int32) (f : Int32) (i : Nat) (acc : Int32) : Int32 := if (sp_aflo F (5 + i) && decide (F (5 + i) 1 = f)) = true then acc + F (5 + i) 6 else acc
theorem l40 {f : Int32} : ∀ (n i : Nat), i + n = 12 → ∀ (acc : Int32) (l6 : Option Value), np_X 40 14 [some (.ref 1), some (.int f), some (.int acc), some (.ref 2), some (.int 12), some (.int (nI i)), l6] [] (np_S F L C fm k scr) = np_o (sp_fold (sp_cug F f) i n acc) (np_S F L C fm k scr)
  | 0, i, h, acc, l6 => by
    obtain rfl : i = 12 := by omega
    rw [e40_14]
    simp only [e40_0, e40_1n, e40_1i, e40_1r, e40_1v, e40_2, e40_2u, e40_3, e40_6n, e40_6i, e40_6r, e40_6v, e40_6un, e40_6ui, e40_6ur, e40_6uv, e40_7, e40_7u, e40_8, e40_9n, e40_9i, e40_9r, e40_9v, e40_11, e40_12n, e40_12i, e40_12r, e40_12v, e40_16, e40_18, e40_21, e40_21u, e40_22, e40_24, e40_25n, e40_25i, e40_25r, e40_25v, e40_25un, e40_25ui, e40_25ur, e40_25uv, e40_27, e40_27u, e40_29, e40_30, e40_33, e40_36, e40_37, e40_37u, e40_39, e40_42, e40_43n, e40_43i, e40_43r, e40_43v, e40_44n, e40_44i, e40_44r, e40_44v, e40_47, e40_50, e40_51, np_nlt12, if_false, sp_fold, np_ni]
  | n + 1, i, h, acc, l6 => by
    have hi : i < 12 := by omega
    have ih := l40 (f := f) n (i + 1) (by omega)
    have hS := np_isS5 hi
    rw [e40_14]
    simp only [e40_0, e40_1n, e40_1i, e40_1r, e40_1v, e40_2, e40_2u, e40_3, e40_6n, e40_6i, e40_6r, e40_6v, e40_6un, e40_6ui, e40_6ur, e40_6uv, e40_7, e40_7u, e40_8, e40_9n, e40_9i, e40_9r, e40_9v, e40_11, e40_12n, e40_12i, e40_12r, e40_12v, e40_16, e40_18, e40_21, e40_21u, e40_22, e40_24, e40_25n, e40_25i, e40_25r, e40_25v, e40_25un, e40_25ui, e40_25ur, e40_25uv, e40_27, e40_27u, e40_29, e40_30, e40_33, e40_36, e40_37, e40_37u, e40_39, e40_42, e40_43n, e40_43i, e40_43r, e40_43v, e40_44n, e40_44i, e40_44r, e40_44v, e40_47, e40_50, e40_51, np_lt12 hi, if_true, rdR2 hi, np_b_s, isoS hS, m63 hS, fldS hS (show 6 < 9 by decide), np_len0, np_aft_v, np_i0, nI_1, ih]
    rw [sp_fold_s, sp_cug]
    cases (sp_aflo F (5 + i) && decide (F (5 + i) 1 = f)) <;> simp
def sp_cub (F : Nat → Nat → Int32) (f : Int32) : Int32 := sp_fold (sp_cug F f) 0 12 0
theorem m40 {f : Int32} : np_X 40 0 [some (.ref 1), some (.int f), none, none, none, none, none] [] (np_S F L C fm k scr) = np_o (sp_cub F f) (np_S F L C fm k scr) := by
  have h := l40 (F := F) (L := L) (C := C) (fm := fm) (k := k) (scr := scr) (f := f) 12 0 rfl 0 none
  rw [nI_0] at h
  simp only [e40_0, e40_1n, e40_1i, e40_1r, e40_1v, e40_2, e40_2u, e40_3, e40_6n, e40_6i, e40_6r, e40_6v, e40_6un, e40_6ui, e40_6ur, e40_6uv, e40_7, e40_7u, e40_8, e40_9n, e40_9i, e40_9r, e40_9v, e40_11, e40_12n, e40_12i, e40_12r, e40_12v, e40_16, e40_18, e40_21, e40_21u, e40_22, e40_24, e40_25n, e40_25i, e40_25r, e40_25v, e40_25un, e40_25ui, e40_25ur, e40_25uv, e40_27, e40_27u, e40_29, e40_30, e40_33, e40_36, e40_37, e40_37u, e40_39, e40_42, e40_43n, e40_43i, e40_43r, e40_43v, e40_44n, e40_44i, e40_44r, e40_44v, e40_47, e40_50, e40_51, fldG0 np_B1, np_b_s, Nat.reduceAdd, lenR2, np_of12, h]
  rfl
end
