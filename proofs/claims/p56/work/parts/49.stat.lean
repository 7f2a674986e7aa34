/-! THE PURE PART, 19: shares and means, letters, rows. -/
section
variable {F : Nat → Nat → Int32} {L : Nat → Int64} {C : Nat → Nat → Int32} {fm k : Nat} {scr : nv_Scr}
theorem m117n (h : F 1 8 = 0) : np_X 117 0 [some (.ref 0)] [] (np_S F L C fm k scr) = np_xo "java/lang/ArithmeticException" (np_S F L C fm (k + 1) scr) := by
  simp only [e117_0, e117_0u, e117_1, e117_4, e117_7, e117_10, e117_21, e117_21u, e117_22, e117_25, e117_28, e117_29, e117_29u, e117_30, e117_33, e117_36, e117_37, e117_38, fldN0, fldG np_B1 (show 3 ≤ 8 ∧ 8 < 12 ∧ ¬ 8 = 10 by decide), np_b_s, h, if_true, bump]
theorem m117s (h : ¬ F 1 8 = 0) (hz : FP.fdiv (FP.i2f (F 1 9)) (FP.i2f (F 1 8)) &&& 0x7fffffff ≤ 0x7f800000) : np_X 117 0 [some (.ref 0)] [] (np_S F L C fm k scr) = np_vo (.float (FP.fdiv (FP.i2f (F 1 9)) (FP.i2f (F 1 8)))) (np_S F L C fm k scr) := by
  simp only [e117_0, e117_0u, e117_1, e117_4, e117_7, e117_10, e117_21, e117_21u, e117_22, e117_25, e117_28, e117_29, e117_29u, e117_30, e117_33, e117_36, e117_37, e117_38, fldN0, fldG np_B1 (show 3 ≤ 8 ∧ 8 < 12 ∧ ¬ 8 = 10 by decide), fldG np_B1 (show 3 ≤ 9 ∧ 9 < 12 ∧ ¬ 9 = 10 by decide), np_b_s, h, if_false, hz]
theorem m118n {f : Int32} (hf : f = 0 ∨ f = 1) (h : F (sp_aco f) 1 = 0) : np_X 118 0 [some (.ref 0), some (.int f), none] [] (np_S F L C fm k scr) = np_xo "java/lang/ArithmeticException" (np_S F L C fm (k + 1) scr) := by
  simp only [e118_0, e118_1, e118_4, e118_4u, e118_5, e118_8, e118_9, e118_12, e118_15n, e118_15i, e118_15r, e118_15v, e118_16, e118_17, e118_20, e118_31, e118_31u, e118_32, e118_35, e118_36, e118_39, e118_40, e118_41, e118_42, e118_43, np_len0, m130 hf, np_aft_u, fldN0, np_b_s, isoG np_B1, m29, np_aft_v, fldA sp_aco_A (show 1 < 8 by decide), h, if_true, bump]
theorem m118s {f : Int32} (hf : f = 0 ∨ f = 1) (h : ¬ F (sp_aco f) 1 = 0) (hz : FP.ddiv (FP.i2d (sp_cub F f)) (FP.i2d (F (sp_aco f) 1)) &&& 0x7fffffffffffffff ≤ 0x7ff0000000000000) : np_X 118 0 [some (.ref 0), some (.int f), none] [] (np_S F L C fm k scr) = np_vo (.double (FP.ddiv (FP.i2d (sp_cub F f)) (FP.i2d (F (sp_aco f) 1)))) (np_S F L C fm k scr) := by
  simp only [e118_0, e118_1, e118_4, e118_4u, e118_5, e118_8, e118_9, e118_12, e118_15n, e118_15i, e118_15r, e118_15v, e118_16, e118_17, e118_20, e118_31, e118_31u, e118_32, e118_35, e118_36, e118_39, e118_40, e118_41, e118_42, e118_43, np_len0, m130 hf, np_aft_u, fldN0, np_b_s, isoG np_B1, m29, np_aft_v, fldA sp_aco_A (show 1 < 8 by decide), h, if_false, m40, hz]
def sp_far (a b : Int32) : Int32 := if b < a then a - b else b - a
theorem m170 {a b : Int32} {σ : nv_St} : np_X 170 0 [some (.int a), some (.int b)] [] σ = np_o (sp_far a b) σ := by
  simp only [e170_0, e170_1, e170_2, e170_5, e170_6, e170_7, e170_8, e170_11, e170_12, e170_13, e170_14, np_ni, np_ri, sp_far]
def sp_ltr (F : Nat → Nat → Int32) (j : Nat) : Int32 := if F (5 + j) 1 = 0 then nI (97 + j) else nI (65 + j)
theorem tx_let : ∀ j, j < 12 → (((97 : Int32) + nI j).toUInt32 % 65536).toInt32 = nI (97 + j) ∧ (((65 : Int32) + nI j).toUInt32 % 65536).toInt32 = nI (65 + j) ∧ narrow .char (.int (nI (97 + j))) = .int (nI (97 + j)) ∧ narrow .char (.int (nI (65 + j))) = .int (nI (65 + j)) ∧ vp_nar .char (nI (97 + j)) = nI (97 + j) ∧ vp_nar .char (nI (65 + j)) = nI (65 + j) := by decide
theorem sp_ltr_n {j : Nat} (hj : j < 12) : vp_nar .char (sp_ltr F j) = sp_ltr F j ∧ narrow .char (.int (sp_ltr F j)) = .int (sp_ltr F j) := by
  obtain ⟨-, -, h3, h4, h5, h6⟩ := tx_let j hj
  unfold sp_ltr
  split
  · exact ⟨h5, h3⟩
  · exact ⟨h6, h4⟩
theorem m70 {j : Nat} (hj : j < 12) (h0 : F (5 + j) 0 = nI j) : np_X 70 0 [some (.ref (5 + j))] [] (np_S F L C fm k scr) = np_o (sp_ltr F j) (np_S F L C fm k scr) := by
  have hS := np_isS5 hj
  obtain ⟨h1, h2, h3, h4, -, -⟩ := tx_let j hj
  unfold sp_ltr
  by_cases h : F (5 + j) 1 = 0
  · simp only [e70_0, e70_0u, e70_1, e70_4, e70_7, e70_9, e70_12, e70_14, e70_14u, e70_15, e70_18, e70_19, e70_20, fldS hS (show 1 < 9 by decide), fldS hS (show 0 < 9 by decide), np_b_s, h, h0, if_true, h1, h3]
  · simp only [e70_0, e70_0u, e70_1, e70_4, e70_7, e70_9, e70_12, e70_14, e70_14u, e70_15, e70_18, e70_19, e70_20, fldS hS (show 1 < 9 by decide), fldS hS (show 0 < 9 by decide), np_b_s, h, h0, if_false, h2, h4]
/-- what stands in a cell of a row -/
def sp_chr (F : Nat → Nat → Int32) (y : Int32) (x : Nat) : Int32 := match sp_in F (nI x) y with
  | some j => sp_ltr F j
  | none => 46
theorem sp_chr_n {y : Int32} {x : Nat} : vp_nar .char (sp_chr F y x) = sp_chr F y x ∧ narrow .char (.int (sp_chr F y x)) = .int (sp_chr F y x) := by
  unfold sp_chr
  cases hx : sp_in F (nI x) y with
  | none => exact ⟨show vp_nar .char 46 = 46 by decide, show narrow .char (.int 46) = .int 46 from rfl⟩
  | some j => exact sp_ltr_n (sp_in_lt hx)
def np_lnC (F : Nat → Nat → Int32) (y : Int32) : Nat → Nat → (Nat → Nat → Int32) → (Nat → Nat → Int32)
  | _, 0, C => C
  | i, cnt + 1, C => np_lnC F y (i + 1) cnt (np_uC C 182 i (sp_chr F y i))
theorem np_lnC_at {y : Int32} : ∀ (cnt i : Nat) (C : Nat → Nat → Int32) (x : Nat), np_lnC F y i cnt C 182 x = if i ≤ x ∧ x < i + cnt then sp_chr F y x else C 182 x
  | 0, i, C, x => by
    rw [if_neg (by omega)]
    rfl
  | cnt + 1, i, C, x => by
    have := np_lnC_at (y := y) cnt (i + 1) (np_uC C 182 i (sp_chr F y i)) x
    show np_lnC F y (i + 1) cnt (np_uC C 182 i (sp_chr F y i)) 182 x = _
    rw [this]
    by_cases h1 : i + 1 ≤ x ∧ x < i + 1 + cnt
    · rw [if_pos h1, if_pos ⟨by omega, by omega⟩]
    · rw [if_neg h1]
      by_cases h2 : x = i
      · subst h2
        rw [if_pos ⟨by omega, by omega⟩]
        exact if_pos ⟨rfl, rfl⟩
      · rw [if_neg (by omega)]
        exact if_neg (fun q => h2 q.2)
theorem np_of10 : Int32.ofNat 10 = 10 := id rfl
end
section
variable {F : Nat → Nat → Int32} {L : Nat → Int64} {fm k : Nat} {scr : nv_Scr}
theorem l115 (h0 : ∀ j, j < 12 → F (5 + j) 0 = nI j) {y : Int32} : ∀ (cnt i : Nat), i + cnt = 10 → ∀ (C : Nat → Nat → Int32) (l3 : Option Value), np_X 115 7 [some (.ref 0), some (.int y), some (.int (nI i)), l3] [] (np_S F L C fm k scr) = np_o 10 (np_S (np_u F 0 6 10) L (np_lnC F y i cnt C) fm k scr)
  | 0, i, h, C, l3 => by
    obtain rfl : i = 10 := by omega
    have e : np_u F 0 6 10 0 6 = 10 := np_u_eq
    rw [e115_7]
    simp only [e115_0, e115_1, e115_2, e115_5, e115_6n, e115_6i, e115_6r, e115_6v, e115_8, e115_8u, e115_9, e115_12, e115_13, e115_16, e115_16u, e115_17, e115_20, e115_21, e115_22, e115_25n, e115_25i, e115_25r, e115_25v, e115_25un, e115_25ui, e115_25ur, e115_25uv, e115_26, e115_26u, e115_27, e115_30, e115_31, e115_31u, e115_32, e115_32u, e115_35, e115_37, e115_40, e115_40u, e115_41, e115_44, e115_45n, e115_45i, e115_45r, e115_45v, e115_48, e115_51, e115_51u, e115_52, e115_52u, e115_53, e115_56, e115_57, e115_60, e115_60u, e115_61, e115_64, fldN5, np_b_s, len182, np_of10, np_nlt10, if_false, stoN (show 6 ≤ 6 ∧ 6 < 11 by decide), fldN (show 6 ≤ 6 ∧ 6 < 11 by decide), e, np_ni, np_lnC]
  | cnt + 1, i, h, C, l3 => by
    have hi : i < 10 := by omega
    have ih := l115 h0 (y := y) cnt (i + 1) (by omega) (np_uC C 182 i (sp_chr F y i))
    have hn := (sp_chr_n (F := F) (y := y) (x := i)).1
    rw [e115_7]
    cases hx : sp_in F (nI i) y with
    | none =>
      have hc : sp_chr F y i = 46 := by unfold sp_chr; rw [hx]
      rw [hc] at ih hn
      simp only [e115_0, e115_1, e115_2, e115_5, e115_6n, e115_6i, e115_6r, e115_6v, e115_8, e115_8u, e115_9, e115_12, e115_13, e115_16, e115_16u, e115_17, e115_20, e115_21, e115_22, e115_25n, e115_25i, e115_25r, e115_25v, e115_25un, e115_25ui, e115_25ur, e115_25uv, e115_26, e115_26u, e115_27, e115_30, e115_31, e115_31u, e115_32, e115_32u, e115_35, e115_37, e115_40, e115_40u, e115_41, e115_44, e115_45n, e115_45i, e115_45r, e115_45v, e115_48, e115_51, e115_51u, e115_52, e115_52u, e115_53, e115_56, e115_57, e115_60, e115_60u, e115_61, e115_64, fldN0, fldN5, np_b_s, len182, np_of10, np_lt10 hi, if_true, isoG np_B1, np_len0, m32, hx, np_sr, np_aft_v, hn, wr182 hi, nI_1, ih, np_lnC, hc]
    | some j =>
      have hj := sp_in_lt hx
      have hc : sp_chr F y i = sp_ltr F j := by unfold sp_chr; rw [hx]
      rw [hc] at ih hn
      simp only [e115_0, e115_1, e115_2, e115_5, e115_6n, e115_6i, e115_6r, e115_6v, e115_8, e115_8u, e115_9, e115_12, e115_13, e115_16, e115_16u, e115_17, e115_20, e115_21, e115_22, e115_25n, e115_25i, e115_25r, e115_25v, e115_25un, e115_25ui, e115_25ur, e115_25uv, e115_26, e115_26u, e115_27, e115_30, e115_31, e115_31u, e115_32, e115_32u, e115_35, e115_37, e115_40, e115_40u, e115_41, e115_44, e115_45n, e115_45i, e115_45r, e115_45v, e115_48, e115_51, e115_51u, e115_52, e115_52u, e115_53, e115_56, e115_57, e115_60, e115_60u, e115_61, e115_64, fldN0, fldN5, np_b_s, len182, np_of10, np_lt10 hi, if_true, isoG np_B1, isoS (np_isS5 hj), List.length_cons, List.length_nil, Nat.reduceLeDiff, Nat.reduceAdd, np_len0, m32, hx, np_sr, np_aft_v, np_refS hj, m70 hj (h0 j hj), hn, wr182 hi, nI_1, ih, np_lnC, hc]
theorem m115 (h0 : ∀ j, j < 12 → F (5 + j) 0 = nI j) {y : Int32} (hy : sp_tray 0 y = true) {C : Nat → Nat → Int32} : np_X 115 0 [some (.ref 0), some (.int y), none, none] [] (np_S F L C fm k scr) = np_o 10 (np_S (np_u F 0 6 10) L (np_lnC F y 0 10 C) fm k scr) := by
  have h := l115 (F := F) (L := L) (fm := fm) (k := k) (scr := scr) h0 (y := y) 10 0 rfl C none
  rw [nI_0] at h
  simp only [e115_0, e115_1, e115_2, e115_5, e115_6n, e115_6i, e115_6r, e115_6v, e115_8, e115_8u, e115_9, e115_12, e115_13, e115_16, e115_16u, e115_17, e115_20, e115_21, e115_22, e115_25n, e115_25i, e115_25r, e115_25v, e115_25un, e115_25ui, e115_25ur, e115_25uv, e115_26, e115_26u, e115_27, e115_30, e115_31, e115_31u, e115_32, e115_32u, e115_35, e115_37, e115_40, e115_40u, e115_41, e115_44, e115_45n, e115_45i, e115_45r, e115_45v, e115_48, e115_51, e115_51u, e115_52, e115_52u, e115_53, e115_56, e115_57, e115_60, e115_60u, e115_61, e115_64, np_len0, m131, hy, if_true, np_aft_u, h]
theorem m116 {C : Nat → Nat → Int32} {x : Nat} (hx : x < 10) (h6 : F 0 6 = 10) (hn : narrow .char (.int (C 182 x)) = .int (C 182 x)) : np_X 116 0 [some (.ref 0), some (.int (nI x))] [] (np_S F L C fm k scr) = np_o (C 182 x) (np_S F L C fm k scr) := by
  simp only [e116_0, e116_1, e116_4, e116_5, e116_5u, e116_6, e116_9, e116_12, e116_13, e116_13u, e116_14, e116_17, e116_18, e116_21, e116_32, e116_32u, e116_33, e116_36, e116_37, e116_38, np_lt0 (show x < 1000 by omega), if_false, fldN (show 6 ≤ 6 ∧ 6 < 11 by decide), h6, fldN5, np_b_s, len182, np_of10, np_lt10 hx, if_true, rd182 hx, hn]
end
