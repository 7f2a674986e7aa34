/-! THE PURE PART, 7: the history, undo, snapshot, and what follows a change. -/
theorem np_lt8 {i : Nat} (h : i < 8) : (nI i < 8) = True := eq_true (nI_lt (b := 8) h (by decide))
theorem np_nlt8 {i : Nat} (h : 8 ≤ i) (hi : i < 1000) : (nI i < 8) = False := eq_false (nI_nlt (a := i) (b := 8) h (by omega))
theorem np_8lt {i : Nat} (h : i ≤ 8) : (8 < nI i) = False := eq_false (nI_nlt (a := 8) (b := i) h (by decide))
theorem np_8lt' {i : Nat} (h : 8 < i) (hi : i < 1000) : (8 < nI i) = True := eq_true (nI_lt (a := 8) (b := i) h (by omega))
theorem np_of8 : Int32.ofNat 8 = 8 := id rfl
theorem np_lt0 {i : Nat} (h : i < 1000) : (nI i < 0) = False := eq_false (nI_pos (by omega))
theorem np_0lt {i : Nat} (h0 : 0 < i) (h : i < 1000) : (0 < nI i) = True := eq_true (nI_0 ▸ nI_lt h0 (by omega))
theorem np_0nlt : (0 < nI 0) = False := by decide
theorem np_e0 {i : Nat} (h0 : 0 < i) (h : i < 1000) : (nI i = 0) = False := eq_false (nI_ne0 h0 (by omega))
theorem np_pr {i : Nat} : nI (i + 1) - 1 = nI i := nI_pred i
section
variable {F : Nat → Nat → Int32} {L : Nat → Int64} {C : Nat → Nat → Int32} {fm k : Nat} {scr : nv_Scr}
theorem np_cp_o {b c x j : Nat} (h : ¬ (b ≤ x ∧ x < b + 16)) : np_cp F b c x j = F x j := if_neg (fun q => h ⟨q.1, q.2.1⟩)
def np_nx (j : Nat) : Nat := if j + 1 < 8 then j + 1 else 0
def np_pv (j : Nat) : Nat := if 0 < j then j - 1 else 7
theorem np_nx_lt {j : Nat} : np_nx j < 8 := by unfold np_nx; split <;> omega
theorem np_pv_lt {j : Nat} (h : j < 8) : np_pv j < 8 := by unfold np_pv; split <;> omega
theorem np_pv_nx {j : Nat} (h : j < 8) : np_pv (np_nx j) = j := by unfold np_pv np_nx; split <;> split <;> omega
def np_psF (F : Nat → Nat → Int32) (j s : Nat) : Nat → Nat → Int32 := np_u (np_u (np_cp F (51 + 16 * j) 17) 49 1 (nI (np_nx j))) 49 2 (nI (min (s + 1) 8))
theorem m57 {j s : Nat} (hj : j < 8) (hs : s ≤ 8) (h1 : F 49 1 = nI j) (h2 : F 49 2 = nI s) (hB : F 17 4 = 0 ∨ F 17 4 = 1) : np_X 57 0 [some (.ref 49), some (.ref 17)] [] (np_S F L C fm k scr) = some (.inl none, np_S (np_psF F j s) (np_uL L (51 + 16 * j) (L 17)) C fm k scr) := by
  have ho : ∀ i, np_cp F (51 + 16 * j) 17 49 i = F 49 i := fun i => np_cp_o (by omega)
  have hb : np_B (51 + 16 * j) := np_B51 hj
  have hne : ¬ 51 + 16 * j = 17 := by omega
  simp only [e57_0, e57_0u, e57_1, e57_4, e57_7, e57_7u, e57_8, e57_11, e57_11u, e57_12, e57_15, e57_16, e57_19, e57_20, e57_20u, e57_21, e57_24, e57_24u, e57_25, e57_28, e57_29, e57_29u, e57_30, e57_33, e57_33u, e57_34, e57_34u, e57_35, e57_38, e57_39, e57_40, e57_40u, e57_41, e57_44, e57_45, e57_48, e57_48u, e57_49, e57_52, e57_53, e57_54, e57_57, e57_58, e57_61, e57_61u, e57_62, e57_62u, e57_63, e57_66, e57_67, e57_68, e57_68u, e57_69, e57_72, e57_73, e57_76, e57_79, fldH0, fldH1, fldH2, np_b_s, h1, np_lt0 (show j < 1000 by omega), if_false, len50, np_of8, np_lt8 hj, if_true, rd50 hj, isoG hb, np_len0, m27 hb np_B17 hne hB, np_aft_u, ho, nI_1, stoH1, stoH2, np_u_k (show ¬ 2 = 1 by decide), h2, List.length_cons, List.length_nil, Nat.reduceLeDiff, Nat.reduceAdd]
  unfold np_psF np_nx
  by_cases h3 : j + 1 < 8
  · by_cases h4 : s + 1 ≤ 8
    · simp only [np_lt8 h3, if_true, stoH1, np_b_s, fldH2, np_u_k (show ¬ 2 = 1 by decide), ho, h2, nI_1, np_8lt h4, if_false, stoH2, h3, Nat.min_eq_left h4]
    · simp [e57_0, e57_0u, e57_1, e57_4, e57_7, e57_7u, e57_8, e57_11, e57_11u, e57_12, e57_15, e57_16, e57_19, e57_20, e57_20u, e57_21, e57_24, e57_24u, e57_25, e57_28, e57_29, e57_29u, e57_30, e57_33, e57_33u, e57_34, e57_34u, e57_35, e57_38, e57_39, e57_40, e57_40u, e57_41, e57_44, e57_45, e57_48, e57_48u, e57_49, e57_52, e57_53, e57_54, e57_57, e57_58, e57_61, e57_61u, e57_62, e57_62u, e57_63, e57_66, e57_67, e57_68, e57_68u, e57_69, e57_72, e57_73, e57_76, e57_79, np_lt8 h3, h3, stoH1, np_b_s, fldH0, fldH2, np_u_k (show ¬ 2 = 1 by decide), ho, h2, nI_1, len50, np_of8, np_8lt' (show 8 < s + 1 by omega) (by omega), stoH2, Nat.min_eq_right (show 8 ≤ s + 1 by omega)]
      rfl
  · by_cases h4 : s + 1 ≤ 8
    · simp [e57_0, e57_0u, e57_1, e57_4, e57_7, e57_7u, e57_8, e57_11, e57_11u, e57_12, e57_15, e57_16, e57_19, e57_20, e57_20u, e57_21, e57_24, e57_24u, e57_25, e57_28, e57_29, e57_29u, e57_30, e57_33, e57_33u, e57_34, e57_34u, e57_35, e57_38, e57_39, e57_40, e57_40u, e57_41, e57_44, e57_45, e57_48, e57_48u, e57_49, e57_52, e57_53, e57_54, e57_57, e57_58, e57_61, e57_61u, e57_62, e57_62u, e57_63, e57_66, e57_67, e57_68, e57_68u, e57_69, e57_72, e57_73, e57_76, e57_79, np_nlt8 (show 8 ≤ j + 1 by omega) (by omega), h3, stoH1, np_b_s, fldH0, fldH2, np_u_k (show ¬ 2 = 1 by decide), ho, h2, nI_1, len50, np_of8, np_8lt h4, stoH2, Nat.min_eq_left h4, nI_0]
    · simp [e57_0, e57_0u, e57_1, e57_4, e57_7, e57_7u, e57_8, e57_11, e57_11u, e57_12, e57_15, e57_16, e57_19, e57_20, e57_20u, e57_21, e57_24, e57_24u, e57_25, e57_28, e57_29, e57_29u, e57_30, e57_33, e57_33u, e57_34, e57_34u, e57_35, e57_38, e57_39, e57_40, e57_40u, e57_41, e57_44, e57_45, e57_48, e57_48u, e57_49, e57_52, e57_53, e57_54, e57_57, e57_58, e57_61, e57_61u, e57_62, e57_62u, e57_63, e57_66, e57_67, e57_68, e57_68u, e57_69, e57_72, e57_73, e57_76, e57_79, np_nlt8 (show 8 ≤ j + 1 by omega) (by omega), h3, stoH1, np_b_s, fldH0, fldH2, np_u_k (show ¬ 2 = 1 by decide), ho, h2, nI_1, len50, np_of8, np_8lt' (show 8 < s + 1 by omega) (by omega), stoH2, Nat.min_eq_right (show 8 ≤ s + 1 by omega), nI_0]
      rfl

-- 58 pop, 59 clear, 120 undo
def np_ppF (F : Nat → Nat → Int32) (j s : Nat) : Nat → Nat → Int32 := np_u (np_u (np_cp F 1 (51 + 16 * np_pv j)) 49 1 (nI (np_pv j))) 49 2 (nI (s - 1))
theorem m58s {j s : Nat} (hj : j < 8) (hs : s ≤ 8) (h0 : 0 < s) (h1 : F 49 1 = nI j) (h2 : F 49 2 = nI s) (hB : F (51 + 16 * np_pv j) 4 = 0 ∨ F (51 + 16 * np_pv j) 4 = 1) : np_X 58 0 [some (.ref 49), some (.ref 1), none] [] (np_S F L C fm k scr) = np_o 1 (np_S (np_ppF F j s) (np_uL L 1 (L (51 + 16 * np_pv j))) C fm k scr) := by
  have hp := np_pv_lt hj
  have ho : ∀ i, np_cp F 1 (51 + 16 * np_pv j) 49 i = F 49 i := fun i => np_cp_o (by omega)
  have hb : np_B (51 + 16 * np_pv j) := np_B51 hp
  have hne : ¬ 1 = 51 + 16 * np_pv j := by omega
  obtain ⟨s, rfl⟩ : ∃ t, s = t + 1 := ⟨s - 1, by omega⟩
  have key : np_X 58 23 [some (.ref 49), some (.ref 1), none] [.int (nI (np_pv j))] (np_S F L C fm k scr) = np_o 1 (np_S (np_ppF F j (s + 1)) (np_uL L 1 (L (51 + 16 * np_pv j))) C fm k scr) := by
    simp only [e58_0, e58_0u, e58_1, e58_4, e58_7, e58_7u, e58_8, e58_11, e58_12, e58_13, e58_16, e58_16u, e58_17, e58_20, e58_21, e58_22, e58_23n, e58_23i, e58_23r, e58_23v, e58_24, e58_24u, e58_25, e58_28, e58_31, e58_32, e58_35, e58_36, e58_36u, e58_37, e58_40, e58_41, e58_44, e58_45, e58_46, e58_46u, e58_47, e58_47u, e58_48, e58_51, e58_52, e58_53, e58_56, e58_56u, e58_57, e58_58, e58_61, e58_61u, e58_62, e58_62i, e58_63, e58_66, e58_67, e58_68, e58_71, e58_72, fldH0, fldH2, np_b_s, h2, np_e0 (show 0 < s + 1 by omega) (show s + 1 < 1000 by omega), if_false, np_lt0 (show np_pv j < 1000 by omega), len50, np_of8, np_lt8 hp, if_true, rd50 hp, isoG np_B1, np_len0, m27 np_B1 hb hne hB, np_aft_u, stoH1, np_u_k (show ¬ 2 = 1 by decide), ho, np_pr, stoH2, np_nb1]
    rfl
  by_cases hz : 0 < j
  · obtain ⟨j, rfl⟩ : ∃ t, j = t + 1 := ⟨j - 1, by omega⟩
    have e : np_pv (j + 1) = j := by unfold np_pv; rw [if_pos (by omega)]; rfl
    rw [e] at key ⊢
    simp only [e58_0, e58_0u, e58_1, e58_4, e58_7, e58_7u, e58_8, e58_11, e58_12, e58_13, e58_16, e58_16u, e58_17, e58_20, e58_21, e58_22, e58_24, e58_24u, e58_25, e58_28, e58_31, e58_32, e58_35, e58_36, e58_36u, e58_37, e58_40, e58_41, e58_44, e58_45, e58_46, e58_46u, e58_47, e58_47u, e58_48, e58_51, e58_52, e58_53, e58_56, e58_56u, e58_57, e58_58, e58_61, e58_61u, e58_62, e58_62i, e58_63, e58_66, e58_67, e58_68, e58_71, e58_72, fldH1, np_b_s, h1, np_0lt (show 0 < j + 1 by omega) (show j + 1 < 1000 by omega), if_true, np_pr, key]
  · obtain rfl : j = 0 := by omega
    have e : np_pv 0 = 7 := rfl
    have e7 : (8 : Int32) - 1 = nI 7 := by decide
    rw [e] at key ⊢
    simp only [e58_0, e58_0u, e58_1, e58_4, e58_7, e58_7u, e58_8, e58_11, e58_12, e58_13, e58_16, e58_16u, e58_17, e58_20, e58_21, e58_22, e58_24, e58_24u, e58_25, e58_28, e58_31, e58_32, e58_35, e58_36, e58_36u, e58_37, e58_40, e58_41, e58_44, e58_45, e58_46, e58_46u, e58_47, e58_47u, e58_48, e58_51, e58_52, e58_53, e58_56, e58_56u, e58_57, e58_58, e58_61, e58_61u, e58_62, e58_62i, e58_63, e58_66, e58_67, e58_68, e58_71, e58_72, fldH0, fldH1, np_b_s, h1, np_0nlt, if_false, len50, np_of8, e7, key]
theorem m58n {j : Nat} (hj : j < 8) (h1 : F 49 1 = nI j) (h2 : F 49 2 = 0) : np_X 58 0 [some (.ref 49), some (.ref 1), none] [] (np_S F L C fm k scr) = np_o 0 (np_S F L C fm k scr) := by
  by_cases hz : 0 < j
  · simp only [e58_0, e58_0u, e58_1, e58_4, e58_7, e58_7u, e58_8, e58_11, e58_12, e58_13, e58_16, e58_16u, e58_17, e58_20, e58_21, e58_22, e58_23n, e58_23i, e58_23r, e58_23v, e58_24, e58_24u, e58_25, e58_28, e58_31, e58_32, e58_35, e58_36, e58_36u, e58_37, e58_40, e58_41, e58_44, e58_45, e58_46, e58_46u, e58_47, e58_47u, e58_48, e58_51, e58_52, e58_53, e58_56, e58_56u, e58_57, e58_58, e58_61, e58_61u, e58_62, e58_62i, e58_63, e58_66, e58_67, e58_68, e58_71, e58_72, fldH1, fldH2, np_b_s, h1, h2, np_0lt hz (show j < 1000 by omega), if_true, np_nb0]
  · obtain rfl : j = 0 := by omega
    simp only [e58_0, e58_0u, e58_1, e58_4, e58_7, e58_7u, e58_8, e58_11, e58_12, e58_13, e58_16, e58_16u, e58_17, e58_20, e58_21, e58_22, e58_23n, e58_23i, e58_23r, e58_23v, e58_24, e58_24u, e58_25, e58_28, e58_31, e58_32, e58_35, e58_36, e58_36u, e58_37, e58_40, e58_41, e58_44, e58_45, e58_46, e58_46u, e58_47, e58_47u, e58_48, e58_51, e58_52, e58_53, e58_56, e58_56u, e58_57, e58_58, e58_61, e58_61u, e58_62, e58_62i, e58_63, e58_66, e58_67, e58_68, e58_71, e58_72, fldH0, fldH1, fldH2, np_b_s, h1, h2, np_0nlt, if_false, if_true, len50, np_of8, np_nb0]
theorem m120s {j s : Nat} (hj : j < 8) (hs : s ≤ 8) (h0 : 0 < s) (h1 : F 49 1 = nI j) (h2 : F 49 2 = nI s) (hB : F (51 + 16 * np_pv j) 4 = 0 ∨ F (51 + 16 * np_pv j) 4 = 1) : np_X 120 0 [some (.ref 0)] [] (np_S F L C fm k scr) = np_o (nI (s - 1)) (np_S (np_ppF F j s) (np_uL L 1 (L (51 + 16 * np_pv j))) C fm k scr) := by
  have e : np_ppF F j s 49 2 = nI (s - 1) := np_u_eq
  have e1 : ((1 : Int32) = 0) = False := by decide
  simp only [e120_0, e120_0u, e120_1, e120_4, e120_4u, e120_5, e120_8, e120_11, e120_14, e120_25, e120_25u, e120_26, e120_29, e120_32, fldN0, fldN3, np_b_s, isoH, np_len0, m58s hj hs h0 h1 h2 hB, np_aft_v, fldH2, e, e1, if_false, np_ni]
theorem m120n {j : Nat} (hj : j < 8) (h1 : F 49 1 = nI j) (h2 : F 49 2 = 0) : np_X 120 0 [some (.ref 0)] [] (np_S F L C fm k scr) = np_xo "java/lang/IllegalStateException" (np_S F L C fm (k + 1) scr) := by
  simp only [e120_0, e120_0u, e120_1, e120_4, e120_4u, e120_5, e120_8, e120_11, e120_14, e120_25, e120_25u, e120_26, e120_29, e120_32, fldN0, fldN3, np_b_s, isoH, np_len0, m58n hj h1 h2, np_aft_v, if_true, bump]
theorem m59 : np_X 59 0 [some (.ref 49)] [] (np_S F L C fm k scr) = some (.inl none, np_S (np_u F 49 2 0) L C fm k scr) := by
  simp only [e59_0, e59_0u, e59_1, e59_2, e59_5, stoH2, np_b_s]
-- 121 save, 122 restore
theorem m121 (hB : F 1 4 = 0 ∨ F 1 4 = 1) : np_X 121 0 [some (.ref 0)] [] (np_S F L C fm k scr) = np_o (F 1 3) (np_S (np_u (np_cp F 33 1) 0 7 1) (np_uL L 33 (L 1)) C fm k scr) := by
  have e : np_u (np_cp F 33 1) 0 7 1 1 3 = F 1 3 := by
    rw [np_u_a (by omega)]
    exact np_cp_o (by omega)
  simp only [e121_0, e121_0u, e121_1, e121_4, e121_4u, e121_5, e121_8, e121_11, e121_11u, e121_12, e121_13, e121_16, e121_16u, e121_17, e121_20, e121_23, fldN0, fldN2, np_b_s, isoG np_B33, np_len0, m27 np_B33 np_B1 (show ¬ 33 = 1 by decide) hB, np_aft_u, stoN7 (Or.inr rfl), fldG np_B1 (show 3 ≤ 3 ∧ 3 < 12 ∧ ¬ 3 = 10 by decide), np_ni, e]
def np_rsF (F : Nat → Nat → Int32) : Nat → Nat → Int32 := np_u (np_cp F 1 33) 49 2 0
theorem m122s (h : F 0 7 = 1) (hB : F 33 4 = 0 ∨ F 33 4 = 1) : np_X 122 0 [some (.ref 0)] [] (np_S F L C fm k scr) = np_o (F 33 3) (np_S (np_rsF F) (np_uL L 1 (L 33)) C fm k scr) := by
  have e : np_u (np_cp F 1 33) 49 2 0 1 3 = F 33 3 := by
    rw [np_u_a (by omega)]
    exact if_pos ⟨by omega, by omega, Or.inl ⟨rfl, by omega, by omega, by omega⟩⟩
  have e1 : ((1 : Int32) = 0) = False := by decide
  simp only [e122_0, e122_0u, e122_1, e122_4, e122_7, e122_18, e122_18u, e122_19, e122_22, e122_22u, e122_23, e122_26, e122_29, e122_29u, e122_30, e122_33, e122_36, e122_36u, e122_37, e122_40, e122_43, fldN0, fldN2, fldN3, fldN (show 6 ≤ 7 ∧ 7 < 11 by decide), h, e1, if_false, np_b_s, isoG np_B1, isoH, np_len0, m27 np_B1 np_B33 (show ¬ 1 = 33 by decide) hB, np_aft_u, m59, fldG np_B1 (show 3 ≤ 3 ∧ 3 < 12 ∧ ¬ 3 = 10 by decide), np_ni, e]
  rfl
theorem m122n (h : F 0 7 = 0) : np_X 122 0 [some (.ref 0)] [] (np_S F L C fm k scr) = np_xo "java/lang/IllegalStateException" (np_S F L C fm (k + 1) scr) := by
  simp only [e122_0, e122_0u, e122_1, e122_4, e122_7, e122_18, e122_18u, e122_19, e122_22, e122_22u, e122_23, e122_26, e122_29, e122_29u, e122_30, e122_33, e122_36, e122_36u, e122_37, e122_40, e122_43, fldN (show 6 ≤ 7 ∧ 7 < 11 by decide), h, if_true, np_b_s, bump]
-- 124 keepReason, 123 concluded
def np_krF (F : Nat → Nat → Int32) (x : Int32) : Nat → Nat → Int32 := if x < -10 then np_u F 0 8 (-10 - x) else F
theorem m124 {x : Int32} : np_X 124 0 [some (.ref 0), some (.int x)] [] (np_S F L C fm k scr) = some (.inl none, np_S (np_krF F x) L C fm k scr) := by
  unfold np_krF
  by_cases h : x < -10
  · simp only [e124_0, e124_1, e124_3, e124_6, e124_6u, e124_7, e124_9, e124_10, e124_11, e124_14, h, if_true, stoN (show 6 ≤ 8 ∧ 8 < 11 by decide), np_b_s]
  · simp only [e124_0, e124_1, e124_3, e124_6, e124_6u, e124_7, e124_9, e124_10, e124_11, e124_14, h, if_false]
theorem m123s {x : Int32} {j s : Nat} (hx : ¬ x < 0) (hj : j < 8) (hs : s ≤ 8) (h1 : F 49 1 = nI j) (h2 : F 49 2 = nI s) (hB : F 17 4 = 0 ∨ F 17 4 = 1) : np_X 123 0 [some (.ref 0), some (.int x)] [] (np_S F L C fm k scr) = np_o x (np_S (np_psF F j s) (np_uL L (51 + 16 * j) (L 17)) C fm k scr) := by
  simp only [e123_0, e123_1, e123_4, e123_4u, e123_5, e123_8, e123_8u, e123_9, e123_12, e123_15, e123_16, e123_17, e123_17u, e123_18, e123_19, e123_22, e123_23, e123_52, e123_63, e123_74, e123_85, e123_96, hx, if_false, fldN1, fldN3, np_b_s, isoH, np_len0, m57 hj hs h1 h2 hB, np_aft_u, np_ni]
/-- the exception that an outcome below 0 stands for -/
def sp_exc (x : Int32) : String := if x = -1 then "java/lang/IndexOutOfBoundsException" else if x = -2 then "java/lang/IllegalArgumentException" else if x = -3 then "java/lang/IllegalStateException" else "java/lang/UnsupportedOperationException"
theorem m123n {x : Int32} (hx : x = -1 ∨ x = -2 ∨ x = -3 ∨ x = -4 ∨ x = -11 ∨ x = -12 ∨ x = -13 ∨ x = -14 ∨ x = -15 ∨ x = -16) : np_X 123 0 [some (.ref 0), some (.int x)] [] (np_S F L C fm k scr) = np_xo (sp_exc x) (np_S (np_krF F x) L C fm (k + 1) scr) := by
  have h0 : x < 0 := by rcases hx with h | h | h | h | h | h | h | h | h | h <;> subst h <;> decide
  simp only [e123_0, e123_1, e123_4, e123_4u, e123_5, e123_8, e123_8u, e123_9, e123_12, e123_15, e123_16, e123_17, e123_17u, e123_18, e123_19, e123_22, e123_23, e123_52, e123_63, e123_74, e123_85, e123_96, h0, if_true, isoN, np_len0, m124, np_aft_u]
  rcases hx with h | h | h | h | h | h | h | h | h | h <;> subst h
  · rw [show np_sw (-4) [85, 74, 63, 52] 96 (-1) = 52 by decide, e123_52]; rfl
  · rw [show np_sw (-4) [85, 74, 63, 52] 96 (-2) = 63 by decide, e123_63]; rfl
  · rw [show np_sw (-4) [85, 74, 63, 52] 96 (-3) = 74 by decide, e123_74]; rfl
  · rw [show np_sw (-4) [85, 74, 63, 52] 96 (-4) = 85 by decide, e123_85]; rfl
  · rw [show np_sw (-4) [85, 74, 63, 52] 96 (-11) = 96 by decide, e123_96]; rfl
  · rw [show np_sw (-4) [85, 74, 63, 52] 96 (-12) = 96 by decide, e123_96]; rfl
  · rw [show np_sw (-4) [85, 74, 63, 52] 96 (-13) = 96 by decide, e123_96]; rfl
  · rw [show np_sw (-4) [85, 74, 63, 52] 96 (-14) = 96 by decide, e123_96]; rfl
  · rw [show np_sw (-4) [85, 74, 63, 52] 96 (-15) = 96 by decide, e123_96]; rfl
  · rw [show np_sw (-4) [85, 74, 63, 52] 96 (-16) = 96 by decide, e123_96]; rfl
end
