/-! THE PURE PART, 12: texts that stand since before the start, and the reader's small methods. -/
def tx_len (t : Nat) : Nat := nv_lens.getD t 0
def tx_ch (t i : Nat) : Int32 := (nv_byts.getD t []).getD i 0
theorem tx_v : ∀ t, t < 32 → nv_valv[t]? = some (.ref (1000100 + t)) := by decide
theorem tx_c : ∀ t, t < 32 → nv_codv[t]? = some (.int 0) := by decide
theorem tx_l : ∀ t, t < 32 → nv_lens[t]? = some (tx_len t) ∧ tx_len t ≤ 20 := by decide
theorem tx_s : ∀ t, t < 32 → Int32.ofNat (tx_len t) >>> (0 &&& 31) = nI (tx_len t) := by decide
theorem tx_b : ∀ t, t < 32 → nv_bv[t]? = some ((nv_byts.getD t []).map Value.int) := by decide
theorem tx_d : ∀ t, t < 32 → ∀ i, i < tx_len t → ((nv_byts.getD t []).map Value.int)[i]? = some (.int (tx_ch t i)) := by decide
theorem tx_x : ∀ t, t < 32 → ∀ i, i < tx_len t → ((tx_ch t i &&& 255).toUInt32 % 65536).toInt32 = tx_ch t i ∧ narrow .char (.int (tx_ch t i)) = .int (tx_ch t i) := by decide
section
variable {σ : nv_St}
theorem m2 {t : Nat} (ht : t < 32) : np_X 2 0 [some (.ref (1000000 + t))] [] σ = np_o 0 σ := by
  have e1 : ((1 : Int32) = 0) = False := by decide
  have hn : narrow .byte (.int 0) = .int 0 := id rfl
  have h1 : ¬ 1000000 + t < 1000000 := by omega
  simp only [e2_0, e2_3, e2_6, e2_6u, e2_7, e2_10, e2_14, e1, if_false, h1, not_false_eq_true, Nat.add_sub_cancel_left, tx_c t ht, np_b_s, hn]
theorem m3 {t : Nat} (ht : t < 32) : np_X 3 0 [some (.ref (1000000 + t))] [] σ = np_o 1 σ := by
  have e1 : ((1 : Int32) = 0) = False := by decide
  have h1 : ¬ 1000000 + t < 1000000 := by omega
  simp only [e3_0, e3_3, e3_6, e3_6u, e3_7, e3_10, e3_13, e3_14, e3_18, e1, if_false, if_true, h1, not_false_eq_true, Nat.add_sub_cancel_left, tx_c t ht, np_b_s, np_nb1]
theorem m0 {t : Nat} (ht : t < 32) : np_X 0 0 [some (.ref (1000000 + t))] [] σ = np_o (nI (tx_len t)) σ := by
  have h1 : ¬ 1000000 + t < 1000000 := by omega
  have h2 : ¬ 1000100 + t < 1000100 := by omega
  have h3 : 1000000 ≤ 1000000 + t := by omega
  have h4 : 1000000 + t < 1000032 := by omega
  simp only [e0_0, e0_0u, e0_1, e0_4, e0_5, e0_5u, e0_6, e0_9, e0_10, h1, h2, h3, h4, not_false_eq_true, Nat.add_sub_cancel_left, tx_v t ht, (tx_l t ht).1, np_b_s, m2 ht, np_aft_v, List.length_cons, List.length_nil, Nat.reduceLeDiff, Nat.reduceAdd, tx_s t ht, np_ni]
theorem m6 {i n : Nat} {v : Option Value} {a : Nat} (hi : i < n) (hn : n < 1000) : np_X 6 0 [some (.int (nI i)), some (.int (nI n)), some (.ref a)] [] σ = np_o (nI i) σ := by
  simp only [e6_0, e6_1, e6_4, e6_5, e6_6, e6_16, e6_17, np_lt0 (show i < 1000 by omega), if_false, show (nI i < nI n) = True from eq_true (nI_lt hi (by omega)), if_true, np_ni]
theorem m4 {i n : Nat} (hi : i < n) (hn : n < 1000) : np_X 4 0 [some (.int (nI i)), some (.int (nI n))] [] σ = some (.inl none, σ) := by
  simp only [e4_0, e4_1, e4_2, e4_5, e4_8, e4_8i, e4_9, np_len0, m6 (v := none) hi hn, np_aft_v]
theorem m5 {t i : Nat} (ht : t < 32) (hi : i < tx_len t) : np_X 5 0 [some (.ref (1000100 + t)), some (.int (nI i))] [] σ = np_o (tx_ch t i) σ := by
  have h2 : ¬ 1000100 + t < 1000100 := by omega
  have hl := (tx_l t ht).2
  have h3 : ¬ (1000100 + t < 1000100 ∨ nI i < 0) := fun h => h.elim h2 (nI_pos (by omega))
  have e : Int32.ofNat (tx_len t) = nI (tx_len t) := rfl
  simp only [e5_0, e5_1, e5_1u, e5_2, e5_3, e5_6, e5_6u, e5_7, e5_8, e5_9, e5_12, e5_13, e5_14, e5_8 h3, h2, not_false_eq_true, Nat.add_sub_cancel_left, (tx_l t ht).1, np_b_s, e, np_len0, m4 hi (show tx_len t < 1000 by omega), np_aft_u, tx_b t ht, nI_clamp (show i < 2 ^ 31 by omega), tx_d t ht i hi, (tx_x t ht i hi).1, (tx_x t ht i hi).2]
theorem m1 {t i : Nat} (ht : t < 32) (hi : i < tx_len t) : np_X 1 0 [some (.ref (1000000 + t)), some (.int (nI i))] [] σ = np_o (tx_ch t i) σ := by
  have e1 : ((1 : Int32) = 0) = False := by decide
  have h1 : ¬ 1000000 + t < 1000000 := by omega
  have h3 : 1000000 ≤ 1000000 + t := by omega
  have h4 : 1000000 + t < 1000032 := by omega
  simp only [e1_0, e1_0u, e1_1, e1_4, e1_7, e1_7u, e1_8, e1_11, e1_12, e1_15, np_len0, h1, h3, h4, m3 ht, np_aft_v, e1, if_false, not_false_eq_true, Nat.add_sub_cancel_left, tx_v t ht, np_b_s, m5 ht hi, (tx_x t ht i hi).2]
end
section
variable {F : Nat → Nat → Int32} {L : Nat → Int64} {C : Nat → Nat → Int32} {fm k : Nat} {scr : nv_Scr}
theorem np_lt60 {i : Nat} (h : i < 60) : (nI i < 60) = True := eq_true (nI_lt (b := 60) h (by decide))
theorem np_nlt60 {i : Nat} (h : 60 ≤ i) (hi : i < 1000) : (nI i < 60) = False := eq_false (nI_nlt (a := i) (b := 60) h (by omega))
theorem np_of60 : Int32.ofNat 60 = 60 := id rfl
theorem np_ltn {i n : Nat} (h : i < n) (hn : n < 1000) : (nI i < nI n) = True := eq_true (nI_lt h (by omega))
theorem np_nltn {i n : Nat} (h : ¬ i < n) (hi : i < 1000) : (nI i < nI n) = False := eq_false (nI_nlt (by omega) (by omega))
/-- the character at i is that sign; n: how many there are -/
def sp_isa (C : Nat → Nat → Int32) (n i : Nat) (c : Int32) : Bool := decide (i < n) && decide (C 180 i = c)
theorem m23 {i n : Nat} {c : Int32} (hi : i < 1000) (hn : n ≤ 60) (h : F 179 2 = nI n) : np_X 23 0 [some (.ref 179), some (.int (nI i)), some (.int c)] [] (np_S F L C fm k scr) = np_o (np_i (sp_isa C n i c)) (np_S F L C fm k scr) := by
  unfold sp_isa
  by_cases h1 : i < n
  · simp only [e23_0, e23_1, e23_4, e23_5, e23_5u, e23_6, e23_9, e23_12, e23_13, e23_13u, e23_14, e23_17, e23_18, e23_21, e23_21u, e23_22, e23_25, e23_26, e23_27, e23_28, e23_31, e23_32, e23_35, e23_36, np_lt0 hi, if_false, fldC2, fldC0, np_b_s, h, np_ltn h1 (show n < 1000 by omega), if_true, len180, np_of60, np_lt60 (show i < 60 by omega), rd180 (show i < 60 by omega), np_nb1, np_nb0]
    by_cases h2 : C 180 i = c <;> simp [h1, h2, np_i]
  · simp only [e23_0, e23_1, e23_4, e23_5, e23_5u, e23_6, e23_9, e23_12, e23_13, e23_13u, e23_14, e23_17, e23_18, e23_21, e23_21u, e23_22, e23_25, e23_26, e23_27, e23_28, e23_31, e23_32, e23_35, e23_36, np_lt0 hi, if_false, fldC2, np_b_s, h, np_nltn h1 hi, np_nb0]
    simp [h1, np_i]
def sp_dig (C : Nat → Nat → Int32) (n i : Nat) : Bool := decide (i < n) && (!decide (C 180 i < 48) && !decide (57 < C 180 i))
theorem m24 {i n : Nat} (hi : i < 1000) (hn : n ≤ 60) (h : F 179 2 = nI n) : np_X 24 0 [some (.ref 179), some (.int (nI i))] [] (np_S F L C fm k scr) = np_o (np_i (sp_dig C n i)) (np_S F L C fm k scr) := by
  unfold sp_dig
  by_cases h1 : i < n
  · simp only [e24_0, e24_1, e24_4, e24_5, e24_5u, e24_6, e24_9, e24_12, e24_13, e24_13u, e24_14, e24_17, e24_18, e24_21, e24_21u, e24_22, e24_25, e24_26, e24_27, e24_29, e24_32, e24_32u, e24_33, e24_36, e24_37, e24_38, e24_40, e24_43, e24_44, e24_47, e24_48, np_lt0 hi, if_false, fldC2, fldC0, np_b_s, h, np_ltn h1 (show n < 1000 by omega), if_true, len180, np_of60, np_lt60 (show i < 60 by omega), rd180 (show i < 60 by omega), np_nb1, np_nb0]
    by_cases h2 : C 180 i < 48 <;> by_cases h3 : 57 < C 180 i <;> simp [h1, h2, h3, np_i]
  · simp only [e24_0, e24_1, e24_4, e24_5, e24_5u, e24_6, e24_9, e24_12, e24_13, e24_13u, e24_14, e24_17, e24_18, e24_21, e24_21u, e24_22, e24_25, e24_26, e24_27, e24_29, e24_32, e24_32u, e24_33, e24_36, e24_37, e24_38, e24_40, e24_43, e24_44, e24_47, e24_48, np_lt0 hi, if_false, fldC2, np_b_s, h, np_nltn h1 hi, np_nb0]
    simp [h1, np_i]
def sp_dgt (C : Nat → Nat → Int32) (n i : Nat) : Int32 := if sp_dig C n i = true then C 180 i - 48 else 0
theorem m25 {i n : Nat} (hi : i < 1000) (hn : n ≤ 60) (h : F 179 2 = nI n) : np_X 25 0 [some (.ref 179), some (.int (nI i))] [] (np_S F L C fm k scr) = np_o (sp_dgt C n i) (np_S F L C fm k scr) := by
  unfold sp_dgt
  cases hd : sp_dig C n i with
  | false =>
    simp only [e25_0, e25_0u, e25_1, e25_2, e25_5, e25_8, e25_8u, e25_9, e25_12, e25_13, e25_14, e25_16, e25_17, e25_20, e25_21, isoC, np_len0, m24 hi hn h, hd, np_aft_v, np_i0, if_true, np_ni]
    simp
  | true =>
    have h1 : i < n := by
      unfold sp_dig at hd
      simp only [Bool.and_eq_true, decide_eq_true_eq] at hd
      exact hd.1
    have e : (true = false) = False := by simp
    simp only [e25_0, e25_0u, e25_1, e25_2, e25_5, e25_8, e25_8u, e25_9, e25_12, e25_13, e25_14, e25_16, e25_17, e25_20, e25_21, isoC, np_len0, m24 hi hn h, hd, np_aft_v, np_i0, e, if_false, if_true, fldC0, np_b_s, rd180 (show i < 60 by omega), np_ni]
end
