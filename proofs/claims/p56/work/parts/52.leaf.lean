/-! THE PURE PART, 22: what the law's catching methods answer, as functions (written by wip/p56/gen52.py). -/
def lw_k (F : Nat → Nat → Int32) (j : Nat) : Nat := if sp_aflo F (5 + j) = true then 0 else 1
def lw_x (F : Nat → Nat → Int32) (j q : Nat) : Int32 := if sp_aflo F (5 + j) = true then F (5 + j) q else -1000
def lw_gk (F : Nat → Nat → Int32) : Nat := if sp_gng F = true then 0 else 1
def lw_act (F : Nat → Nat → Int32) : Int32 := if sp_gng F = true then F 1 5 else -1000
def lw_lft (F : Nat → Nat → Int32) : Int32 := if sp_gng F = true then F 1 6 else -1000
def lw_win (F : Nat → Nat → Int32) : Int32 := if sp_ovr F = true then sp_win F else -1000
def lw_wk (F : Nat → Nat → Int32) : Nat := if sp_ovr F = true then 0 else 1
def lw_sat (F : Nat → Nat → Int32) (x y : Int32) : Int32 := if sp_tray x y = true then (match sp_in F x y with | some j => F (5 + j) 0 | none => -1000) else -1000
def lw_sak (F : Nat → Nat → Int32) (x y : Int32) : Nat := if sp_tray x y = true then (match sp_in F x y with | some _ => 0 | none => 1) else 1
def lw_rnk (F : Nat → Nat → Int32) (r : Int32) : Int32 := match sp_rnk F r with | some j => F (5 + j) 0 | none => -1000
def lw_rkk (F : Nat → Nat → Int32) (r : Int32) : Nat := match sp_rnk F r with | some _ => 0 | none => 1
def lw_dst (F : Nat → Nat → Int32) (i j : Nat) : Int32 := if (sp_aflo F (5 + i) && sp_aflo F (5 + j)) = true then sp_dist F (5 + i) (F (5 + j) 2) (F (5 + j) 3) else -1000
def lw_dsk (F : Nat → Nat → Int32) (i j : Nat) : Nat := if (sp_aflo F (5 + i) && sp_aflo F (5 + j)) = true then 0 else 1
def lw_dir (F : Nat → Nat → Int32) (j : Nat) (y z : Int32) : Int32 := if sp_tray y z = true then (if (sp_aflo F (5 + j) && !sp_isIn F (5 + j) y z) = true then sp_dir (y - F (5 + j) 2) (z - F (5 + j) 3) else -1000) else -1000
def lw_drk (F : Nat → Nat → Int32) (j : Nat) (y z : Int32) : Nat := if sp_tray y z = true then (if (sp_aflo F (5 + j) && !sp_isIn F (5 + j) y z) = true then 0 else 1) else 1
def lw_ahd (F : Nat → Nat → Int32) (j : Nat) : Int32 := if sp_aflo F (5 + j) = true then nI (sp_ahd F (5 + j)) else -1000
section
variable {F : Nat → Nat → Int32} {L : Nat → Int64} {C : Nat → Nat → Int32} {fm k : Nat} {scr : nv_Scr}
theorem sp_num_nI {c j : Nat} (hc : F 1 3 = nI c) (h12 : c ≤ 12) (h : j < c) : sp_num F (nI j) = some j := by
  have h1 : ¬ nI j < 0 := nI_pos (by omega)
  have h2 : nI j < nI c := nI_lt h (by omega)
  have h3 : nI j < 12 := nI_lt (b := 12) (by omega) (by decide)
  unfold sp_num
  rw [if_neg h1, hc, if_pos h2, if_pos h3, nI_clamp (by omega)]
theorem q145  : np_X 145 0 [some (.ref 0), none, none] [] (np_S F L C fm k scr) = np_o (lw_act F) (np_S F L C fm (k + lw_gk F) scr) := by
  unfold lw_act lw_gk
  cases hB : (sp_gng F) with
  | true =>
    have e := m78 (F := F) (L := L) (C := C) (fm := fm) (k := k) (scr := scr)
    rw [if_pos hB] at e
    exact w145 isoN e
  | false =>
    have e := m78 (F := F) (L := L) (C := C) (fm := fm) (k := k) (scr := scr)
    rw [if_neg (by rw [hB]; exact Bool.false_ne_true)] at e
    exact x145 isoN (rfl) e
theorem q146  : np_X 146 0 [some (.ref 0), none, none] [] (np_S F L C fm k scr) = np_o (lw_lft F) (np_S F L C fm (k + lw_gk F) scr) := by
  unfold lw_lft lw_gk
  cases hB : (sp_gng F) with
  | true =>
    have e := m79 (F := F) (L := L) (C := C) (fm := fm) (k := k) (scr := scr)
    rw [if_pos hB] at e
    exact w146 isoN e
  | false =>
    have e := m79 (F := F) (L := L) (C := C) (fm := fm) (k := k) (scr := scr)
    rw [if_neg (by rw [hB]; exact Bool.false_ne_true)] at e
    exact x146 isoN (rfl) e
theorem q144  : np_X 144 0 [some (.ref 0), none, none] [] (np_S F L C fm k scr) = np_o (lw_win F) (np_S F L C fm (k + lw_wk F) scr) := by
  unfold lw_win lw_wk
  cases hB : (sp_ovr F) with
  | true =>
    have e := m77 (F := F) (L := L) (C := C) (fm := fm) (k := k) (scr := scr)
    rw [if_pos hB] at e
    exact w144 isoN e
  | false =>
    have e := m77 (F := F) (L := L) (C := C) (fm := fm) (k := k) (scr := scr)
    rw [if_neg (by rw [hB]; exact Bool.false_ne_true)] at e
    exact x144 isoN (rfl) e
theorem q151 {x : Int32} {j : Nat} (h : sp_num F x = some j) : np_X 151 0 [some (.ref 0), some (.int x), none, none] [] (np_S F L C fm k scr) = np_o (lw_x F j 2) (np_S F L C fm (k + lw_k F j) scr) := by
  unfold lw_x lw_k
  cases hB : (sp_aflo F (5 + j)) with
  | true =>
    have e := m87s (L := L) (C := C) (fm := fm) (k := k) (scr := scr) h
    rw [if_pos hB] at e
    exact w151 isoN e
  | false =>
    have e := m87s (L := L) (C := C) (fm := fm) (k := k) (scr := scr) h
    rw [if_neg (by rw [hB]; exact Bool.false_ne_true)] at e
    exact x151 isoN (Or.inr rfl) e
theorem q152 {x : Int32} {j : Nat} (h : sp_num F x = some j) : np_X 152 0 [some (.ref 0), some (.int x), none, none] [] (np_S F L C fm k scr) = np_o (lw_x F j 3) (np_S F L C fm (k + lw_k F j) scr) := by
  unfold lw_x lw_k
  cases hB : (sp_aflo F (5 + j)) with
  | true =>
    have e := m88s (L := L) (C := C) (fm := fm) (k := k) (scr := scr) h
    rw [if_pos hB] at e
    exact w152 isoN e
  | false =>
    have e := m88s (L := L) (C := C) (fm := fm) (k := k) (scr := scr) h
    rw [if_neg (by rw [hB]; exact Bool.false_ne_true)] at e
    exact x152 isoN (Or.inr rfl) e
theorem q154 {x : Int32} {j : Nat} (h : sp_num F x = some j) : np_X 154 0 [some (.ref 0), some (.int x), none, none] [] (np_S F L C fm k scr) = np_o (lw_x F j 7) (np_S F L C fm (k + lw_k F j) scr) := by
  unfold lw_x lw_k
  cases hB : (sp_aflo F (5 + j)) with
  | true =>
    have e := m94s (L := L) (C := C) (fm := fm) (k := k) (scr := scr) h
    rw [if_pos hB] at e
    exact w154 isoN e
  | false =>
    have e := m94s (L := L) (C := C) (fm := fm) (k := k) (scr := scr) h
    rw [if_neg (by rw [hB]; exact Bool.false_ne_true)] at e
    exact x154 isoN (Or.inr rfl) e
theorem q155 {x : Int32} {j : Nat} (h : sp_num F x = some j) : np_X 155 0 [some (.ref 0), some (.int x), none, none] [] (np_S F L C fm k scr) = np_o (lw_x F j 8) (np_S F L C fm (k + lw_k F j) scr) := by
  unfold lw_x lw_k
  cases hB : (sp_aflo F (5 + j)) with
  | true =>
    have e := m95s (L := L) (C := C) (fm := fm) (k := k) (scr := scr) h
    rw [if_pos hB] at e
    exact w155 isoN e
  | false =>
    have e := m95s (L := L) (C := C) (fm := fm) (k := k) (scr := scr) h
    rw [if_neg (by rw [hB]; exact Bool.false_ne_true)] at e
    exact x155 isoN (Or.inr rfl) e
theorem q151n {x : Int32} (h : sp_num F x = none) : np_X 151 0 [some (.ref 0), some (.int x), none, none] [] (np_S F L C fm k scr) = np_o (-1000) (np_S F L C fm (k + 1) scr) := x151 isoN (Or.inl rfl) (m87n h)
theorem q152n {x : Int32} (h : sp_num F x = none) : np_X 152 0 [some (.ref 0), some (.int x), none, none] [] (np_S F L C fm k scr) = np_o (-1000) (np_S F L C fm (k + 1) scr) := x152 isoN (Or.inl rfl) (m88n h)
theorem q159 {x : Int32} {j : Nat} (h : sp_num F x = some j) : np_X 159 0 [some (.ref 0), some (.int x), none, none] [] (np_S F L C fm k scr) = np_o (lw_ahd F j) (np_S F L C fm (k + lw_k F j) scr) := by
  unfold lw_ahd lw_k
  cases hB : (sp_aflo F (5 + j)) with
  | true =>
    have e := m104 (L := L) (C := C) (fm := fm) (k := k) (scr := scr) h
    rw [if_pos hB] at e
    exact w159 isoN e
  | false =>
    have e := m104 (L := L) (C := C) (fm := fm) (k := k) (scr := scr) h
    rw [if_neg (by rw [hB]; exact Bool.false_ne_true)] at e
    exact x159 isoN (Or.inr rfl) e
theorem q157 {x y : Int32} {i j : Nat} (h : sp_num F x = some i) (g : sp_num F y = some j) : np_X 157 0 [some (.ref 0), some (.int x), some (.int y), none, none] [] (np_S F L C fm k scr) = np_o (lw_dst F i j) (np_S F L C fm (k + lw_dsk F i j) scr) := by
  unfold lw_dst lw_dsk
  cases hB : (sp_aflo F (5 + i) && sp_aflo F (5 + j)) with
  | true =>
    have e := m99 (L := L) (C := C) (fm := fm) (k := k) (scr := scr) h g
    rw [if_pos hB] at e
    exact w157 isoN e
  | false =>
    have e := m99 (L := L) (C := C) (fm := fm) (k := k) (scr := scr) h g
    rw [if_neg (by rw [hB]; exact Bool.false_ne_true)] at e
    exact x157 isoN (Or.inr rfl) e
theorem q153 {x y : Int32} : np_X 153 0 [some (.ref 0), some (.int x), some (.int y), none, none] [] (np_S F L C fm k scr) = np_o (lw_sat F x y) (np_S F L C fm (k + lw_sak F x y) scr) := by
  have e := m93 (F := F) (L := L) (C := C) (fm := fm) (k := k) (scr := scr) (x := x) (y := y)
  unfold lw_sat lw_sak
  cases hB : sp_tray x y with
  | true =>
    rw [if_pos hB] at e
    cases hx : sp_in F x y with
    | some j =>
      rw [hx] at e
      exact w153 isoN e
    | none =>
      rw [hx] at e
      exact x153 isoN (Or.inr rfl) e
  | false =>
    rw [if_neg (by rw [hB]; exact Bool.false_ne_true)] at e
    exact x153 isoN (Or.inl rfl) e
theorem q156 {x : Int32} : np_X 156 0 [some (.ref 0), some (.int x), none, none] [] (np_S F L C fm k scr) = np_o (lw_rnk F x) (np_S F L C fm (k + lw_rkk F x) scr) := by
  have e := m98 (F := F) (L := L) (C := C) (fm := fm) (k := k) (scr := scr) (r := x)
  unfold lw_rnk lw_rkk
  cases hx : sp_rnk F x with
  | some j =>
    rw [hx] at e
    exact w156 isoN e
  | none =>
    rw [hx] at e
    exact x156 isoN rfl e
theorem q158 {x y z : Int32} {j : Nat} (h : sp_num F x = some j) : np_X 158 0 [some (.ref 0), some (.int x), some (.int y), some (.int z), none, none] [] (np_S F L C fm k scr) = np_o (lw_dir F j y z) (np_S F L C fm (k + lw_drk F j y z) scr) := by
  have e := m100 (L := L) (C := C) (fm := fm) (k := k) (scr := scr) (y := y) (z := z) h
  unfold lw_dir lw_drk
  cases hB : sp_tray y z with
  | true =>
    rw [if_pos hB] at e
    cases hx : (sp_aflo F (5 + j) && !sp_isIn F (5 + j) y z) with
    | true =>
      rw [if_pos hx] at e
      exact w158 isoN e
    | false =>
      rw [if_neg (by rw [hx]; exact Bool.false_ne_true)] at e
      exact x158 isoN (Or.inr (Or.inr rfl)) e
  | false =>
    rw [if_neg (by rw [hB]; exact Bool.false_ne_true)] at e
    exact x158 isoN (Or.inr (Or.inl rfl)) e
theorem m114 {r : Int32} (h : F 0 10 = r) (hr : ¬ r = -1) : np_X 114 0 [some (.ref 0)] [] (np_S F L C fm k scr) = np_o r (np_S F L C fm k scr) := by
  simp only [e114_0, e114_0u, e114_1, e114_4, e114_5, e114_8, e114_19, e114_19u, e114_20, e114_23, fldN (show 6 ≤ 10 ∧ 10 < 11 by decide), np_b_s, h, hr, if_false, np_ni]
theorem q163 {r : Int32} (h : F 0 10 = r) (hr : ¬ r = -1) : np_X 163 0 [some (.ref 0), none, none] [] (np_S F L C fm k scr) = np_o r (np_S F L C fm k scr) := w163 isoN (m114 h hr)
-- the digest
def lw_d0 (F : Nat → Nat → Int32) (L : Nat → Int64) : Int64 := 7 * (F 1 7).toInt64 + 11 * (F 1 8).toInt64 + 13 * (F 1 9).toInt64 + 17 * L 1 + 19 * (F 1 11).toInt64 + 23 * (F 3 2).toInt64 + 29 * (F 4 2).toInt64 + (lw_act F).toInt64
def lw_d1 (F : Nat → Nat → Int32) (L : Nat → Int64) : Int64 := 31 * (31 * lw_d0 F L + (lw_lft F).toInt64) + (if F 1 4 = 0 then 0 else 1 : Int32).toInt64 + (if sp_ovr F = true then 2 else 0 : Int32).toInt64
def lw_dx (F : Nat → Nat → Int32) (j : Nat) (h : Int64) : Int64 := 31 * (31 * (31 * (31 * h + (lw_x F j 2).toInt64) + (lw_x F j 3).toInt64) + (F (5 + j) 4).toInt64) + (F (5 + j) 6).toInt64
def lw_dy (F : Nat → Nat → Int32) (j : Nat) (h : Int64) : Int64 := 31 * (31 * (31 * (31 * h + (lw_x F j 7).toInt64) + (lw_x F j 8).toInt64) + (F (5 + j) 5).toInt64) + (F (5 + j) 1).toInt64
def lw_df (F : Nat → Nat → Int32) : Nat → Nat → Int64 → Int64
  | _, 0, h => h
  | i, n + 1, h => lw_df F (i + 1) n (lw_dy F i (lw_dx F i h))
def lw_dig (F : Nat → Nat → Int32) (L : Nat → Int64) (c : Nat) : Int64 := lw_df F 0 c (lw_d1 F L)
theorem lw_k_le {j : Nat} : lw_k F j ≤ 1 := by unfold lw_k; split <;> omega
theorem lw_gk_le : lw_gk F ≤ 1 := by unfold lw_gk; split <;> omega
theorem lw_wk_le : lw_wk F ≤ 1 := by unfold lw_wk; split <;> omega
theorem lw_dsk_le {i j : Nat} : lw_dsk F i j ≤ 1 := by unfold lw_dsk; split <;> omega
theorem lw_drk_le {j : Nat} {y z : Int32} : lw_drk F j y z ≤ 1 := by
  unfold lw_drk
  split
  · split <;> omega
  · omega
theorem lw_sak_le {x y : Int32} : lw_sak F x y ≤ 1 := by
  unfold lw_sak
  split
  · split <;> omega
  · omega
theorem lw_rkk_le {x : Int32} : lw_rkk F x ≤ 1 := by
  unfold lw_rkk
  split <;> omega
theorem l169 {c : Nat} (hc : F 1 3 = nI c) (h12 : c ≤ 12) : ∀ (n i : Nat), i + n = c → ∀ (h : Int64) (k : Nat), ∃ k', k' ≤ k + 4 * n ∧ np_X 169 123 [some (.ref 0), some (.long h), none, some (.int (nI i))] [] (np_S F L C fm k scr) = np_vo (.long (lw_df F i n h)) (np_S F L C fm k' scr)
  | 0, i, hi, h, k => by
    obtain rfl : i = c := by omega
    refine ⟨k, by omega, ?_⟩
    rw [e169_123]
    simp only [e169_0, e169_3, e169_3u, e169_4, e169_7, e169_8, e169_9, e169_12, e169_12u, e169_13, e169_16, e169_17, e169_18, e169_19, e169_22, e169_22u, e169_23, e169_26, e169_27, e169_28, e169_29, e169_32, e169_32u, e169_33, e169_36, e169_37, e169_38, e169_41, e169_41u, e169_42, e169_45, e169_46, e169_47, e169_48, e169_51, e169_51u, e169_52, e169_53, e169_56, e169_57, e169_58, e169_59, e169_62, e169_62u, e169_63, e169_64, e169_67, e169_68, e169_69, e169_70, e169_70u, e169_71, e169_74, e169_75, e169_76n, e169_76i, e169_76r, e169_76v, e169_77, e169_80, e169_83, e169_84, e169_85, e169_85u, e169_86, e169_89, e169_90, e169_91, e169_92, e169_92u, e169_93, e169_96, e169_99, e169_100, e169_103, e169_104, e169_105, e169_106, e169_106u, e169_107, e169_110, e169_113, e169_114, e169_117, e169_118, e169_119, e169_120n, e169_120i, e169_120r, e169_120v, e169_121, e169_122n, e169_122i, e169_122r, e169_122v, e169_124, e169_124u, e169_125, e169_128, e169_131, e169_134, e169_137, e169_140, e169_143, e169_144, e169_145, e169_145u, e169_146, e169_147, e169_150, e169_151, e169_152, e169_153, e169_153u, e169_154, e169_155, e169_158, e169_159, e169_160, e169_161, e169_161u, e169_162, e169_163, e169_166, e169_167, e169_168, e169_169, e169_169u, e169_170, e169_171, e169_174, e169_175, e169_176n, e169_176i, e169_176r, e169_176v, e169_177, e169_180, e169_183, e169_186, e169_189, e169_190, e169_191, e169_191u, e169_192, e169_193, e169_196, e169_197, e169_198, e169_199, e169_199u, e169_200, e169_201, e169_204, e169_205, e169_206, e169_207, e169_207u, e169_208, e169_209, e169_212, e169_213, e169_214, e169_215, e169_215u, e169_216, e169_217, e169_220, e169_221, e169_222n, e169_222i, e169_222r, e169_222v, e169_223n, e169_223i, e169_223r, e169_223v, e169_226, e169_229, e169_230, isoN, List.length_cons, List.length_nil, Nat.reduceLeDiff, Nat.reduceAdd, m85, np_aft_v, hc, np_nltn (show ¬ i < i by omega) (show i < 1000 by omega), if_false, lw_df]
  | n + 1, i, hi, h, k => by
    have hl : i < c := by omega
    have hn := sp_num_nI hc h12 hl
    obtain ⟨k', hk, ih⟩ := l169 hc h12 n (i + 1) (by omega) (lw_dy F i (lw_dx F i h)) (k + lw_k F i + lw_k F i + lw_k F i + lw_k F i)
    have := @lw_k_le F i
    refine ⟨k', by omega, ?_⟩
    unfold lw_dy lw_dx at ih
    rw [e169_123]
    simp only [e169_0, e169_3, e169_3u, e169_4, e169_7, e169_8, e169_9, e169_12, e169_12u, e169_13, e169_16, e169_17, e169_18, e169_19, e169_22, e169_22u, e169_23, e169_26, e169_27, e169_28, e169_29, e169_32, e169_32u, e169_33, e169_36, e169_37, e169_38, e169_41, e169_41u, e169_42, e169_45, e169_46, e169_47, e169_48, e169_51, e169_51u, e169_52, e169_53, e169_56, e169_57, e169_58, e169_59, e169_62, e169_62u, e169_63, e169_64, e169_67, e169_68, e169_69, e169_70, e169_70u, e169_71, e169_74, e169_75, e169_76n, e169_76i, e169_76r, e169_76v, e169_77, e169_80, e169_83, e169_84, e169_85, e169_85u, e169_86, e169_89, e169_90, e169_91, e169_92, e169_92u, e169_93, e169_96, e169_99, e169_100, e169_103, e169_104, e169_105, e169_106, e169_106u, e169_107, e169_110, e169_113, e169_114, e169_117, e169_118, e169_119, e169_120n, e169_120i, e169_120r, e169_120v, e169_121, e169_122n, e169_122i, e169_122r, e169_122v, e169_124, e169_124u, e169_125, e169_128, e169_131, e169_134, e169_137, e169_140, e169_143, e169_144, e169_145, e169_145u, e169_146, e169_147, e169_150, e169_151, e169_152, e169_153, e169_153u, e169_154, e169_155, e169_158, e169_159, e169_160, e169_161, e169_161u, e169_162, e169_163, e169_166, e169_167, e169_168, e169_169, e169_169u, e169_170, e169_171, e169_174, e169_175, e169_176n, e169_176i, e169_176r, e169_176v, e169_177, e169_180, e169_183, e169_186, e169_189, e169_190, e169_191, e169_191u, e169_192, e169_193, e169_196, e169_197, e169_198, e169_199, e169_199u, e169_200, e169_201, e169_204, e169_205, e169_206, e169_207, e169_207u, e169_208, e169_209, e169_212, e169_213, e169_214, e169_215, e169_215u, e169_216, e169_217, e169_220, e169_221, e169_222n, e169_222i, e169_222r, e169_222v, e169_223n, e169_223i, e169_223r, e169_223v, e169_226, e169_229, e169_230, isoN, List.length_cons, List.length_nil, Nat.reduceLeDiff, Nat.reduceAdd, m85, np_aft_v, hc, np_ltn hl (show c < 1000 by omega), if_true, q151 hn, q152 hn, q154 hn, q155 hn, m86 hn, m89 hn, m90 hn, m91 hn, nI_1, ih]
    rfl
theorem q169 {c : Nat} (hc : F 1 3 = nI c) (h12 : c ≤ 12) (hB : F 1 4 = 0 ∨ F 1 4 = 1) : ∃ k', k' ≤ k + 50 ∧ np_X 169 0 [some (.ref 0), none, none, none] [] (np_S F L C fm k scr) = np_vo (.long (lw_dig F L c)) (np_S F L C fm k' scr) := by
  obtain ⟨k', hk, ih⟩ := l169 (F := F) (L := L) (C := C) (fm := fm) (scr := scr) hc h12 c 0 (by omega) (lw_d1 F L) (k + lw_gk F + lw_gk F)
  have := @lw_gk_le F
  refine ⟨k', by omega, ?_⟩
  rw [nI_0] at ih
  have ea0 : sp_aco 0 = 3 := rfl
  have ea1 : sp_aco 1 = 4 := rfl
  unfold lw_dig
  rw [← ih]
  unfold lw_d1 lw_d0
  have e01 : ((1 : Int32) = 0) = False := by decide
  rcases hB with h4 | h4 <;> cases hO : sp_ovr F <;>
  simp only [e169_0, e169_3, e169_3u, e169_4, e169_7, e169_8, e169_9, e169_12, e169_12u, e169_13, e169_16, e169_17, e169_18, e169_19, e169_22, e169_22u, e169_23, e169_26, e169_27, e169_28, e169_29, e169_32, e169_32u, e169_33, e169_36, e169_37, e169_38, e169_41, e169_41u, e169_42, e169_45, e169_46, e169_47, e169_48, e169_51, e169_51u, e169_52, e169_53, e169_56, e169_57, e169_58, e169_59, e169_62, e169_62u, e169_63, e169_64, e169_67, e169_68, e169_69, e169_70, e169_70u, e169_71, e169_74, e169_75, e169_76n, e169_76i, e169_76r, e169_76v, e169_77, e169_80, e169_83, e169_84, e169_85, e169_85u, e169_86, e169_89, e169_90, e169_91, e169_92, e169_92u, e169_93, e169_96, e169_99, e169_100, e169_103, e169_104, e169_105, e169_106, e169_106u, e169_107, e169_110, e169_113, e169_114, e169_117, e169_118, e169_119, e169_120n, e169_120i, e169_120r, e169_120v, e169_121, e169_122n, e169_122i, e169_122r, e169_122v, e169_124, e169_124u, e169_125, e169_128, e169_131, e169_134, e169_137, e169_140, e169_143, e169_144, e169_145, e169_145u, e169_146, e169_147, e169_150, e169_151, e169_152, e169_153, e169_153u, e169_154, e169_155, e169_158, e169_159, e169_160, e169_161, e169_161u, e169_162, e169_163, e169_166, e169_167, e169_168, e169_169, e169_169u, e169_170, e169_171, e169_174, e169_175, e169_176n, e169_176i, e169_176r, e169_176v, e169_177, e169_180, e169_183, e169_186, e169_189, e169_190, e169_191, e169_191u, e169_192, e169_193, e169_196, e169_197, e169_198, e169_199, e169_199u, e169_200, e169_201, e169_204, e169_205, e169_206, e169_207, e169_207u, e169_208, e169_209, e169_212, e169_213, e169_214, e169_215, e169_215u, e169_216, e169_217, e169_220, e169_221, e169_222n, e169_222i, e169_222r, e169_222v, e169_223n, e169_223i, e169_223r, e169_223v, e169_226, e169_229, e169_230, isoN, List.length_cons, List.length_nil, Nat.reduceLeDiff, Nat.reduceAdd, m80, m108, m109, m110, m111, m105 (F := F) (f := 0) (Or.inl rfl), m105 (F := F) (f := 1) (Or.inr rfl), ea0, ea1, np_aft_v, q145, q146, m75 (F := F) (by simp [h4]), h4, e01, if_true, if_false, m76, hO, np_i0, Bool.false_eq_true, show (true = false) = False by simp]
end
