/-! THE PURE PART, 39: areDirections answers 1. -/
def dz (a : Nat) : Int32 := nI a - 3
theorem dz_s : ∀ a, a < 7 → dz a + 1 = dz (a + 1) ∧ dz a < 4 := by decide
theorem dz_7 : ¬ dz 7 < 4 := by decide
theorem dz_0 : dz 0 = -3 := by decide
theorem x_add {x d : Int32} : x + d - x = d := by rw [Int32.add_comm, Int32.add_sub_cancel]
theorem x_sub {x d : Int32} : x - d - x = 0 - d := by grind
theorem x_eq {x d : Int32} : (x = x + d) ↔ d = 0 := by
  constructor
  · intro h
    have := @x_add x d
    rw [← h] at this
    rw [← this]
    exact Int32.sub_self x
  · rintro rfl
    exact (Int32.add_zero x).symm
theorem x_eq' {x d : Int32} : (x = x - d) ↔ d = 0 := by
  constructor
  · intro h
    have e := @x_sub x d
    rw [← h, Int32.sub_self] at e
    have : d = 0 - (0 - d) := by grind
    rw [this, ← e]
    rfl
  · rintro rfl
    exact (Int32.sub_zero x).symm
theorem dr_t : ∀ a, a < 7 → ∀ b, b < 7 → ((dz a = 0 ∧ dz b = 0) ∨ ((∃ t, t < 8 ∧ sp_dir (dz a) (dz b) = nI t) ∧ sp_dir (0 - dz a) (0 - dz b) = (sp_dir (dz a) (dz b) + 4) - (sp_dir (dz a) (dz b) + 4) / 8 * 8 ∧ ¬ sp_max (sp_abs (dz a)) (sp_abs (dz b)) < 1)) := by decide +kernel
theorem dr_f : ∀ a, a < 7 → sp_far (dz a) 0 = sp_abs (dz a) := by decide
theorem dr_b : ∀ b, b < 8 → ∀ t, t < 8 → sp_min (sp_far (nI t) (nI b)) (8 - sp_far (nI t) (nI b)) = sp_bet (nI b) (nI t) := by decide +kernel
section
variable {F : Nat → Nat → Int32} {V : gm_V} {L : Nat → Int64} {C : Nat → Nat → Int32} {fm k : Nat} {scr : nv_Scr}
theorem b173 (hr : gm_rep F V) (hk : gm_ok V) {j : Nat} (hj : j < V 1 3) (h5 : ¬ V (5 + j) 5 = 0) {a b : Nat} (ha : a < 7) (hb : b < 7) {l7 l8 l9 l10 : Option Value} : ∃ k' m7 m8 m9 m10, k' ≤ k + 2 ∧ np_X 173 34 [some (.ref 0), some (.int (nI j)), some (.int (F (5 + j) 2)), some (.int (F (5 + j) 3)), some (.int 1), some (.int (dz a)), some (.int (dz b)), l7, l8, l9, l10] [] (np_S F L C fm k scr) = np_X 173 34 [some (.ref 0), some (.int (nI j)), some (.int (F (5 + j) 2)), some (.int (F (5 + j) 3)), some (.int 1), some (.int (dz a)), some (.int (dz (b + 1))), m7, m8, m9, m10] [] (np_S F L C fm k' scr) := by
  have hc := gv_1 hr (show 3 = 3 ∨ 3 = 4 ∨ 3 = 5 ∨ 3 = 6 ∨ 3 = 8 ∨ 3 = 9 by decide)
  have hn := sp_num_nI hc hk.2.1.1 hj
  have h12 := hk.2.1.1
  have hA := hk.1 j (by omega)
  have af : sp_aflo F (5 + j) = true := by rw [ga_aflo hr hk.1 (by omega)]; simp [h5]
  have e4 := gv_s hr (show j < 12 by omega) (show 4 < 9 by decide)
  generalize hX : F (5 + j) 2 = X
  generalize hY : F (5 + j) 3 = Y
  have g1 := @lw_drk_le F j (X + dz a) (Y + dz b)
  have g2 := @lw_drk_le F j (X - dz a) (Y - dz b)
  have s1 := (dz_s b hb).1
  have s2 := (dz_s b hb).2
  have isin : sp_isIn F (5 + j) (X + dz a) (Y + dz b) = (decide (dz a = 0) && decide (dz b = 0)) := by
    unfold sp_isIn
    rw [hX, hY, decide_eq_decide.mpr x_eq, decide_eq_decide.mpr x_eq]
  have isin2 : sp_isIn F (5 + j) (X - dz a) (Y - dz b) = (decide (dz a = 0) && decide (dz b = 0)) := by
    unfold sp_isIn
    rw [hX, hY, decide_eq_decide.mpr x_eq', decide_eq_decide.mpr x_eq']
  have q1 := q158 (F := F) (L := L) (C := C) (fm := fm) (k := k) (scr := scr) (y := X + dz a) (z := Y + dz b) hn
  have q2 := q158 (F := F) (L := L) (C := C) (fm := fm) (k := k + lw_drk F j (X + dz a) (Y + dz b)) (scr := scr) (y := X - dz a) (z := Y - dz b) hn
  by_cases hs : sp_tray (X + dz a) (Y + dz b) = true ∧ ¬ (dz a = 0 ∧ dz b = 0)
  · obtain ⟨ht, hne⟩ := hs
    obtain ⟨⟨t, ht8, et⟩, eb, ed⟩ := (dr_t a ha b hb).resolve_left hne
    have hb0 : (decide (dz a = 0) && decide (dz b = 0)) = false := by
      by_cases z1 : dz a = 0
      · by_cases z2 : dz b = 0
        · exact absurd ⟨z1, z2⟩ hne
        · simp [z2]
      · simp [z1]
    have d1 : lw_dir F j (X + dz a) (Y + dz b) = nI t := by
      unfold lw_dir
      rw [if_pos ht, af, isin, hb0, hX, hY, x_add, x_add, et]
      rfl
    have rch : sp_rch F (5 + j) (X + dz a) (Y + dz b) = (!decide (F (5 + j) 6 < sp_max (sp_abs (dz a)) (sp_abs (dz b))) && !decide (1 < sp_bet (F (5 + j) 4) (nI t))) := by
      unfold sp_rch sp_rng sp_dist
      rw [af, hX, hY, x_add, x_add, et, decide_eq_false ed]
      rfl
    have back : lw_dir F j (X - dz a) (Y - dz b) = -1000 ∨ lw_dir F j (X - dz a) (Y - dz b) = (nI t + 4) - (nI t + 4) / 8 * 8 := by
      unfold lw_dir
      split
      · rw [af, isin2, hb0, hX, hY, x_sub, x_sub, eb, et]
        right
        rfl
      · left; rfl
    have bet := dr_b _ hA.2.2.2.2.1 t ht8
    rw [← e4] at bet
    have n8 : ((8 : Int32) = 0) = False := by decide
    have m101' := m101 (F := F) (L := L) (C := C) (fm := fm) (k := k + lw_drk F j (X + dz a) (Y + dz b) + lw_drk F j (X - dz a) (Y - dz b)) (scr := scr) hn ht
    rw [rch] at m101'
    have nm1 := nm t (by omega)
    have fin : ∀ v : Int32, (v = -1000 ∨ v = (nI t + 4) - (nI t + 4) / 8 * 8) → lw_dir F j (X - dz a) (Y - dz b) = v → ∃ m7 m8 m9 m10, np_X 173 34 [some (.ref 0), some (.int (nI j)), some (.int X), some (.int Y), some (.int 1), some (.int (dz a)), some (.int (dz b)), l7, l8, l9, l10] [] (np_S F L C fm k scr) = np_X 173 34 [some (.ref 0), some (.int (nI j)), some (.int X), some (.int Y), some (.int 1), some (.int (dz a)), some (.int (dz (b + 1))), m7, m8, m9, m10] [] (np_S F L C fm (k + lw_drk F j (X + dz a) (Y + dz b) + lw_drk F j (X - dz a) (Y - dz b)) scr) := by
      intro v hv ev
      have bt : sp_min (sp_far (nI t) (F (5 + j) 4)) (8 - sp_far (nI t) (F (5 + j) 4)) = (if 8 - sp_far (nI t) (F (5 + j) 4) < sp_far (nI t) (F (5 + j) 4) then 8 - sp_far (nI t) (F (5 + j) 4) else sp_far (nI t) (F (5 + j) 4)) := rfl
      have mx : sp_max (sp_abs (dz a)) (sp_abs (dz b)) = (if sp_abs (dz a) < sp_abs (dz b) then sp_abs (dz b) else sp_abs (dz a)) := rfl
      rw [bet] at bt
      rw [mx] at m101'
      generalize hM : (if sp_abs (dz a) < sp_abs (dz b) then sp_abs (dz b) else sp_abs (dz a)) = M at m101'
      generalize hB : sp_bet (F (5 + j) 4) (nI t) = B at m101' bt
      generalize hP : sp_far (nI t) (F (5 + j) 4) = P at bt
      by_cases c1 : F (5 + j) 6 < M
      · refine ⟨some (.int (nI t)), some (.int v), some (.int P), some (.int 0), ?_⟩
        have i0 : np_i (!decide (F (5 + j) 6 < M) && !decide (1 < B)) = 0 := by rw [decide_eq_true c1]; rfl
        rw [i0] at m101'
        rw [e173_34]
        rcases hv with rfl | rfl
        · simp only [e173_0, e173_0u, e173_1, e173_2, e173_5n, e173_5i, e173_5r, e173_5v, e173_6, e173_6u, e173_7, e173_8, e173_11n, e173_11i, e173_11r, e173_11v, e173_12, e173_13n, e173_13i, e173_13r, e173_13v, e173_15, e173_17n, e173_17i, e173_17r, e173_17v, e173_19, e173_21, e173_24, e173_26, e173_27, e173_30, e173_32n, e173_32i, e173_32r, e173_32v, e173_36, e173_39, e173_41, e173_42, e173_45, e173_45u, e173_46, e173_47, e173_48, e173_50, e173_51, e173_52, e173_54, e173_55, e173_58n, e173_58i, e173_58r, e173_58v, e173_60, e173_60u, e173_61, e173_62, e173_63, e173_65, e173_66, e173_67, e173_69, e173_70, e173_73n, e173_73i, e173_73r, e173_73v, e173_75, e173_77, e173_80, e173_83, e173_85, e173_85u, e173_86, e173_87, e173_90, e173_93n, e173_93i, e173_93r, e173_93v, e173_95, e173_97, e173_98, e173_101, e173_103, e173_104, e173_107, e173_110, e173_110u, e173_111, e173_112, e173_115, e173_118, e173_120, e173_122, e173_124, e173_125, e173_128, e173_129, e173_132, e173_133, e173_136, e173_137n, e173_137i, e173_137r, e173_137v, e173_139, e173_139u, e173_140, e173_141, e173_142, e173_144, e173_145, e173_146, e173_148, e173_149, e173_152, e173_154, e173_157, e173_159, e173_162, e173_165, e173_167, e173_169, e173_170, e173_171, e173_173, e173_174, e173_177, e173_178, e173_181, e173_182n, e173_182i, e173_182r, e173_182v, e173_184n, e173_184i, e173_184r, e173_184v, e173_187, e173_190n, e173_190i, e173_190r, e173_190v, e173_193, e173_196, e173_198, n10, n8, not_false_eq_true, s1, s2, if_true, if_false, q1, q2, ev, d1, isoN, np_len0, List.length_cons, List.length_nil, Nat.reduceLeDiff, Nat.reduceAdd, np_aft_v, nm1, m89 hn, m90 hn, m170, hP, dr_f a ha, dr_f b hb, hM, c1, m101', nme]
        · by_cases z : (nI t + 4) - (nI t + 4) / 8 * 8 = -1000
          · simp only [e173_0, e173_0u, e173_1, e173_2, e173_5n, e173_5i, e173_5r, e173_5v, e173_6, e173_6u, e173_7, e173_8, e173_11n, e173_11i, e173_11r, e173_11v, e173_12, e173_13n, e173_13i, e173_13r, e173_13v, e173_15, e173_17n, e173_17i, e173_17r, e173_17v, e173_19, e173_21, e173_24, e173_26, e173_27, e173_30, e173_32n, e173_32i, e173_32r, e173_32v, e173_36, e173_39, e173_41, e173_42, e173_45, e173_45u, e173_46, e173_47, e173_48, e173_50, e173_51, e173_52, e173_54, e173_55, e173_58n, e173_58i, e173_58r, e173_58v, e173_60, e173_60u, e173_61, e173_62, e173_63, e173_65, e173_66, e173_67, e173_69, e173_70, e173_73n, e173_73i, e173_73r, e173_73v, e173_75, e173_77, e173_80, e173_83, e173_85, e173_85u, e173_86, e173_87, e173_90, e173_93n, e173_93i, e173_93r, e173_93v, e173_95, e173_97, e173_98, e173_101, e173_103, e173_104, e173_107, e173_110, e173_110u, e173_111, e173_112, e173_115, e173_118, e173_120, e173_122, e173_124, e173_125, e173_128, e173_129, e173_132, e173_133, e173_136, e173_137n, e173_137i, e173_137r, e173_137v, e173_139, e173_139u, e173_140, e173_141, e173_142, e173_144, e173_145, e173_146, e173_148, e173_149, e173_152, e173_154, e173_157, e173_159, e173_162, e173_165, e173_167, e173_169, e173_170, e173_171, e173_173, e173_174, e173_177, e173_178, e173_181, e173_182n, e173_182i, e173_182r, e173_182v, e173_184n, e173_184i, e173_184r, e173_184v, e173_187, e173_190n, e173_190i, e173_190r, e173_190v, e173_193, e173_196, e173_198, n10, n8, not_false_eq_true, s1, s2, if_true, if_false, q1, q2, ev, d1, isoN, np_len0, List.length_cons, List.length_nil, Nat.reduceLeDiff, Nat.reduceAdd, np_aft_v, nm1, m89 hn, m90 hn, m170, hP, dr_f a ha, dr_f b hb, hM, c1, m101', z]
          · simp only [e173_0, e173_0u, e173_1, e173_2, e173_5n, e173_5i, e173_5r, e173_5v, e173_6, e173_6u, e173_7, e173_8, e173_11n, e173_11i, e173_11r, e173_11v, e173_12, e173_13n, e173_13i, e173_13r, e173_13v, e173_15, e173_17n, e173_17i, e173_17r, e173_17v, e173_19, e173_21, e173_24, e173_26, e173_27, e173_30, e173_32n, e173_32i, e173_32r, e173_32v, e173_36, e173_39, e173_41, e173_42, e173_45, e173_45u, e173_46, e173_47, e173_48, e173_50, e173_51, e173_52, e173_54, e173_55, e173_58n, e173_58i, e173_58r, e173_58v, e173_60, e173_60u, e173_61, e173_62, e173_63, e173_65, e173_66, e173_67, e173_69, e173_70, e173_73n, e173_73i, e173_73r, e173_73v, e173_75, e173_77, e173_80, e173_83, e173_85, e173_85u, e173_86, e173_87, e173_90, e173_93n, e173_93i, e173_93r, e173_93v, e173_95, e173_97, e173_98, e173_101, e173_103, e173_104, e173_107, e173_110, e173_110u, e173_111, e173_112, e173_115, e173_118, e173_120, e173_122, e173_124, e173_125, e173_128, e173_129, e173_132, e173_133, e173_136, e173_137n, e173_137i, e173_137r, e173_137v, e173_139, e173_139u, e173_140, e173_141, e173_142, e173_144, e173_145, e173_146, e173_148, e173_149, e173_152, e173_154, e173_157, e173_159, e173_162, e173_165, e173_167, e173_169, e173_170, e173_171, e173_173, e173_174, e173_177, e173_178, e173_181, e173_182n, e173_182i, e173_182r, e173_182v, e173_184n, e173_184i, e173_184r, e173_184v, e173_187, e173_190n, e173_190i, e173_190r, e173_190v, e173_193, e173_196, e173_198, n10, n8, not_false_eq_true, s1, s2, if_true, if_false, q1, q2, ev, d1, isoN, np_len0, List.length_cons, List.length_nil, Nat.reduceLeDiff, Nat.reduceAdd, np_aft_v, nm1, m89 hn, m90 hn, m170, hP, dr_f a ha, dr_f b hb, hM, c1, m101', z]
      · by_cases c2 : 1 < B
        · refine ⟨some (.int (nI t)), some (.int v), some (.int P), some (.int 0), ?_⟩
          have i0 : np_i (!decide (F (5 + j) 6 < M) && !decide (1 < B)) = 0 := by rw [decide_eq_false c1, decide_eq_true c2]; rfl
          rw [i0] at m101'
          rw [e173_34]
          rcases hv with rfl | rfl
          · simp only [e173_0, e173_0u, e173_1, e173_2, e173_5n, e173_5i, e173_5r, e173_5v, e173_6, e173_6u, e173_7, e173_8, e173_11n, e173_11i, e173_11r, e173_11v, e173_12, e173_13n, e173_13i, e173_13r, e173_13v, e173_15, e173_17n, e173_17i, e173_17r, e173_17v, e173_19, e173_21, e173_24, e173_26, e173_27, e173_30, e173_32n, e173_32i, e173_32r, e173_32v, e173_36, e173_39, e173_41, e173_42, e173_45, e173_45u, e173_46, e173_47, e173_48, e173_50, e173_51, e173_52, e173_54, e173_55, e173_58n, e173_58i, e173_58r, e173_58v, e173_60, e173_60u, e173_61, e173_62, e173_63, e173_65, e173_66, e173_67, e173_69, e173_70, e173_73n, e173_73i, e173_73r, e173_73v, e173_75, e173_77, e173_80, e173_83, e173_85, e173_85u, e173_86, e173_87, e173_90, e173_93n, e173_93i, e173_93r, e173_93v, e173_95, e173_97, e173_98, e173_101, e173_103, e173_104, e173_107, e173_110, e173_110u, e173_111, e173_112, e173_115, e173_118, e173_120, e173_122, e173_124, e173_125, e173_128, e173_129, e173_132, e173_133, e173_136, e173_137n, e173_137i, e173_137r, e173_137v, e173_139, e173_139u, e173_140, e173_141, e173_142, e173_144, e173_145, e173_146, e173_148, e173_149, e173_152, e173_154, e173_157, e173_159, e173_162, e173_165, e173_167, e173_169, e173_170, e173_171, e173_173, e173_174, e173_177, e173_178, e173_181, e173_182n, e173_182i, e173_182r, e173_182v, e173_184n, e173_184i, e173_184r, e173_184v, e173_187, e173_190n, e173_190i, e173_190r, e173_190v, e173_193, e173_196, e173_198, n10, n8, not_false_eq_true, s1, s2, if_true, if_false, q1, q2, ev, d1, isoN, np_len0, List.length_cons, List.length_nil, Nat.reduceLeDiff, Nat.reduceAdd, np_aft_v, nm1, m89 hn, m90 hn, m170, hP, dr_f a ha, dr_f b hb, hM, c1, ← bt, c2, m101', nme]
          · by_cases z : (nI t + 4) - (nI t + 4) / 8 * 8 = -1000
            · simp only [e173_0, e173_0u, e173_1, e173_2, e173_5n, e173_5i, e173_5r, e173_5v, e173_6, e173_6u, e173_7, e173_8, e173_11n, e173_11i, e173_11r, e173_11v, e173_12, e173_13n, e173_13i, e173_13r, e173_13v, e173_15, e173_17n, e173_17i, e173_17r, e173_17v, e173_19, e173_21, e173_24, e173_26, e173_27, e173_30, e173_32n, e173_32i, e173_32r, e173_32v, e173_36, e173_39, e173_41, e173_42, e173_45, e173_45u, e173_46, e173_47, e173_48, e173_50, e173_51, e173_52, e173_54, e173_55, e173_58n, e173_58i, e173_58r, e173_58v, e173_60, e173_60u, e173_61, e173_62, e173_63, e173_65, e173_66, e173_67, e173_69, e173_70, e173_73n, e173_73i, e173_73r, e173_73v, e173_75, e173_77, e173_80, e173_83, e173_85, e173_85u, e173_86, e173_87, e173_90, e173_93n, e173_93i, e173_93r, e173_93v, e173_95, e173_97, e173_98, e173_101, e173_103, e173_104, e173_107, e173_110, e173_110u, e173_111, e173_112, e173_115, e173_118, e173_120, e173_122, e173_124, e173_125, e173_128, e173_129, e173_132, e173_133, e173_136, e173_137n, e173_137i, e173_137r, e173_137v, e173_139, e173_139u, e173_140, e173_141, e173_142, e173_144, e173_145, e173_146, e173_148, e173_149, e173_152, e173_154, e173_157, e173_159, e173_162, e173_165, e173_167, e173_169, e173_170, e173_171, e173_173, e173_174, e173_177, e173_178, e173_181, e173_182n, e173_182i, e173_182r, e173_182v, e173_184n, e173_184i, e173_184r, e173_184v, e173_187, e173_190n, e173_190i, e173_190r, e173_190v, e173_193, e173_196, e173_198, n10, n8, not_false_eq_true, s1, s2, if_true, if_false, q1, q2, ev, d1, isoN, np_len0, List.length_cons, List.length_nil, Nat.reduceLeDiff, Nat.reduceAdd, np_aft_v, nm1, m89 hn, m90 hn, m170, hP, dr_f a ha, dr_f b hb, hM, c1, ← bt, c2, m101', z]
            · simp only [e173_0, e173_0u, e173_1, e173_2, e173_5n, e173_5i, e173_5r, e173_5v, e173_6, e173_6u, e173_7, e173_8, e173_11n, e173_11i, e173_11r, e173_11v, e173_12, e173_13n, e173_13i, e173_13r, e173_13v, e173_15, e173_17n, e173_17i, e173_17r, e173_17v, e173_19, e173_21, e173_24, e173_26, e173_27, e173_30, e173_32n, e173_32i, e173_32r, e173_32v, e173_36, e173_39, e173_41, e173_42, e173_45, e173_45u, e173_46, e173_47, e173_48, e173_50, e173_51, e173_52, e173_54, e173_55, e173_58n, e173_58i, e173_58r, e173_58v, e173_60, e173_60u, e173_61, e173_62, e173_63, e173_65, e173_66, e173_67, e173_69, e173_70, e173_73n, e173_73i, e173_73r, e173_73v, e173_75, e173_77, e173_80, e173_83, e173_85, e173_85u, e173_86, e173_87, e173_90, e173_93n, e173_93i, e173_93r, e173_93v, e173_95, e173_97, e173_98, e173_101, e173_103, e173_104, e173_107, e173_110, e173_110u, e173_111, e173_112, e173_115, e173_118, e173_120, e173_122, e173_124, e173_125, e173_128, e173_129, e173_132, e173_133, e173_136, e173_137n, e173_137i, e173_137r, e173_137v, e173_139, e173_139u, e173_140, e173_141, e173_142, e173_144, e173_145, e173_146, e173_148, e173_149, e173_152, e173_154, e173_157, e173_159, e173_162, e173_165, e173_167, e173_169, e173_170, e173_171, e173_173, e173_174, e173_177, e173_178, e173_181, e173_182n, e173_182i, e173_182r, e173_182v, e173_184n, e173_184i, e173_184r, e173_184v, e173_187, e173_190n, e173_190i, e173_190r, e173_190v, e173_193, e173_196, e173_198, n10, n8, not_false_eq_true, s1, s2, if_true, if_false, q1, q2, ev, d1, isoN, np_len0, List.length_cons, List.length_nil, Nat.reduceLeDiff, Nat.reduceAdd, np_aft_v, nm1, m89 hn, m90 hn, m170, hP, dr_f a ha, dr_f b hb, hM, c1, ← bt, c2, m101', z]
        · refine ⟨some (.int (nI t)), some (.int v), some (.int P), some (.int 1), ?_⟩
          have i0 : np_i (!decide (F (5 + j) 6 < M) && !decide (1 < B)) = 1 := by rw [decide_eq_false c1, decide_eq_false c2]; rfl
          rw [i0] at m101'
          rw [e173_34]
          rcases hv with rfl | rfl
          · simp only [e173_0, e173_0u, e173_1, e173_2, e173_5n, e173_5i, e173_5r, e173_5v, e173_6, e173_6u, e173_7, e173_8, e173_11n, e173_11i, e173_11r, e173_11v, e173_12, e173_13n, e173_13i, e173_13r, e173_13v, e173_15, e173_17n, e173_17i, e173_17r, e173_17v, e173_19, e173_21, e173_24, e173_26, e173_27, e173_30, e173_32n, e173_32i, e173_32r, e173_32v, e173_36, e173_39, e173_41, e173_42, e173_45, e173_45u, e173_46, e173_47, e173_48, e173_50, e173_51, e173_52, e173_54, e173_55, e173_58n, e173_58i, e173_58r, e173_58v, e173_60, e173_60u, e173_61, e173_62, e173_63, e173_65, e173_66, e173_67, e173_69, e173_70, e173_73n, e173_73i, e173_73r, e173_73v, e173_75, e173_77, e173_80, e173_83, e173_85, e173_85u, e173_86, e173_87, e173_90, e173_93n, e173_93i, e173_93r, e173_93v, e173_95, e173_97, e173_98, e173_101, e173_103, e173_104, e173_107, e173_110, e173_110u, e173_111, e173_112, e173_115, e173_118, e173_120, e173_122, e173_124, e173_125, e173_128, e173_129, e173_132, e173_133, e173_136, e173_137n, e173_137i, e173_137r, e173_137v, e173_139, e173_139u, e173_140, e173_141, e173_142, e173_144, e173_145, e173_146, e173_148, e173_149, e173_152, e173_154, e173_157, e173_159, e173_162, e173_165, e173_167, e173_169, e173_170, e173_171, e173_173, e173_174, e173_177, e173_178, e173_181, e173_182n, e173_182i, e173_182r, e173_182v, e173_184n, e173_184i, e173_184r, e173_184v, e173_187, e173_190n, e173_190i, e173_190r, e173_190v, e173_193, e173_196, e173_198, n10, n8, not_false_eq_true, s1, s2, if_true, if_false, q1, q2, ev, d1, isoN, np_len0, List.length_cons, List.length_nil, Nat.reduceLeDiff, Nat.reduceAdd, np_aft_v, nm1, m89 hn, m90 hn, m170, hP, dr_f a ha, dr_f b hb, hM, c1, ← bt, c2, m101', nme]
          · by_cases z : (nI t + 4) - (nI t + 4) / 8 * 8 = -1000
            · simp only [e173_0, e173_0u, e173_1, e173_2, e173_5n, e173_5i, e173_5r, e173_5v, e173_6, e173_6u, e173_7, e173_8, e173_11n, e173_11i, e173_11r, e173_11v, e173_12, e173_13n, e173_13i, e173_13r, e173_13v, e173_15, e173_17n, e173_17i, e173_17r, e173_17v, e173_19, e173_21, e173_24, e173_26, e173_27, e173_30, e173_32n, e173_32i, e173_32r, e173_32v, e173_36, e173_39, e173_41, e173_42, e173_45, e173_45u, e173_46, e173_47, e173_48, e173_50, e173_51, e173_52, e173_54, e173_55, e173_58n, e173_58i, e173_58r, e173_58v, e173_60, e173_60u, e173_61, e173_62, e173_63, e173_65, e173_66, e173_67, e173_69, e173_70, e173_73n, e173_73i, e173_73r, e173_73v, e173_75, e173_77, e173_80, e173_83, e173_85, e173_85u, e173_86, e173_87, e173_90, e173_93n, e173_93i, e173_93r, e173_93v, e173_95, e173_97, e173_98, e173_101, e173_103, e173_104, e173_107, e173_110, e173_110u, e173_111, e173_112, e173_115, e173_118, e173_120, e173_122, e173_124, e173_125, e173_128, e173_129, e173_132, e173_133, e173_136, e173_137n, e173_137i, e173_137r, e173_137v, e173_139, e173_139u, e173_140, e173_141, e173_142, e173_144, e173_145, e173_146, e173_148, e173_149, e173_152, e173_154, e173_157, e173_159, e173_162, e173_165, e173_167, e173_169, e173_170, e173_171, e173_173, e173_174, e173_177, e173_178, e173_181, e173_182n, e173_182i, e173_182r, e173_182v, e173_184n, e173_184i, e173_184r, e173_184v, e173_187, e173_190n, e173_190i, e173_190r, e173_190v, e173_193, e173_196, e173_198, n10, n8, not_false_eq_true, s1, s2, if_true, if_false, q1, q2, ev, d1, isoN, np_len0, List.length_cons, List.length_nil, Nat.reduceLeDiff, Nat.reduceAdd, np_aft_v, nm1, m89 hn, m90 hn, m170, hP, dr_f a ha, dr_f b hb, hM, c1, ← bt, c2, m101', z]
            · simp only [e173_0, e173_0u, e173_1, e173_2, e173_5n, e173_5i, e173_5r, e173_5v, e173_6, e173_6u, e173_7, e173_8, e173_11n, e173_11i, e173_11r, e173_11v, e173_12, e173_13n, e173_13i, e173_13r, e173_13v, e173_15, e173_17n, e173_17i, e173_17r, e173_17v, e173_19, e173_21, e173_24, e173_26, e173_27, e173_30, e173_32n, e173_32i, e173_32r, e173_32v, e173_36, e173_39, e173_41, e173_42, e173_45, e173_45u, e173_46, e173_47, e173_48, e173_50, e173_51, e173_52, e173_54, e173_55, e173_58n, e173_58i, e173_58r, e173_58v, e173_60, e173_60u, e173_61, e173_62, e173_63, e173_65, e173_66, e173_67, e173_69, e173_70, e173_73n, e173_73i, e173_73r, e173_73v, e173_75, e173_77, e173_80, e173_83, e173_85, e173_85u, e173_86, e173_87, e173_90, e173_93n, e173_93i, e173_93r, e173_93v, e173_95, e173_97, e173_98, e173_101, e173_103, e173_104, e173_107, e173_110, e173_110u, e173_111, e173_112, e173_115, e173_118, e173_120, e173_122, e173_124, e173_125, e173_128, e173_129, e173_132, e173_133, e173_136, e173_137n, e173_137i, e173_137r, e173_137v, e173_139, e173_139u, e173_140, e173_141, e173_142, e173_144, e173_145, e173_146, e173_148, e173_149, e173_152, e173_154, e173_157, e173_159, e173_162, e173_165, e173_167, e173_169, e173_170, e173_171, e173_173, e173_174, e173_177, e173_178, e173_181, e173_182n, e173_182i, e173_182r, e173_182v, e173_184n, e173_184i, e173_184r, e173_184v, e173_187, e173_190n, e173_190i, e173_190r, e173_190v, e173_193, e173_196, e173_198, n10, n8, not_false_eq_true, s1, s2, if_true, if_false, q1, q2, ev, d1, isoN, np_len0, List.length_cons, List.length_nil, Nat.reduceLeDiff, Nat.reduceAdd, np_aft_v, nm1, m89 hn, m90 hn, m170, hP, dr_f a ha, dr_f b hb, hM, c1, ← bt, c2, m101', z]
    obtain ⟨m7, m8, m9, m10, e⟩ := fin _ back rfl
    exact ⟨_, m7, m8, m9, m10, by omega, e⟩
  · have d1 : lw_dir F j (X + dz a) (Y + dz b) = -1000 := by
      unfold lw_dir
      split
      · rename_i ht
        rw [isin]
        have : dz a = 0 ∧ dz b = 0 := by
          by_cases z : dz a = 0 ∧ dz b = 0
          · exact z
          · exact absurd ⟨ht, z⟩ hs
        rw [this.1, this.2]
        simp
      · rfl
    refine ⟨k + lw_drk F j (X + dz a) (Y + dz b) + lw_drk F j (X - dz a) (Y - dz b), some (.int (-1000)), some (.int (lw_dir F j (X - dz a) (Y - dz b))), l9, l10, by omega, ?_⟩
    rw [e173_34]
    simp only [e173_0, e173_0u, e173_1, e173_2, e173_5n, e173_5i, e173_5r, e173_5v, e173_6, e173_6u, e173_7, e173_8, e173_11n, e173_11i, e173_11r, e173_11v, e173_12, e173_13n, e173_13i, e173_13r, e173_13v, e173_15, e173_17n, e173_17i, e173_17r, e173_17v, e173_19, e173_21, e173_24, e173_26, e173_27, e173_30, e173_32n, e173_32i, e173_32r, e173_32v, e173_36, e173_39, e173_41, e173_42, e173_45, e173_45u, e173_46, e173_47, e173_48, e173_50, e173_51, e173_52, e173_54, e173_55, e173_58n, e173_58i, e173_58r, e173_58v, e173_60, e173_60u, e173_61, e173_62, e173_63, e173_65, e173_66, e173_67, e173_69, e173_70, e173_73n, e173_73i, e173_73r, e173_73v, e173_75, e173_77, e173_80, e173_83, e173_85, e173_85u, e173_86, e173_87, e173_90, e173_93n, e173_93i, e173_93r, e173_93v, e173_95, e173_97, e173_98, e173_101, e173_103, e173_104, e173_107, e173_110, e173_110u, e173_111, e173_112, e173_115, e173_118, e173_120, e173_122, e173_124, e173_125, e173_128, e173_129, e173_132, e173_133, e173_136, e173_137n, e173_137i, e173_137r, e173_137v, e173_139, e173_139u, e173_140, e173_141, e173_142, e173_144, e173_145, e173_146, e173_148, e173_149, e173_152, e173_154, e173_157, e173_159, e173_162, e173_165, e173_167, e173_169, e173_170, e173_171, e173_173, e173_174, e173_177, e173_178, e173_181, e173_182n, e173_182i, e173_182r, e173_182v, e173_184n, e173_184i, e173_184r, e173_184v, e173_187, e173_190n, e173_190i, e173_190r, e173_190v, e173_193, e173_196, e173_198, n10, s1, s2, if_true, if_false, q1, q2, d1, isoN, np_len0, List.length_cons, List.length_nil, Nat.reduceLeDiff, Nat.reduceAdd, np_aft_v, nme]
theorem l173b (hr : gm_rep F V) (hk : gm_ok V) {j : Nat} (hj : j < V 1 3) (h5 : ¬ V (5 + j) 5 = 0) {a : Nat} (ha : a < 7) : ∀ (n b : Nat), b + n = 7 → ∀ (k : Nat) (l7 l8 l9 l10 : Option Value), ∃ k' m7 m8 m9 m10, k' ≤ k + 2 * n ∧ np_X 173 34 [some (.ref 0), some (.int (nI j)), some (.int (F (5 + j) 2)), some (.int (F (5 + j) 3)), some (.int 1), some (.int (dz a)), some (.int (dz b)), l7, l8, l9, l10] [] (np_S F L C fm k scr) = np_X 173 190 [some (.ref 0), some (.int (nI j)), some (.int (F (5 + j) 2)), some (.int (F (5 + j) 3)), some (.int 1), some (.int (dz a)), some (.int (dz 7)), m7, m8, m9, m10] [] (np_S F L C fm k' scr)
  | 0, b, h, k, l7, l8, l9, l10 => by
    obtain rfl : b = 7 := by omega
    refine ⟨k, l7, l8, l9, l10, by omega, ?_⟩
    rw [e173_34]
    simp only [e173_0, e173_0u, e173_1, e173_2, e173_5n, e173_5i, e173_5r, e173_5v, e173_6, e173_6u, e173_7, e173_8, e173_11n, e173_11i, e173_11r, e173_11v, e173_12, e173_13n, e173_13i, e173_13r, e173_13v, e173_15, e173_17n, e173_17i, e173_17r, e173_17v, e173_19, e173_21, e173_24, e173_26, e173_27, e173_30, e173_32n, e173_32i, e173_32r, e173_32v, e173_36, e173_39, e173_41, e173_42, e173_45, e173_45u, e173_46, e173_47, e173_48, e173_50, e173_51, e173_52, e173_54, e173_55, e173_58n, e173_58i, e173_58r, e173_58v, e173_60, e173_60u, e173_61, e173_62, e173_63, e173_65, e173_66, e173_67, e173_69, e173_70, e173_73n, e173_73i, e173_73r, e173_73v, e173_75, e173_77, e173_80, e173_83, e173_85, e173_85u, e173_86, e173_87, e173_90, e173_93n, e173_93i, e173_93r, e173_93v, e173_95, e173_97, e173_98, e173_101, e173_103, e173_104, e173_107, e173_110, e173_110u, e173_111, e173_112, e173_115, e173_118, e173_120, e173_122, e173_124, e173_125, e173_128, e173_129, e173_132, e173_133, e173_136, e173_137n, e173_137i, e173_137r, e173_137v, e173_139, e173_139u, e173_140, e173_141, e173_142, e173_144, e173_145, e173_146, e173_148, e173_149, e173_152, e173_154, e173_157, e173_159, e173_162, e173_165, e173_167, e173_169, e173_170, e173_171, e173_173, e173_174, e173_177, e173_178, e173_181, e173_182n, e173_182i, e173_182r, e173_182v, e173_184n, e173_184i, e173_184r, e173_184v, e173_187, e173_193, e173_196, e173_198, n10, if_false, dz_7]
  | n + 1, b, h, k, l7, l8, l9, l10 => by
    obtain ⟨k1, m7, m8, m9, m10, hk1, e1⟩ := b173 (L := L) (C := C) (fm := fm) (k := k) (scr := scr) hr hk hj h5 ha (show b < 7 by omega) (l7 := l7) (l8 := l8) (l9 := l9) (l10 := l10)
    obtain ⟨k2, p7, p8, p9, p10, hk2, e2⟩ := l173b hr hk hj h5 ha n (b + 1) (by omega) k1 m7 m8 m9 m10
    exact ⟨k2, p7, p8, p9, p10, by omega, e1.trans e2⟩
theorem l173a (hr : gm_rep F V) (hk : gm_ok V) {j : Nat} (hj : j < V 1 3) (h5 : ¬ V (5 + j) 5 = 0) : ∀ (n a : Nat), a + n = 7 → ∀ (k : Nat) (l6 l7 l8 l9 l10 : Option Value), ∃ k', k' ≤ k + 14 * n ∧ np_X 173 19 [some (.ref 0), some (.int (nI j)), some (.int (F (5 + j) 2)), some (.int (F (5 + j) 3)), some (.int 1), some (.int (dz a)), l6, l7, l8, l9, l10] [] (np_S F L C fm k scr) = np_o 1 (np_S F L C fm k' scr)
  | 0, a, h, k, l6, l7, l8, l9, l10 => by
    obtain rfl : a = 7 := by omega
    refine ⟨k, by omega, ?_⟩
    rw [e173_19]
    simp only [e173_0, e173_0u, e173_1, e173_2, e173_5n, e173_5i, e173_5r, e173_5v, e173_6, e173_6u, e173_7, e173_8, e173_11n, e173_11i, e173_11r, e173_11v, e173_12, e173_13n, e173_13i, e173_13r, e173_13v, e173_15, e173_17n, e173_17i, e173_17r, e173_17v, e173_21, e173_24, e173_26, e173_27, e173_30, e173_32n, e173_32i, e173_32r, e173_32v, e173_36, e173_39, e173_41, e173_42, e173_45, e173_45u, e173_46, e173_47, e173_48, e173_50, e173_51, e173_52, e173_54, e173_55, e173_58n, e173_58i, e173_58r, e173_58v, e173_60, e173_60u, e173_61, e173_62, e173_63, e173_65, e173_66, e173_67, e173_69, e173_70, e173_73n, e173_73i, e173_73r, e173_73v, e173_75, e173_77, e173_80, e173_83, e173_85, e173_85u, e173_86, e173_87, e173_90, e173_93n, e173_93i, e173_93r, e173_93v, e173_95, e173_97, e173_98, e173_101, e173_103, e173_104, e173_107, e173_110, e173_110u, e173_111, e173_112, e173_115, e173_118, e173_120, e173_122, e173_124, e173_125, e173_128, e173_129, e173_132, e173_133, e173_136, e173_137n, e173_137i, e173_137r, e173_137v, e173_139, e173_139u, e173_140, e173_141, e173_142, e173_144, e173_145, e173_146, e173_148, e173_149, e173_152, e173_154, e173_157, e173_159, e173_162, e173_165, e173_167, e173_169, e173_170, e173_171, e173_173, e173_174, e173_177, e173_178, e173_181, e173_182n, e173_182i, e173_182r, e173_182v, e173_184n, e173_184i, e173_184r, e173_184v, e173_187, e173_190n, e173_190i, e173_190r, e173_190v, e173_193, e173_196, e173_198, n10, if_false, dz_7, np_nb1]
  | n + 1, a, h, k, l6, l7, l8, l9, l10 => by
    obtain ⟨s1, s2⟩ := dz_s a (by omega)
    obtain ⟨k1, m7, m8, m9, m10, hk1, e1⟩ := l173b (L := L) (C := C) (fm := fm) (scr := scr) hr hk hj h5 (show a < 7 by omega) 7 0 rfl k l7 l8 l9 l10
    obtain ⟨k2, hk2, e2⟩ := l173a hr hk hj h5 n (a + 1) (by omega) k1 (some (.int (dz 7))) m7 m8 m9 m10
    rw [dz_0] at e1
    refine ⟨k2, by omega, ?_⟩
    rw [e173_19]
    simp only [e173_0, e173_0u, e173_1, e173_2, e173_5n, e173_5i, e173_5r, e173_5v, e173_6, e173_6u, e173_7, e173_8, e173_11n, e173_11i, e173_11r, e173_11v, e173_12, e173_13n, e173_13i, e173_13r, e173_13v, e173_15, e173_17n, e173_17i, e173_17r, e173_17v, e173_21, e173_24, e173_26, e173_27, e173_30, e173_32n, e173_32i, e173_32r, e173_32v, e173_36, e173_39, e173_41, e173_42, e173_45, e173_45u, e173_46, e173_47, e173_48, e173_50, e173_51, e173_52, e173_54, e173_55, e173_58n, e173_58i, e173_58r, e173_58v, e173_60, e173_60u, e173_61, e173_62, e173_63, e173_65, e173_66, e173_67, e173_69, e173_70, e173_73n, e173_73i, e173_73r, e173_73v, e173_75, e173_77, e173_80, e173_83, e173_85, e173_85u, e173_86, e173_87, e173_90, e173_93n, e173_93i, e173_93r, e173_93v, e173_95, e173_97, e173_98, e173_101, e173_103, e173_104, e173_107, e173_110, e173_110u, e173_111, e173_112, e173_115, e173_118, e173_120, e173_122, e173_124, e173_125, e173_128, e173_129, e173_132, e173_133, e173_136, e173_137n, e173_137i, e173_137r, e173_137v, e173_139, e173_139u, e173_140, e173_141, e173_142, e173_144, e173_145, e173_146, e173_148, e173_149, e173_152, e173_154, e173_157, e173_159, e173_162, e173_165, e173_167, e173_169, e173_170, e173_171, e173_173, e173_174, e173_177, e173_178, e173_181, e173_182n, e173_182i, e173_182r, e173_182v, e173_184n, e173_184i, e173_184r, e173_184v, e173_187, e173_190n, e173_190i, e173_190r, e173_190v, e173_193, e173_196, e173_198, n10, if_false, if_true, s2, e1, s1, e2]
theorem q173 (hr : gm_rep F V) (hk : gm_ok V) {j : Nat} (hj : j < V 1 3) (h5 : ¬ V (5 + j) 5 = 0) : ∃ k', k' ≤ k + 98 ∧ np_X 173 0 [some (.ref 0), some (.int (nI j)), none, none, none, none, none, none, none, none, none] [] (np_S F L C fm k scr) = np_o 1 (np_S F L C fm k' scr) := by
  have hc := gv_1 hr (show 3 = 3 ∨ 3 = 4 ∨ 3 = 5 ∨ 3 = 6 ∨ 3 = 8 ∨ 3 = 9 by decide)
  have hn := sp_num_nI hc hk.2.1.1 hj
  have h12 := hk.2.1.1
  have af : sp_aflo F (5 + j) = true := by rw [ga_aflo hr hk.1 (by omega)]; simp [h5]
  have e2 := m87s (L := L) (C := C) (fm := fm) (k := k) (scr := scr) hn
  have e3 := m88s (L := L) (C := C) (fm := fm) (k := k) (scr := scr) hn
  rw [if_pos af] at e2 e3
  obtain ⟨k1, hk1, e1⟩ := l173a (L := L) (C := C) (fm := fm) (scr := scr) hr hk hj h5 7 0 rfl k none none none none none
  rw [dz_0] at e1
  refine ⟨k1, by omega, ?_⟩
  simp only [e173_0, e173_0u, e173_1, e173_2, e173_5n, e173_5i, e173_5r, e173_5v, e173_6, e173_6u, e173_7, e173_8, e173_11n, e173_11i, e173_11r, e173_11v, e173_12, e173_13n, e173_13i, e173_13r, e173_13v, e173_15, e173_17n, e173_17i, e173_17r, e173_17v, e173_21, e173_24, e173_26, e173_27, e173_30, e173_32n, e173_32i, e173_32r, e173_32v, e173_34, e173_36, e173_39, e173_41, e173_42, e173_45, e173_45u, e173_46, e173_47, e173_48, e173_50, e173_51, e173_52, e173_54, e173_55, e173_58n, e173_58i, e173_58r, e173_58v, e173_60, e173_60u, e173_61, e173_62, e173_63, e173_65, e173_66, e173_67, e173_69, e173_70, e173_73n, e173_73i, e173_73r, e173_73v, e173_75, e173_77, e173_80, e173_83, e173_85, e173_85u, e173_86, e173_87, e173_90, e173_93n, e173_93i, e173_93r, e173_93v, e173_95, e173_97, e173_98, e173_101, e173_103, e173_104, e173_107, e173_110, e173_110u, e173_111, e173_112, e173_115, e173_118, e173_120, e173_122, e173_124, e173_125, e173_128, e173_129, e173_132, e173_133, e173_136, e173_137n, e173_137i, e173_137r, e173_137v, e173_139, e173_139u, e173_140, e173_141, e173_142, e173_144, e173_145, e173_146, e173_148, e173_149, e173_152, e173_154, e173_157, e173_159, e173_162, e173_165, e173_167, e173_169, e173_170, e173_171, e173_173, e173_174, e173_177, e173_178, e173_181, e173_182n, e173_182i, e173_182r, e173_182v, e173_184n, e173_184i, e173_184r, e173_184v, e173_187, e173_190n, e173_190i, e173_190r, e173_190v, e173_193, e173_196, e173_198, isoN, np_len0, e2, e3, np_aft_v, e1]
end
