/-! THE PURE PART, 45: isSailed answers 1. -/
section
variable {F : Nat → Nat → Int32} {L : Nat → Int64} {C : Nat → Nat → Int32} {fm k : Nat} {scr : nv_Scr}
abbrev ls175 (F : Nat → Nat → Int32) (L : Nat → Int64) (j c : Nat) (z : Bool) (m : Int32) (l : Option Value) : nv_Ls := [some (.ref 0), some (.int (nI j)), some (.int (np_i z)), some (.long (lw_dig F L c)), none, some (.int (lw_ahd F j)), some (.int (lw_x F j 2)), some (.int (lw_x F j 3)), some (.int (lw_lft F)), some (.long (L 1)), none, some (.int (F (5 + j) 6)), some (.int m), l]
theorem h175 {c j : Nat} {z : Bool} (hc : F 1 3 = nI c) (h12 : c ≤ 12) (hj : j < c) (hB : F 1 4 = 0 ∨ F 1 4 = 1) : ∃ k2, k2 ≤ k + 54 ∧ ∀ (m : Int32) (σ : nv_St), np_X 148 0 [some (.ref 0), some (.int (nI j)), some (.int 2), some (.int (np_i z)), none, none] [] (np_S F L C fm k2 scr) = np_o m σ → np_X 175 0 [some (.ref 0), some (.int (nI j)), some (.int (np_i z)), none, none, none, none, none, none, none, none, none, none, none] [] (np_S F L C fm k scr) = np_X 175 54 (ls175 F L j c z m none) [] σ := by
  have hn := sp_num_nI hc h12 hj
  obtain ⟨k1, hk1, e1⟩ := q169 (L := L) (C := C) (fm := fm) (k := k) (scr := scr) hc h12 hB
  have lk := @lw_k_le F j
  have gk := @lw_gk_le F
  refine ⟨k1 + lw_k F j + lw_k F j + lw_k F j + lw_gk F, by omega, fun m σ e => ?_⟩
  simp only [e175_0, e175_0u, e175_1, e175_4n, e175_4i, e175_4r, e175_4v, e175_5, e175_5u, e175_6, e175_7, e175_10n, e175_10i, e175_10r, e175_10v, e175_12, e175_12u, e175_13, e175_14, e175_17n, e175_17i, e175_17r, e175_17v, e175_19, e175_19u, e175_20, e175_21, e175_24n, e175_24i, e175_24r, e175_24v, e175_26, e175_26u, e175_27, e175_30n, e175_30i, e175_30r, e175_30v, e175_32, e175_32u, e175_33, e175_36n, e175_36i, e175_36r, e175_36v, e175_38, e175_38u, e175_39, e175_40, e175_43n, e175_43i, e175_43r, e175_43v, e175_45, e175_45u, e175_46, e175_47, e175_48, e175_49, e175_52n, e175_52i, e175_52r, e175_52v, e175_56, e175_58, e175_61, e175_63, e175_64, e175_67, e175_67u, e175_68, e175_69, e175_72, e175_75, e175_75u, e175_76, e175_79, e175_79u, e175_80, e175_81, e175_84, e175_87, e175_89, e175_92, e175_93, e175_96, e175_98, e175_101, e175_101u, e175_102, e175_105, e175_106, e175_107, e175_110, e175_111, e175_114, e175_115, e175_116, e175_118, e175_119, e175_121, e175_124, e175_127, e175_127u, e175_128, e175_129, e175_131, e175_133, e175_136, e175_138, e175_141, e175_141u, e175_142, e175_145, e175_147, e175_148, e175_149, e175_152, e175_152u, e175_153, e175_156, e175_158, e175_160, e175_161, e175_162, e175_163, e175_166, e175_166u, e175_167, e175_168, e175_171, e175_173, e175_174, e175_177, e175_178, e175_181, e175_182, e175_183, e175_186, e175_187, e175_190, e175_190u, e175_191, e175_192, e175_195, e175_198, e175_198u, e175_199, e175_202, e175_205, e175_205u, e175_206, e175_207, e175_210, e175_213, e175_214, e175_217, e175_218n, e175_218i, e175_218r, e175_218v, e175_220, e175_222, e175_225, e175_225u, e175_226, e175_229, e175_232, e175_232u, e175_233, e175_236, e175_237, e175_238, e175_241, e175_242, e175_245, e175_246, isoN, np_len0, List.length_cons, List.length_nil, Nat.reduceLeDiff, Nat.reduceAdd, e1, np_aft_v, q159 hn, q151 hn, q152 hn, q146, m110, m90 hn, e]
theorem p175f (w : WI F) {c j : Nat} {z : Bool} (hc : F 1 3 = nI c) (h12 : c ≤ 12) (hj : j < c) {F' : Nat → Nat → Int32} {L' : Nat → Int64} (w' : WI F') (hs : np_same F F') (hL : L' 1 = L 1) (hn : ¬ can F j z) : ∃ k', k' ≤ k + 51 ∧ np_X 175 54 (ls175 F L j c z (-100000000) none) [] (np_S F' L' C fm k scr) = np_o 1 (np_S F' L' C fm k' scr) := by
  have hc' : F' 1 3 = nI c := by rw [← hs 1 3 (us_1 (by decide))]; exact hc
  have hnum := sp_num_nI hc' h12 hj
  have j12 : j < 12 := by omega
  have gk := @lw_gk_le F'
  have ee : ((-100000000 : Int32) = -100000000) = True := eq_self _
  have e0 : np_i false = 0 := rfl
  have e1 : np_i true = 1 := rfl
  have key : ∃ k1, k1 ≤ k + 1 ∧ np_X 175 54 (ls175 F L j c z (-100000000) none) [] (np_S F' L' C fm k scr) = np_X 175 101 (ls175 F L j c z (-100000000) none) [] (np_S F' L' C fm k1 scr) := by
    by_cases hl : lw_lft F < 1
    · refine ⟨k, Nat.le_succ _, ?_⟩
      simp only [e175_0, e175_0u, e175_1, e175_4n, e175_4i, e175_4r, e175_4v, e175_5, e175_5u, e175_6, e175_7, e175_10n, e175_10i, e175_10r, e175_10v, e175_12, e175_12u, e175_13, e175_14, e175_17n, e175_17i, e175_17r, e175_17v, e175_19, e175_19u, e175_20, e175_21, e175_24n, e175_24i, e175_24r, e175_24v, e175_26, e175_26u, e175_27, e175_30n, e175_30i, e175_30r, e175_30v, e175_32, e175_32u, e175_33, e175_36n, e175_36i, e175_36r, e175_36v, e175_38, e175_38u, e175_39, e175_40, e175_43n, e175_43i, e175_43r, e175_43v, e175_45, e175_45u, e175_46, e175_47, e175_48, e175_49, e175_52n, e175_52i, e175_52r, e175_52v, e175_54, e175_56, e175_58, e175_61, e175_63, e175_64, e175_67, e175_67u, e175_68, e175_69, e175_72, e175_75, e175_75u, e175_76, e175_79, e175_79u, e175_80, e175_81, e175_84, e175_87, e175_89, e175_92, e175_93, e175_96, e175_98, e175_102, e175_105, e175_106, e175_107, e175_110, e175_111, e175_114, e175_115, e175_116, e175_118, e175_119, e175_121, e175_124, e175_127, e175_127u, e175_128, e175_129, e175_131, e175_133, e175_136, e175_138, e175_141, e175_141u, e175_142, e175_145, e175_147, e175_148, e175_149, e175_152, e175_152u, e175_153, e175_156, e175_158, e175_160, e175_161, e175_162, e175_163, e175_166, e175_166u, e175_167, e175_168, e175_171, e175_173, e175_174, e175_177, e175_178, e175_181, e175_182, e175_183, e175_186, e175_187, e175_190, e175_190u, e175_191, e175_192, e175_195, e175_198, e175_198u, e175_199, e175_202, e175_205, e175_205u, e175_206, e175_207, e175_210, e175_213, e175_214, e175_217, e175_218n, e175_218i, e175_218r, e175_218v, e175_220, e175_222, e175_225, e175_225u, e175_226, e175_229, e175_232, e175_232u, e175_233, e175_236, e175_237, e175_238, e175_241, e175_242, e175_245, e175_246, ls175, ee, if_true, hl]
    · cases ha : sp_aflo F' (5 + j) with
      | false =>
        have m92' := m92 (F := F') (L := L') (C := C) (fm := fm) (k := k) (scr := scr) hnum
        rw [ha] at m92'
        refine ⟨k, Nat.le_succ _, ?_⟩
        simp only [e175_0, e175_0u, e175_1, e175_4n, e175_4i, e175_4r, e175_4v, e175_5, e175_5u, e175_6, e175_7, e175_10n, e175_10i, e175_10r, e175_10v, e175_12, e175_12u, e175_13, e175_14, e175_17n, e175_17i, e175_17r, e175_17v, e175_19, e175_19u, e175_20, e175_21, e175_24n, e175_24i, e175_24r, e175_24v, e175_26, e175_26u, e175_27, e175_30n, e175_30i, e175_30r, e175_30v, e175_32, e175_32u, e175_33, e175_36n, e175_36i, e175_36r, e175_36v, e175_38, e175_38u, e175_39, e175_40, e175_43n, e175_43i, e175_43r, e175_43v, e175_45, e175_45u, e175_46, e175_47, e175_48, e175_49, e175_52n, e175_52i, e175_52r, e175_52v, e175_54, e175_56, e175_58, e175_61, e175_63, e175_64, e175_67, e175_67u, e175_68, e175_69, e175_72, e175_75, e175_75u, e175_76, e175_79, e175_79u, e175_80, e175_81, e175_84, e175_87, e175_89, e175_92, e175_93, e175_96, e175_98, e175_102, e175_105, e175_106, e175_107, e175_110, e175_111, e175_114, e175_115, e175_116, e175_118, e175_119, e175_121, e175_124, e175_127, e175_127u, e175_128, e175_129, e175_131, e175_133, e175_136, e175_138, e175_141, e175_141u, e175_142, e175_145, e175_147, e175_148, e175_149, e175_152, e175_152u, e175_153, e175_156, e175_158, e175_160, e175_161, e175_162, e175_163, e175_166, e175_166u, e175_167, e175_168, e175_171, e175_173, e175_174, e175_177, e175_178, e175_181, e175_182, e175_183, e175_186, e175_187, e175_190, e175_190u, e175_191, e175_192, e175_195, e175_198, e175_198u, e175_199, e175_202, e175_205, e175_205u, e175_206, e175_207, e175_210, e175_213, e175_214, e175_217, e175_218n, e175_218i, e175_218r, e175_218v, e175_220, e175_222, e175_225, e175_225u, e175_226, e175_229, e175_232, e175_232u, e175_233, e175_236, e175_237, e175_238, e175_241, e175_242, e175_245, e175_246, ls175, ee, if_true, if_false, hl, isoN, np_len0, List.length_cons, List.length_nil, Nat.reduceLeDiff, Nat.reduceAdd, m92', np_aft_v, Bool.not_false, e1, n10]
      | true =>
        have m92' := m92 (F := F') (L := L') (C := C) (fm := fm) (k := k) (scr := scr) hnum
        rw [ha] at m92'
        refine ⟨k + lw_gk F', by omega, ?_⟩
        by_cases hf : lw_act F' = F' (5 + j) 1
        · by_cases hd : lw_ahd F j = 0
          · simp only [e175_0, e175_0u, e175_1, e175_4n, e175_4i, e175_4r, e175_4v, e175_5, e175_5u, e175_6, e175_7, e175_10n, e175_10i, e175_10r, e175_10v, e175_12, e175_12u, e175_13, e175_14, e175_17n, e175_17i, e175_17r, e175_17v, e175_19, e175_19u, e175_20, e175_21, e175_24n, e175_24i, e175_24r, e175_24v, e175_26, e175_26u, e175_27, e175_30n, e175_30i, e175_30r, e175_30v, e175_32, e175_32u, e175_33, e175_36n, e175_36i, e175_36r, e175_36v, e175_38, e175_38u, e175_39, e175_40, e175_43n, e175_43i, e175_43r, e175_43v, e175_45, e175_45u, e175_46, e175_47, e175_48, e175_49, e175_52n, e175_52i, e175_52r, e175_52v, e175_54, e175_56, e175_58, e175_61, e175_63, e175_64, e175_67, e175_67u, e175_68, e175_69, e175_72, e175_75, e175_75u, e175_76, e175_79, e175_79u, e175_80, e175_81, e175_84, e175_87, e175_89, e175_92, e175_93, e175_96, e175_98, e175_102, e175_105, e175_106, e175_107, e175_110, e175_111, e175_114, e175_115, e175_116, e175_118, e175_119, e175_121, e175_124, e175_127, e175_127u, e175_128, e175_129, e175_131, e175_133, e175_136, e175_138, e175_141, e175_141u, e175_142, e175_145, e175_147, e175_148, e175_149, e175_152, e175_152u, e175_153, e175_156, e175_158, e175_160, e175_161, e175_162, e175_163, e175_166, e175_166u, e175_167, e175_168, e175_171, e175_173, e175_174, e175_177, e175_178, e175_181, e175_182, e175_183, e175_186, e175_187, e175_190, e175_190u, e175_191, e175_192, e175_195, e175_198, e175_198u, e175_199, e175_202, e175_205, e175_205u, e175_206, e175_207, e175_210, e175_213, e175_214, e175_217, e175_218n, e175_218i, e175_218r, e175_218v, e175_220, e175_222, e175_225, e175_225u, e175_226, e175_229, e175_232, e175_232u, e175_233, e175_236, e175_237, e175_238, e175_241, e175_242, e175_245, e175_246, ls175, ee, if_true, if_false, hl, isoN, np_len0, List.length_cons, List.length_nil, Nat.reduceLeDiff, Nat.reduceAdd, m92', np_aft_v, Bool.not_true, e0, q145, m86 hnum, hf, hd]
          · -- the cubes are wanting
            have hg : sp_gng F = true := by
              cases g : sp_gng F with
              | true => rfl
              | false =>
                exfalso
                apply hl
                unfold lw_lft
                rw [g, if_neg (by decide)]
                decide
            have hg' : sp_gng F' = true := by rw [← gng_same hs]; exact hg
            have h6 : ¬ F 1 6 = 0 := fun q => hl (by
              unfold lw_lft
              rw [hg, q]
              decide)
            have af : sp_aflo F (5 + j) = true := by rw [aflo_same hs j12]; exact ha
            have fa : F (5 + j) 1 = F 1 5 := by
              unfold lw_act at hf
              rw [if_pos hg'] at hf
              rw [hs (5 + j) 1 (us_s j12 (by decide)), hs 1 5 (us_1 (by decide))]
              exact hf.symm
            have ho : sp_obj F (5 + j) true = 0 := by
              unfold sp_obj
              rw [hg, af, fa]
              simp [h6]
            have hz : z = true ∧ F (5 + j) 6 = 0 := by
              by_cases q : z = true ∧ F (5 + j) 6 = 0
              · exact q
              · exfalso
                refine hn ⟨ho, fun a b => q ⟨a, b⟩, fun b => hd ?_⟩
                unfold lw_ahd
                rw [if_pos af, b]
                rfl
            obtain ⟨rfl, h60⟩ := hz
            simp only [e175_0, e175_0u, e175_1, e175_4n, e175_4i, e175_4r, e175_4v, e175_5, e175_5u, e175_6, e175_7, e175_10n, e175_10i, e175_10r, e175_10v, e175_12, e175_12u, e175_13, e175_14, e175_17n, e175_17i, e175_17r, e175_17v, e175_19, e175_19u, e175_20, e175_21, e175_24n, e175_24i, e175_24r, e175_24v, e175_26, e175_26u, e175_27, e175_30n, e175_30i, e175_30r, e175_30v, e175_32, e175_32u, e175_33, e175_36n, e175_36i, e175_36r, e175_36v, e175_38, e175_38u, e175_39, e175_40, e175_43n, e175_43i, e175_43r, e175_43v, e175_45, e175_45u, e175_46, e175_47, e175_48, e175_49, e175_52n, e175_52i, e175_52r, e175_52v, e175_54, e175_56, e175_58, e175_61, e175_63, e175_64, e175_67, e175_67u, e175_68, e175_69, e175_72, e175_75, e175_75u, e175_76, e175_79, e175_79u, e175_80, e175_81, e175_84, e175_87, e175_89, e175_92, e175_93, e175_96, e175_98, e175_102, e175_105, e175_106, e175_107, e175_110, e175_111, e175_114, e175_115, e175_116, e175_118, e175_119, e175_121, e175_124, e175_127, e175_127u, e175_128, e175_129, e175_131, e175_133, e175_136, e175_138, e175_141, e175_141u, e175_142, e175_145, e175_147, e175_148, e175_149, e175_152, e175_152u, e175_153, e175_156, e175_158, e175_160, e175_161, e175_162, e175_163, e175_166, e175_166u, e175_167, e175_168, e175_171, e175_173, e175_174, e175_177, e175_178, e175_181, e175_182, e175_183, e175_186, e175_187, e175_190, e175_190u, e175_191, e175_192, e175_195, e175_198, e175_198u, e175_199, e175_202, e175_205, e175_205u, e175_206, e175_207, e175_210, e175_213, e175_214, e175_217, e175_218n, e175_218i, e175_218r, e175_218v, e175_220, e175_222, e175_225, e175_225u, e175_226, e175_229, e175_232, e175_232u, e175_233, e175_236, e175_237, e175_238, e175_241, e175_242, e175_245, e175_246, ls175, ee, if_true, if_false, hl, isoN, np_len0, List.length_cons, List.length_nil, Nat.reduceLeDiff, Nat.reduceAdd, m92', np_aft_v, Bool.not_true, e0, e1, n10, q145, m86 hnum, hf, hd, h60]
        · simp only [e175_0, e175_0u, e175_1, e175_4n, e175_4i, e175_4r, e175_4v, e175_5, e175_5u, e175_6, e175_7, e175_10n, e175_10i, e175_10r, e175_10v, e175_12, e175_12u, e175_13, e175_14, e175_17n, e175_17i, e175_17r, e175_17v, e175_19, e175_19u, e175_20, e175_21, e175_24n, e175_24i, e175_24r, e175_24v, e175_26, e175_26u, e175_27, e175_30n, e175_30i, e175_30r, e175_30v, e175_32, e175_32u, e175_33, e175_36n, e175_36i, e175_36r, e175_36v, e175_38, e175_38u, e175_39, e175_40, e175_43n, e175_43i, e175_43r, e175_43v, e175_45, e175_45u, e175_46, e175_47, e175_48, e175_49, e175_52n, e175_52i, e175_52r, e175_52v, e175_54, e175_56, e175_58, e175_61, e175_63, e175_64, e175_67, e175_67u, e175_68, e175_69, e175_72, e175_75, e175_75u, e175_76, e175_79, e175_79u, e175_80, e175_81, e175_84, e175_87, e175_89, e175_92, e175_93, e175_96, e175_98, e175_102, e175_105, e175_106, e175_107, e175_110, e175_111, e175_114, e175_115, e175_116, e175_118, e175_119, e175_121, e175_124, e175_127, e175_127u, e175_128, e175_129, e175_131, e175_133, e175_136, e175_138, e175_141, e175_141u, e175_142, e175_145, e175_147, e175_148, e175_149, e175_152, e175_152u, e175_153, e175_156, e175_158, e175_160, e175_161, e175_162, e175_163, e175_166, e175_166u, e175_167, e175_168, e175_171, e175_173, e175_174, e175_177, e175_178, e175_181, e175_182, e175_183, e175_186, e175_187, e175_190, e175_190u, e175_191, e175_192, e175_195, e175_198, e175_198u, e175_199, e175_202, e175_205, e175_205u, e175_206, e175_207, e175_210, e175_213, e175_214, e175_217, e175_218n, e175_218i, e175_218r, e175_218v, e175_220, e175_222, e175_225, e175_225u, e175_226, e175_229, e175_232, e175_232u, e175_233, e175_236, e175_237, e175_238, e175_241, e175_242, e175_245, e175_246, ls175, ee, if_true, if_false, hl, isoN, np_len0, List.length_cons, List.length_nil, Nat.reduceLeDiff, Nat.reduceAdd, m92', np_aft_v, Bool.not_true, e0, q145, m86 hnum, hf]
  obtain ⟨k1, hk1, ek⟩ := key
  obtain ⟨k2, hk2, e2⟩ := q169 (F := F') (L := L') (C := C) (fm := fm) (k := k1) (scr := scr) hc' h12 (w'.b4 np_B1)
  rw [dig_same hs.sy hL h12] at e2
  refine ⟨k2, by omega, ?_⟩
  rw [ek, e175_101]
  simp only [e175_0, e175_0u, e175_1, e175_4n, e175_4i, e175_4r, e175_4v, e175_5, e175_5u, e175_6, e175_7, e175_10n, e175_10i, e175_10r, e175_10v, e175_12, e175_12u, e175_13, e175_14, e175_17n, e175_17i, e175_17r, e175_17v, e175_19, e175_19u, e175_20, e175_21, e175_24n, e175_24i, e175_24r, e175_24v, e175_26, e175_26u, e175_27, e175_30n, e175_30i, e175_30r, e175_30v, e175_32, e175_32u, e175_33, e175_36n, e175_36i, e175_36r, e175_36v, e175_38, e175_38u, e175_39, e175_40, e175_43n, e175_43i, e175_43r, e175_43v, e175_45, e175_45u, e175_46, e175_47, e175_48, e175_49, e175_52n, e175_52i, e175_52r, e175_52v, e175_54, e175_56, e175_58, e175_61, e175_63, e175_64, e175_67, e175_67u, e175_68, e175_69, e175_72, e175_75, e175_75u, e175_76, e175_79, e175_79u, e175_80, e175_81, e175_84, e175_87, e175_89, e175_92, e175_93, e175_96, e175_98, e175_102, e175_105, e175_106, e175_107, e175_110, e175_111, e175_114, e175_115, e175_116, e175_118, e175_119, e175_121, e175_124, e175_127, e175_127u, e175_128, e175_129, e175_131, e175_133, e175_136, e175_138, e175_141, e175_141u, e175_142, e175_145, e175_147, e175_148, e175_149, e175_152, e175_152u, e175_153, e175_156, e175_158, e175_160, e175_161, e175_162, e175_163, e175_166, e175_166u, e175_167, e175_168, e175_171, e175_173, e175_174, e175_177, e175_178, e175_181, e175_182, e175_183, e175_186, e175_187, e175_190, e175_190u, e175_191, e175_192, e175_195, e175_198, e175_198u, e175_199, e175_202, e175_205, e175_205u, e175_206, e175_207, e175_210, e175_213, e175_214, e175_217, e175_218n, e175_218i, e175_218r, e175_218v, e175_220, e175_222, e175_225, e175_225u, e175_226, e175_229, e175_232, e175_232u, e175_233, e175_236, e175_237, e175_238, e175_241, e175_242, e175_245, e175_246, np_len0, e2, np_aft_v, lg_self, if_true, np_nb1]
theorem p175s (w : WI F) {c j : Nat} {z : Bool} (hc : F 1 3 = nI c) (h12 : c ≤ 12) (hj : j < c) (hcan : can F j z) {s : Nat} {G : Nat → Nat → Int32} {LG : Nat → Int64} (h1 : 1 ≤ s) (h4 : s < 4) (hsl : sp_sld F (5 + j) 2 = nI s) (wG : WI G) (snG : SN F L G LG) (hu : UD F L G LG) (hs : np_same (sp_dis (np_mv1 (np_F0 F) (5 + j) (nI s) z) 0 12) G) (hK : KN G) (hL : LG 1 = L 1 + (nI s).toInt64) : ∃ F' L' k', k' ≤ k + 400 ∧ np_X 175 54 (ls175 F L j c z (nI s) none) [] (np_S G LG C fm k scr) = np_o 1 (np_S F' L' C fm k' scr) ∧ WI F' ∧ np_same F F' ∧ L' 1 = L 1 ∧ SN F L F' L' := by
  have j12 : j < 12 := by omega
  obtain ⟨d1, d2, d3⟩ := dis_spec 12 0 (np_mv1 (np_F0 F) (5 + j) (nI s) z)
  have gq : ∀ a q, np_us a q → ¬ (q = 7 ∨ q = 8) → G a q = np_mv1 (np_F0 F) (5 + j) (nI s) z a q := fun a q u h => by rw [← hs a q u, d1 a q h]
  have f0 : ∀ a q, a < 17 → np_F0 F a q = F a q := fun a q h => np_F0_1 h
  have hcG : G 1 3 = nI c := by rw [gq 1 3 (us_1 (by decide)) (by decide), mv1_1 (by decide), f0 1 3 (by decide)]; exact hc
  have hnG := sp_num_nI hcG h12 hj
  have g14 : G 1 4 = F 1 4 := by rw [gq 1 4 (us_1 (by decide)) (by decide), mv1_1 (by decide), f0 1 4 (by decide)]
  have g31 : G 3 1 = F 3 1 := by rw [gq 3 1 (us_3 (by decide)) (by decide), mv1_a (Or.inl rfl) (by decide), f0 3 1 (by decide)]
  have g41 : G 4 1 = F 4 1 := by rw [gq 4 1 (us_4 (by decide)) (by decide), mv1_a (Or.inr rfl) (by decide), f0 4 1 (by decide)]
  have g16 : G 1 6 = F 1 6 - 1 := by rw [gq 1 6 (us_1 (by decide)) (by decide), mv1_16, f0 1 6 (by decide)]
  have gs5 : G (5 + j) 5 = F (5 + j) 5 := by rw [gq _ 5 (us_s j12 (by decide)) (by decide), mv1_o (by decide), f0 _ _ (by omega)]
  have gs2 : G (5 + j) 2 = F (5 + j) 2 + nI s * sp_stepX (F (5 + j) 4) := by rw [gq _ 2 (us_s j12 (by decide)) (by decide), mv1_2, f0 _ _ (by omega), f0 _ _ (by omega)]
  have gs3 : G (5 + j) 3 = F (5 + j) 3 + nI s * sp_stepY (F (5 + j) 4) := by rw [gq _ 3 (us_s j12 (by decide)) (by decide), mv1_3, f0 _ _ (by omega), f0 _ _ (by omega)]
  have gs6 : G (5 + j) 6 = F (5 + j) 6 - np_i z := by rw [gq _ 6 (us_s j12 (by decide)) (by decide), mv1_6, f0 _ _ (by omega)]
  obtain ⟨c1, c2, c3⟩ := hcan
  obtain ⟨-, o1, o2, o3, o4⟩ := sp_obj_z c1
  have gg : sp_gng G = true := by
    unfold sp_gng sp_ovr at o1 ⊢
    rw [g14, g31, g41]
    exact o1
  have lG : lw_lft G = F 1 6 - 1 := by unfold lw_lft; rw [if_pos gg, g16]
  have lF : lw_lft F = F 1 6 := by unfold lw_lft; rw [if_pos o1]
  have aG : sp_aflo G (5 + j) = true := by
    unfold sp_aflo at o2 ⊢
    rw [gs5]
    exact o2
  have xF : lw_x F j 2 = F (5 + j) 2 := by unfold lw_x; rw [if_pos o2]
  have yF : lw_x F j 3 = F (5 + j) 3 := by unfold lw_x; rw [if_pos o2]
  have aF : lw_ahd F j = nI (sp_ahd F (5 + j)) := by unfold lw_ahd; rw [if_pos o2]
  have hmin : (if nI (sp_ahd F (5 + j)) < 2 then nI (sp_ahd F (5 + j)) else 2) = nI s := hsl
  obtain ⟨V, hr, hk⟩ := w.g
  have a := hk.1 j j12
  have e2 := gv_s hr j12 (show 2 < 9 by decide)
  have e3 := gv_s hr j12 (show 3 < 9 by decide)
  have e4 := gv_s hr j12 (show 4 < 9 by decide)
  have hdist : sp_max (sp_far (G (5 + j) 2) (F (5 + j) 2)) (sp_far (G (5 + j) 3) (F (5 + j) 3)) = nI s := by
    rw [gs2, gs3, e2, e3, e4, st_x _ a.2.2.1 _ a.2.2.2.2.1 _ h4, st_y _ a.2.2.2.1 _ a.2.2.2.2.1 _ h4]
    exact st_m _ a.2.2.2.2.1 _ h4
  have m176' := m176 (F := G) (L := LG) (C := C) (fm := fm) (k := k) (scr := scr) (u := F (5 + j) 2) (v := F (5 + j) 3) hnG aG
  rw [hdist] at m176'
  have ne : (nI s = -100000000) = False := eq_false (fun q => nI_pos (n := s) (by omega) (by rw [q]; decide))
  have gk := @lw_gk_le G
  obtain ⟨k1, hk1, e177⟩ := q177 (F := G) (L := LG) (C := C) (fm := fm) (k := k + lw_gk G) (scr := scr) wG.g hK
  obtain ⟨k2, hk2, e172⟩ := q172 (F := G) (L := LG) (C := C) (fm := fm) (k := k1) (scr := scr) wG.g hcG hj h12
  obtain ⟨n, F', L', hn8, e164, w', hs', hL', sn'⟩ := u164 (C := C) (fm := fm) (k := k2) (scr := scr) wG hu
  have hc' : F' 1 3 = nI c := by rw [← hs' 1 3 (us_1 (by decide))]; exact hc
  obtain ⟨k3, hk3, e169⟩ := q169 (F := F') (L := L') (C := C) (fm := fm) (k := k2) (scr := scr) hc' h12 (w'.b4 np_B1)
  rw [dig_same hs'.sy hL' h12] at e169
  have n0 : (nI n < 0) = False := eq_false (nI_pos (by omega))
  have i0 : np_i false = 0 := rfl
  have i1 : np_i true = 1 := rfl
  refine ⟨F', L', k3, by omega, ?_, w', hs', hL', snG.tr sn'⟩
  cases z with
  | true =>
    rw [i1] at gs6
    simp only [e175_0, e175_0u, e175_1, e175_4n, e175_4i, e175_4r, e175_4v, e175_5, e175_5u, e175_6, e175_7, e175_10n, e175_10i, e175_10r, e175_10v, e175_12, e175_12u, e175_13, e175_14, e175_17n, e175_17i, e175_17r, e175_17v, e175_19, e175_19u, e175_20, e175_21, e175_24n, e175_24i, e175_24r, e175_24v, e175_26, e175_26u, e175_27, e175_30n, e175_30i, e175_30r, e175_30v, e175_32, e175_32u, e175_33, e175_36n, e175_36i, e175_36r, e175_36v, e175_38, e175_38u, e175_39, e175_40, e175_43n, e175_43i, e175_43r, e175_43v, e175_45, e175_45u, e175_46, e175_47, e175_48, e175_49, e175_52n, e175_52i, e175_52r, e175_52v, e175_54, e175_56, e175_58, e175_61, e175_63, e175_64, e175_67, e175_67u, e175_68, e175_69, e175_72, e175_75, e175_75u, e175_76, e175_79, e175_79u, e175_80, e175_81, e175_84, e175_87, e175_89, e175_92, e175_93, e175_96, e175_98, e175_101, e175_101u, e175_102, e175_105, e175_106, e175_107, e175_110, e175_111, e175_114, e175_115, e175_116, e175_118, e175_119, e175_121, e175_124, e175_127, e175_127u, e175_128, e175_129, e175_131, e175_133, e175_136, e175_138, e175_141, e175_141u, e175_142, e175_145, e175_147, e175_148, e175_149, e175_152, e175_152u, e175_153, e175_156, e175_158, e175_160, e175_161, e175_162, e175_163, e175_166, e175_166u, e175_167, e175_168, e175_171, e175_173, e175_174, e175_177, e175_178, e175_181, e175_182, e175_183, e175_186, e175_187, e175_190, e175_190u, e175_191, e175_192, e175_195, e175_198, e175_198u, e175_199, e175_202, e175_205, e175_205u, e175_206, e175_207, e175_210, e175_213, e175_214, e175_217, e175_218n, e175_218i, e175_218r, e175_218v, e175_220, e175_222, e175_225, e175_225u, e175_226, e175_229, e175_232, e175_232u, e175_233, e175_236, e175_237, e175_238, e175_241, e175_242, e175_245, e175_246, xF, yF, aF, lF, ne, if_true, if_false, isoN, np_len0, List.length_cons, List.length_nil, Nat.reduceLeDiff, Nat.reduceAdd, hmin, m176', np_aft_v, q146, lG, m110, hL, lg_self, m90 hnG, gs6, i1, n10, e177, e172, e164, n0, e169, np_nb1]
  | false =>
    have kn := d2 j mv1_kn
    have hid : sp_hid G (5 + j) = false := by
      rw [← hid_same hs j12]
      exact knw_hid kn
    have m96' := m96 (F := G) (L := LG) (C := C) (fm := fm) (k := k + lw_gk G) (scr := scr) hnG
    rw [hid, i0] at m96'
    rw [i0] at gs6
    simp only [e175_0, e175_0u, e175_1, e175_4n, e175_4i, e175_4r, e175_4v, e175_5, e175_5u, e175_6, e175_7, e175_10n, e175_10i, e175_10r, e175_10v, e175_12, e175_12u, e175_13, e175_14, e175_17n, e175_17i, e175_17r, e175_17v, e175_19, e175_19u, e175_20, e175_21, e175_24n, e175_24i, e175_24r, e175_24v, e175_26, e175_26u, e175_27, e175_30n, e175_30i, e175_30r, e175_30v, e175_32, e175_32u, e175_33, e175_36n, e175_36i, e175_36r, e175_36v, e175_38, e175_38u, e175_39, e175_40, e175_43n, e175_43i, e175_43r, e175_43v, e175_45, e175_45u, e175_46, e175_47, e175_48, e175_49, e175_52n, e175_52i, e175_52r, e175_52v, e175_54, e175_56, e175_58, e175_61, e175_63, e175_64, e175_67, e175_67u, e175_68, e175_69, e175_72, e175_75, e175_75u, e175_76, e175_79, e175_79u, e175_80, e175_81, e175_84, e175_87, e175_89, e175_92, e175_93, e175_96, e175_98, e175_101, e175_101u, e175_102, e175_105, e175_106, e175_107, e175_110, e175_111, e175_114, e175_115, e175_116, e175_118, e175_119, e175_121, e175_124, e175_127, e175_127u, e175_128, e175_129, e175_131, e175_133, e175_136, e175_138, e175_141, e175_141u, e175_142, e175_145, e175_147, e175_148, e175_149, e175_152, e175_152u, e175_153, e175_156, e175_158, e175_160, e175_161, e175_162, e175_163, e175_166, e175_166u, e175_167, e175_168, e175_171, e175_173, e175_174, e175_177, e175_178, e175_181, e175_182, e175_183, e175_186, e175_187, e175_190, e175_190u, e175_191, e175_192, e175_195, e175_198, e175_198u, e175_199, e175_202, e175_205, e175_205u, e175_206, e175_207, e175_210, e175_213, e175_214, e175_217, e175_218n, e175_218i, e175_218r, e175_218v, e175_220, e175_222, e175_225, e175_225u, e175_226, e175_229, e175_232, e175_232u, e175_233, e175_236, e175_237, e175_238, e175_241, e175_242, e175_245, e175_246, xF, yF, aF, lF, ne, if_true, if_false, isoN, np_len0, List.length_cons, List.length_nil, Nat.reduceLeDiff, Nat.reduceAdd, hmin, m176', np_aft_v, q146, lG, m110, hL, lg_self, m90 hnG, gs6, i0, n10, m96', e177, e172, e164, n0, e169, np_nb1]
theorem q175 (w : WI F) {c j : Nat} {z : Bool} (hc : F 1 3 = nI c) (h12 : c ≤ 12) (hj : j < c) : ∃ F' L' k', k' ≤ k + 500 ∧ np_X 175 0 [some (.ref 0), some (.int (nI j)), some (.int (np_i z)), none, none, none, none, none, none, none, none, none, none, none] [] (np_S F L C fm k scr) = np_o 1 (np_S F' L' C fm k' scr) ∧ WI F' ∧ np_same F F' ∧ L' 1 = L 1 ∧ SN F L F' L' := by
  obtain ⟨k2, hk2, hh⟩ := h175 (L := L) (C := C) (fm := fm) (k := k) (scr := scr) (z := z) hc h12 hj (w.b4 np_B1)
  have hn := sp_num_nI hc h12 hj
  by_cases hcan : can F j z
  · obtain ⟨s, G, LG, h1, h4, hsl, e148, ⟨wG, snG⟩, hu, hs, hK, hL⟩ := sail_s (L := L) (C := C) (fm := fm) (k := k2) (scr := scr) w hn hcan
    obtain ⟨F', L', k3, hk3, e, w', hs', hL', sn⟩ := p175s (L := L) (C := C) (fm := fm) (k := k2) (scr := scr) w hc h12 hj hcan h1 h4 hsl wG snG hu hs hK hL
    exact ⟨F', L', k3, by omega, (hh _ _ e148).trans e, w', hs', hL', sn⟩
  · obtain ⟨F', L', e148, w', hs, hL, sn⟩ := sail_f (L := L) (C := C) (fm := fm) (k := k2) (scr := scr) w hn hcan
    obtain ⟨k3, hk3, e⟩ := p175f (L := L) (C := C) (fm := fm) (k := k2 + 1) (scr := scr) w hc h12 hj w' hs hL hcan
    exact ⟨F', L', k3, by omega, (hh _ _ e148).trans e, w', hs, hL, sn⟩
end
