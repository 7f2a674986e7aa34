/-! THE PURE PART, 38: isGame, the end. -/
section
variable {F : Nat → Nat → Int32} {V : gm_V} {L : Nat → Int64} {C : Nat → Nat → Int32} {fm k : Nat} {scr : nv_Scr}
theorem gx_b (hk : gm_ok V) : gm_cub V 0 < 75 ∧ gm_cub V 1 < 75 ∧ V 1 8 < 149 ∧ V 1 9 ≤ V 1 8 := by
  obtain ⟨hA, hC, hD, hB, hX, hY, hH, hT⟩ := hk
  unfold gmX at hX hY
  unfold gmT at hT
  omega
/-- one fleet -/
theorem p171b (hr : gm_rep F V) (hk : gm_ok V) {g : Int32} {f a : Nat} (hf : f < 2) (ha : sp_aco (nI f) = a) (hx : F a 1 = nI (gm_cnt V f) ∧ sp_bal F a = nI (gm_cub V f) ∧ ∃ p, p < 21 ∧ F a 2 = nI p) {l4 l5 l6 l7 : Option Value} : ∃ k' m4 m5 m6 m7, k' ≤ k + 1 ∧ np_X 171 127 [some (.ref 0), some (.int g), some (.int 1), some (.int (nI f)), l4, l5, l6, l7] [] (np_S F L C fm k scr) = np_X 171 127 [some (.ref 0), some (.int g), some (.int 1), some (.int (nI (f + 1))), m4, m5, m6, m7] [] (np_S F L C fm k' scr) := by
  obtain ⟨h1, h2, p, hp, h3⟩ := hx
  obtain ⟨l7', ih⟩ := l171 (L := L) (C := C) (fm := fm) (k := k) (scr := scr) hr hk (g := g) hf (V 1 3) 0 (by omega) 0 0 l7
  obtain ⟨s1, s2⟩ := cut_sums hk (f := f)
  rw [s1, s2, Nat.zero_add, Nat.zero_add] at ih
  have z0 : nI 0 = 0 := rfl
  rw [z0] at ih
  have hf2 : nI f = 0 ∨ nI f = 1 := by
    have : f = 0 ∨ f = 1 := by omega
    rcases this with rfl | rfl
    · exact Or.inl rfl
    · exact Or.inr rfl
  have lt2 : (nI f < 2) = True := eq_true (nI_lt (b := 2) hf (by decide))
  have p0 : (nI p < 0) = False := eq_false (nI_pos (by omega))
  have p20 : (20 < nI p) = False := eq_false (nI_nlt (a := 20) (b := p) (by omega) (by decide))
  have cu := cub_sn hr hk.1 hf
  obtain ⟨b1, b2, -, -⟩ := gx_b hk
  have cb : gm_cub V f < 75 := by
    have : f = 0 ∨ f = 1 := by omega
    rcases this with rfl | rfl <;> assumption
  have cl := @cnt_le V f
  have e106 := m106 (F := F) (L := L) (C := C) (fm := fm) (k := k) (scr := scr) hf2
  have e107 := m107 (F := F) (L := L) (C := C) (fm := fm) (k := k) (scr := scr) hf2
  have e97 := m97 (F := F) (L := L) (C := C) (fm := fm) (k := k) (scr := scr) hf2
  have e105 := m105 (F := F) (L := L) (C := C) (fm := fm) (k := k) (scr := scr) hf2
  rw [cu] at e106
  rw [ha, h2] at e107
  rw [ha, h1] at e97
  rw [ha, h3] at e105
  by_cases hz : gm_cnt V f = 0
  · have e161 : np_X 161 0 [some (.ref 0), some (.int (nI f)), none, none, none] [] (np_S F L C fm k scr) = np_vo (.double 13830554455654793216) (np_S F L C fm (k + 1) scr) := x161 isoN (Or.inr rfl) (m118n hf2 (by rw [ha, h1, hz]; rfl))
    have ez : (nI (gm_cnt V f) = 0) = True := eq_true (by rw [hz]; rfl)
    refine ⟨k + 1, some (.int (nI (gm_cub V f))), some (.int (nI (gm_cnt V f))), some (.int (nI (V 1 3))), l7', Nat.le_refl _, ?_⟩
    rw [e171_127]
    simp only [e171_0, e171_0u, e171_1, e171_4, e171_7, e171_7u, e171_8, e171_11, e171_14, e171_15, e171_18, e171_19n, e171_19i, e171_19r, e171_19v, e171_20, e171_20u, e171_21, e171_24, e171_27, e171_30, e171_31, e171_34, e171_35, e171_36, e171_39, e171_39u, e171_40, e171_43, e171_46, e171_49, e171_50, e171_53, e171_54, e171_55, e171_58, e171_58u, e171_59, e171_62, e171_63, e171_66, e171_66u, e171_67, e171_70, e171_73, e171_76, e171_77, e171_80, e171_81, e171_81u, e171_82, e171_85, e171_88, e171_88u, e171_89, e171_92, e171_95, e171_95u, e171_96, e171_96u, e171_97, e171_100, e171_103, e171_106, e171_106u, e171_107, e171_108, e171_108u, e171_109, e171_112, e171_113, e171_116, e171_119, e171_120, e171_123, e171_124n, e171_124i, e171_124r, e171_124v, e171_125, e171_126n, e171_126i, e171_126r, e171_126v, e171_128, e171_131, e171_132, e171_133, e171_136, e171_137n, e171_137i, e171_137r, e171_137v, e171_139, e171_140n, e171_140i, e171_140r, e171_140v, e171_142, e171_143n, e171_143i, e171_143r, e171_143v, e171_147, e171_147u, e171_148, e171_151, e171_154, e171_154u, e171_155, e171_157, e171_160, e171_161, e171_164, e171_165, e171_168, e171_169n, e171_169i, e171_169r, e171_169v, e171_171, e171_173, e171_175, e171_178, e171_178u, e171_179, e171_181, e171_184, e171_187, e171_188, e171_189n, e171_189i, e171_189r, e171_189v, e171_191, e171_193, e171_195, e171_198, e171_198u, e171_199, e171_201, e171_204, e171_207, e171_208, e171_211, e171_212, e171_213n, e171_213i, e171_213r, e171_213v, e171_215n, e171_215i, e171_215r, e171_215v, e171_218, e171_221, e171_221u, e171_222, e171_223, e171_226, e171_228, e171_231, e171_231u, e171_232, e171_233, e171_236, e171_238, e171_241, e171_241u, e171_242, e171_243, e171_246, e171_248, e171_251, e171_251u, e171_252, e171_253, e171_256, e171_259, e171_259u, e171_260, e171_261, e171_264, e171_266, e171_269, e171_269u, e171_270, e171_271, e171_274, e171_276, e171_279, e171_282, e171_285, e171_287, e171_288, e171_290, e171_291, e171_292, e171_293, e171_296, e171_297, e171_300, e171_301n, e171_301i, e171_301r, e171_301v, e171_302n, e171_302i, e171_302r, e171_302v, e171_305, e171_308, e171_309, e171_312, e171_312u, e171_313, e171_316, e171_316u, e171_317, e171_320, e171_323, e171_325, e171_328, e171_328u, e171_329, e171_332, e171_333, e171_333u, e171_334, e171_337, e171_338, e171_339, e171_340, e171_343, e171_343u, e171_344, e171_347, e171_350, e171_351, e171_354, e171_355, n10, lt2, if_true, if_false, ih, isoN, np_len0, List.length_cons, List.length_nil, Nat.reduceLeDiff, Nat.reduceAdd, e106, e107, e97, e105, e161, np_aft_v, p0, p20, ez, fp_m1, fp_e1, nI_1]
  · obtain ⟨q1, q2⟩ := fp_use2 hz (show gm_cnt V f < 13 by omega) cb
    have nz : ¬ nI (gm_cnt V f) = 0 := fun q => hz ((nI_e (b := 0) (by omega) (by decide)).mp q)
    have e161 : np_X 161 0 [some (.ref 0), some (.int (nI f)), none, none, none] [] (np_S F L C fm k scr) = np_vo (.double (FP.ddiv (FP.i2d (nI (gm_cub V f))) (FP.i2d (nI (gm_cnt V f))))) (np_S F L C fm k scr) := by
      have e := m118s (F := F) (L := L) (C := C) (fm := fm) (k := k) (scr := scr) hf2 (by rw [ha, h1]; exact nz) (by rw [ha, h1, cu]; exact q1)
      rw [ha, h1, cu] at e
      exact w161 isoN e
    refine ⟨k, some (.int (nI (gm_cub V f))), some (.int (nI (gm_cnt V f))), some (.int (nI (V 1 3))), l7', Nat.le_succ _, ?_⟩
    rw [e171_127]
    simp only [e171_0, e171_0u, e171_1, e171_4, e171_7, e171_7u, e171_8, e171_11, e171_14, e171_15, e171_18, e171_19n, e171_19i, e171_19r, e171_19v, e171_20, e171_20u, e171_21, e171_24, e171_27, e171_30, e171_31, e171_34, e171_35, e171_36, e171_39, e171_39u, e171_40, e171_43, e171_46, e171_49, e171_50, e171_53, e171_54, e171_55, e171_58, e171_58u, e171_59, e171_62, e171_63, e171_66, e171_66u, e171_67, e171_70, e171_73, e171_76, e171_77, e171_80, e171_81, e171_81u, e171_82, e171_85, e171_88, e171_88u, e171_89, e171_92, e171_95, e171_95u, e171_96, e171_96u, e171_97, e171_100, e171_103, e171_106, e171_106u, e171_107, e171_108, e171_108u, e171_109, e171_112, e171_113, e171_116, e171_119, e171_120, e171_123, e171_124n, e171_124i, e171_124r, e171_124v, e171_125, e171_126n, e171_126i, e171_126r, e171_126v, e171_128, e171_131, e171_132, e171_133, e171_136, e171_137n, e171_137i, e171_137r, e171_137v, e171_139, e171_140n, e171_140i, e171_140r, e171_140v, e171_142, e171_143n, e171_143i, e171_143r, e171_143v, e171_147, e171_147u, e171_148, e171_151, e171_154, e171_154u, e171_155, e171_157, e171_160, e171_161, e171_164, e171_165, e171_168, e171_169n, e171_169i, e171_169r, e171_169v, e171_171, e171_173, e171_175, e171_178, e171_178u, e171_179, e171_181, e171_184, e171_187, e171_188, e171_189n, e171_189i, e171_189r, e171_189v, e171_191, e171_193, e171_195, e171_198, e171_198u, e171_199, e171_201, e171_204, e171_207, e171_208, e171_211, e171_212, e171_213n, e171_213i, e171_213r, e171_213v, e171_215n, e171_215i, e171_215r, e171_215v, e171_218, e171_221, e171_221u, e171_222, e171_223, e171_226, e171_228, e171_231, e171_231u, e171_232, e171_233, e171_236, e171_238, e171_241, e171_241u, e171_242, e171_243, e171_246, e171_248, e171_251, e171_251u, e171_252, e171_253, e171_256, e171_259, e171_259u, e171_260, e171_261, e171_264, e171_266, e171_269, e171_269u, e171_270, e171_271, e171_274, e171_276, e171_279, e171_282, e171_285, e171_287, e171_288, e171_290, e171_291, e171_292, e171_293, e171_296, e171_297, e171_300, e171_301n, e171_301i, e171_301r, e171_301v, e171_302n, e171_302i, e171_302r, e171_302v, e171_305, e171_308, e171_309, e171_312, e171_312u, e171_313, e171_316, e171_316u, e171_317, e171_320, e171_323, e171_325, e171_328, e171_328u, e171_329, e171_332, e171_333, e171_333u, e171_334, e171_337, e171_338, e171_339, e171_340, e171_343, e171_343u, e171_344, e171_347, e171_350, e171_351, e171_354, e171_355, n10, lt2, if_true, if_false, ih, isoN, np_len0, List.length_cons, List.length_nil, Nat.reduceLeDiff, Nat.reduceAdd, e106, e107, e97, e105, e161, np_aft_v, p0, p20, nz, q1, q2, fp_e1, nI_1]
theorem p171c (hr : gm_rep F V) (hk : gm_ok V) {g : Int32} {l4 l5 l6 l7 : Option Value} : ∃ k', k' ≤ k + 1 ∧ np_X 171 127 [some (.ref 0), some (.int g), some (.int 1), some (.int (nI 2)), l4, l5, l6, l7] [] (np_S F L C fm k scr) = np_o 1 (np_S F L C fm k' scr) := by
  have lt2 : (nI 2 < 2) = False := by decide
  have hcon := con_ok hr hk
  have i1 : np_i true = 1 := rfl
  obtain ⟨-, -, h8, h9⟩ := gx_b hk
  have e8 := gv_1 hr (show 8 = 3 ∨ 8 = 4 ∨ 8 = 5 ∨ 8 = 6 ∨ 8 = 8 ∨ 8 = 9 by decide)
  have e9 := gv_1 hr (show 9 = 3 ∨ 9 = 4 ∨ 9 = 5 ∨ 9 = 6 ∨ 9 = 8 ∨ 9 = 9 by decide)
  by_cases hz : V 1 8 = 0
  · have e80 : F 1 8 = 0 := by rw [e8, hz]; rfl
    have e160 : np_X 160 0 [some (.ref 0), none, none] [] (np_S F L C fm k scr) = np_vo (.float 3212836864) (np_S F L C fm (k + 1) scr) := x160 isoN rfl (m117n e80)
    refine ⟨k + 1, Nat.le_refl _, ?_⟩
    rw [e171_127]
    simp only [e171_0, e171_0u, e171_1, e171_4, e171_7, e171_7u, e171_8, e171_11, e171_14, e171_15, e171_18, e171_19n, e171_19i, e171_19r, e171_19v, e171_20, e171_20u, e171_21, e171_24, e171_27, e171_30, e171_31, e171_34, e171_35, e171_36, e171_39, e171_39u, e171_40, e171_43, e171_46, e171_49, e171_50, e171_53, e171_54, e171_55, e171_58, e171_58u, e171_59, e171_62, e171_63, e171_66, e171_66u, e171_67, e171_70, e171_73, e171_76, e171_77, e171_80, e171_81, e171_81u, e171_82, e171_85, e171_88, e171_88u, e171_89, e171_92, e171_95, e171_95u, e171_96, e171_96u, e171_97, e171_100, e171_103, e171_106, e171_106u, e171_107, e171_108, e171_108u, e171_109, e171_112, e171_113, e171_116, e171_119, e171_120, e171_123, e171_124n, e171_124i, e171_124r, e171_124v, e171_125, e171_126n, e171_126i, e171_126r, e171_126v, e171_128, e171_131, e171_132, e171_133, e171_136, e171_137n, e171_137i, e171_137r, e171_137v, e171_139, e171_140n, e171_140i, e171_140r, e171_140v, e171_142, e171_143n, e171_143i, e171_143r, e171_143v, e171_147, e171_147u, e171_148, e171_151, e171_154, e171_154u, e171_155, e171_157, e171_160, e171_161, e171_164, e171_165, e171_168, e171_169n, e171_169i, e171_169r, e171_169v, e171_171, e171_173, e171_175, e171_178, e171_178u, e171_179, e171_181, e171_184, e171_187, e171_188, e171_189n, e171_189i, e171_189r, e171_189v, e171_191, e171_193, e171_195, e171_198, e171_198u, e171_199, e171_201, e171_204, e171_207, e171_208, e171_211, e171_212, e171_213n, e171_213i, e171_213r, e171_213v, e171_215n, e171_215i, e171_215r, e171_215v, e171_218, e171_221, e171_221u, e171_222, e171_223, e171_226, e171_228, e171_231, e171_231u, e171_232, e171_233, e171_236, e171_238, e171_241, e171_241u, e171_242, e171_243, e171_246, e171_248, e171_251, e171_251u, e171_252, e171_253, e171_256, e171_259, e171_259u, e171_260, e171_261, e171_264, e171_266, e171_269, e171_269u, e171_270, e171_271, e171_274, e171_276, e171_279, e171_282, e171_285, e171_287, e171_288, e171_290, e171_291, e171_292, e171_293, e171_296, e171_297, e171_300, e171_301n, e171_301i, e171_301r, e171_301v, e171_302n, e171_302i, e171_302r, e171_302v, e171_305, e171_308, e171_309, e171_312, e171_312u, e171_313, e171_316, e171_316u, e171_317, e171_320, e171_323, e171_325, e171_328, e171_328u, e171_329, e171_332, e171_333, e171_333u, e171_334, e171_337, e171_338, e171_339, e171_340, e171_343, e171_343u, e171_344, e171_347, e171_350, e171_351, e171_354, e171_355, n10, lt2, if_true, if_false, isoN, np_len0, List.length_cons, List.length_nil, Nat.reduceLeDiff, Nat.reduceAdd, e160, m108, e80, np_aft_v, fp_m2, fp_e1, m119, hcon, i1, np_nb1]
  · obtain ⟨q1, q2⟩ := fp_use hz h8 h9
    have nz : ¬ nI (V 1 8) = 0 := fun q => hz ((nI_e (b := 0) (by omega) (by decide)).mp q)
    have e160 : np_X 160 0 [some (.ref 0), none, none] [] (np_S F L C fm k scr) = np_vo (.float (FP.fdiv (FP.i2f (nI (V 1 9))) (FP.i2f (nI (V 1 8))))) (np_S F L C fm k scr) := by
      have e := m117s (F := F) (L := L) (C := C) (fm := fm) (k := k) (scr := scr) (by rw [e8]; exact nz) (by rw [e8, e9]; exact q1)
      rw [e8, e9] at e
      exact w160 isoN e
    refine ⟨k, Nat.le_succ _, ?_⟩
    rw [e171_127]
    simp only [e171_0, e171_0u, e171_1, e171_4, e171_7, e171_7u, e171_8, e171_11, e171_14, e171_15, e171_18, e171_19n, e171_19i, e171_19r, e171_19v, e171_20, e171_20u, e171_21, e171_24, e171_27, e171_30, e171_31, e171_34, e171_35, e171_36, e171_39, e171_39u, e171_40, e171_43, e171_46, e171_49, e171_50, e171_53, e171_54, e171_55, e171_58, e171_58u, e171_59, e171_62, e171_63, e171_66, e171_66u, e171_67, e171_70, e171_73, e171_76, e171_77, e171_80, e171_81, e171_81u, e171_82, e171_85, e171_88, e171_88u, e171_89, e171_92, e171_95, e171_95u, e171_96, e171_96u, e171_97, e171_100, e171_103, e171_106, e171_106u, e171_107, e171_108, e171_108u, e171_109, e171_112, e171_113, e171_116, e171_119, e171_120, e171_123, e171_124n, e171_124i, e171_124r, e171_124v, e171_125, e171_126n, e171_126i, e171_126r, e171_126v, e171_128, e171_131, e171_132, e171_133, e171_136, e171_137n, e171_137i, e171_137r, e171_137v, e171_139, e171_140n, e171_140i, e171_140r, e171_140v, e171_142, e171_143n, e171_143i, e171_143r, e171_143v, e171_147, e171_147u, e171_148, e171_151, e171_154, e171_154u, e171_155, e171_157, e171_160, e171_161, e171_164, e171_165, e171_168, e171_169n, e171_169i, e171_169r, e171_169v, e171_171, e171_173, e171_175, e171_178, e171_178u, e171_179, e171_181, e171_184, e171_187, e171_188, e171_189n, e171_189i, e171_189r, e171_189v, e171_191, e171_193, e171_195, e171_198, e171_198u, e171_199, e171_201, e171_204, e171_207, e171_208, e171_211, e171_212, e171_213n, e171_213i, e171_213r, e171_213v, e171_215n, e171_215i, e171_215r, e171_215v, e171_218, e171_221, e171_221u, e171_222, e171_223, e171_226, e171_228, e171_231, e171_231u, e171_232, e171_233, e171_236, e171_238, e171_241, e171_241u, e171_242, e171_243, e171_246, e171_248, e171_251, e171_251u, e171_252, e171_253, e171_256, e171_259, e171_259u, e171_260, e171_261, e171_264, e171_266, e171_269, e171_269u, e171_270, e171_271, e171_274, e171_276, e171_279, e171_282, e171_285, e171_287, e171_288, e171_290, e171_291, e171_292, e171_293, e171_296, e171_297, e171_300, e171_301n, e171_301i, e171_301r, e171_301v, e171_302n, e171_302i, e171_302r, e171_302v, e171_305, e171_308, e171_309, e171_312, e171_312u, e171_313, e171_316, e171_316u, e171_317, e171_320, e171_323, e171_325, e171_328, e171_328u, e171_329, e171_332, e171_333, e171_333u, e171_334, e171_337, e171_338, e171_339, e171_340, e171_343, e171_343u, e171_344, e171_347, e171_350, e171_351, e171_354, e171_355, n10, lt2, if_true, if_false, isoN, np_len0, List.length_cons, List.length_nil, Nat.reduceLeDiff, Nat.reduceAdd, e160, m108, m109, e8, e9, nz, q1, q2, np_aft_v, fp_e1, m119, hcon, i1, np_nb1]
theorem q171 (h : GI F) : ∃ k', k' ≤ k + 10 ∧ np_X 171 0 [some (.ref 0), none, none, none, none, none, none, none] [] (np_S F L C fm k scr) = np_o 1 (np_S F L C fm k' scr) := by
  obtain ⟨V, hr, hk⟩ := h
  obtain ⟨g, k1, hk1, e1⟩ := p171a (L := L) (C := C) (fm := fm) (k := k) (scr := scr) hr hk
  have hX := hk.2.2.2.2.1
  have hY := hk.2.2.2.2.2.1
  unfold gmX at hX hY
  obtain ⟨k2, m4, m5, m6, m7, hk2, e2⟩ := p171b (L := L) (C := C) (fm := fm) (k := k1) (scr := scr) hr hk (g := g) (f := 0) (a := 3) (by decide) rfl ⟨by rw [gv_3 hr (by decide), hX.1], bal3 hr hk, V 3 2, by omega, gv_3 hr (by decide)⟩ (l4 := none) (l5 := none) (l6 := none) (l7 := none)
  obtain ⟨k3, n4, n5, n6, n7, hk3, e3⟩ := p171b (L := L) (C := C) (fm := fm) (k := k2) (scr := scr) hr hk (g := g) (f := 1) (a := 4) (by decide) rfl ⟨by rw [gv_4 hr (by decide), hY.1], bal4 hr hk, V 4 2, by omega, gv_4 hr (by decide)⟩ (l4 := m4) (l5 := m5) (l6 := m6) (l7 := m7)
  obtain ⟨k4, hk4, e4⟩ := p171c (L := L) (C := C) (fm := fm) (k := k3) (scr := scr) hr hk (g := g) (l4 := n4) (l5 := n5) (l6 := n6) (l7 := n7)
  refine ⟨k4, by omega, ?_⟩
  rw [nI_0] at e2
  rw [e1, e2, e3, e4]
end
