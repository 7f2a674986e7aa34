/-! THE PURE PART, 42: areRows answers 1. -/
/-- nothing but the length of the line has changed -/
def R6 (F F' : Nat → Nat → Int32) : Prop := ∀ a j, ¬ (a = 0 ∧ j = 6) → F' a j = F a j
theorem R6.rf {F : Nat → Nat → Int32} : R6 F F := fun _ _ _ => rfl
theorem R6.tr {F G H : Nat → Nat → Int32} (h : R6 F G) (g : R6 G H) : R6 F H := fun a j n => (g a j n).trans (h a j n)
theorem R6.u {F : Nat → Nat → Int32} {v : Int32} : R6 F (np_u F 0 6 v) := fun a j n => np_u_ne n
theorem R6.same {F G : Nat → Nat → Int32} (h : R6 F G) : np_same F G := fun a j u => by
  have := np_us_lt u
  exact (h a j (by omega)).symm
theorem R6.wi {F G : Nat → Nat → Int32} (h : R6 F G) (w : WI F) : WI G := by
  obtain ⟨hg, h7, ⟨j, s, hH⟩, hR⟩ := w
  refine ⟨fun d hd => ?_, by rw [h 0 7 (by omega)]; exact h7, ⟨j, s, hH.1, hH.2.1, by rw [h 49 1 (by omega)]; exact hH.2.2.1, by rw [h 49 2 (by omega)]; exact hH.2.2.2⟩, RD_ot hR fun j => h _ _ (by omega)⟩
  refine GI_same (fun a j u => ?_) (hg d hd)
  have lu := np_us_lt u
  exact (h _ _ (by omega)).symm
theorem rep_same {F G : Nat → Nat → Int32} {V : gm_V} (h : np_same F G) (r : gm_rep F V) : gm_rep G V := by
  obtain ⟨h1, h2, h3⟩ := r
  exact ⟨fun i hi j hj => (h _ _ (us_s hi hj)).symm.trans (h1 i hi j hj), fun j hj => ⟨(h _ _ (us_3 hj)).symm.trans (h2 j hj).1, (h _ _ (us_4 hj)).symm.trans (h2 j hj).2⟩, fun j hj => (h _ _ (us_1 (by omega))).symm.trans (h3 j hj)⟩
/-- a cell is held -/
def cl (F : Nat → Nat → Int32) (y x : Nat) : Nat := if (sp_in F (nI x) (nI y)).isSome = true then 1 else 0
theorem cl_same {F G : Nat → Nat → Int32} (h : np_same F G) {y x : Nat} : cl F y x = cl G y x := by unfold cl; rw [in_same h]
theorem sub_t : ∀ a, a < 10 → ∀ b, b < 10 → (0 < nI a - nI b ↔ b < a) ∧ (nI a - nI b = 0 ↔ a = b) := by decide +kernel
section
variable {F : Nat → Nat → Int32} {V : gm_V} {L : Nat → Int64} {fm k : Nat} {scr : nv_Scr}
def cl_W (V : gm_V) (i y x : Nat) : Nat := if V (5 + i) 2 = x ∧ V (5 + i) 3 = y then (if V (5 + i) 5 = 0 then 0 else 1) else 0
theorem cl_cell (hr : gm_rep F V) (hk : gm_ok V) {x y : Nat} (hx : x < 10) (hy : y < 10) : cl F y x = sn (fun i => cl_W V i y x) 0 12 := by
  have hA := hk.1
  unfold cl
  cases h : sp_in F (nI x) (nI y) with
  | none =>
    have hn := ga_in_n hr hA h
    rw [sn_null 12 0 (fun q _ hq => by
      unfold cl_W
      split
      · rename_i e
        by_cases z : V (5 + q) 5 = 0
        · rw [if_pos z]
        · exact (hn q (by omega) z e.1 e.2).elim
      · rfl)]
    rfl
  | some t =>
    obtain ⟨ht, h5, h2, h3⟩ := ga_in_s hr hA hx hy h
    rw [sn_one 12 0 (x := t) (by omega) (by omega) (fun q _ hq hne => by
      unfold cl_W
      split
      · rename_i e
        by_cases z : V (5 + q) 5 = 0
        · rw [if_pos z]
        · exact (hne (hk.2.2.1 q t (by omega) ht z h5 (e.1.trans h2.symm) (e.2.trans h3.symm))).elim
      · rfl)]
    unfold cl_W
    rw [h2, h3]
    simp [h5]
theorem cl_all (hr : gm_rep F V) (hk : gm_ok V) : sn (fun y => sn (fun x => cl F y x) 0 10) 0 10 = gm_n V := by
  have e1 : sn (fun y => sn (fun x => cl F y x) 0 10) 0 10 = sn (fun y => sn (fun x => sn (fun i => cl_W V i y x) 0 12) 0 10) 0 10 :=
    sn_congr 10 0 (fun y _ hy => sn_congr 10 0 (fun x _ hx => cl_cell hr hk (by omega) (by omega)))
  have e2 : sn (fun y => sn (fun x => sn (fun i => cl_W V i y x) 0 12) 0 10) 0 10 = sn (fun y => sn (fun i => sn (fun x => cl_W V i y x) 0 10) 0 12) 0 10 :=
    sn_congr 10 0 (fun y _ _ => sn_swap (f := fun x i => cl_W V i y x) 10 0 12 0)
  have e3 := sn_swap (f := fun y i => sn (fun x => cl_W V i y x) 0 10) 10 0 12 0
  rw [e1, e2, e3]
  unfold gm_n
  refine sn_congr 12 0 (fun i _ hi => ?_)
  have a := hk.1 i (by omega)
  have i1 : ∀ y, sn (fun x => cl_W V i y x) 0 10 = if V (5 + i) 3 = y then (if V (5 + i) 5 = 0 then 0 else 1) else 0 := fun y => by
    rw [sn_one 10 0 (x := V (5 + i) 2) (by omega) (by omega) (fun q _ _ hq => by
      unfold cl_W
      rw [if_neg (by omega)])]
    unfold cl_W
    by_cases z : V (5 + i) 3 = y
    · rw [if_pos ⟨rfl, z⟩, if_pos z]
    · rw [if_neg (by omega), if_neg z]
  rw [sn_congr 10 0 (fun y _ _ => i1 y), sn_one 10 0 (x := V (5 + i) 3) (by omega) (by omega) (fun q _ _ hq => by rw [if_neg (by omega)]), if_pos rfl]
/-- one cell of a row; C: the line is written -/
theorem b174 (hr : gm_rep F V) (hk : gm_ok V) (h6 : F 0 6 = 10) {C : Nat → Nat → Int32} {y x a : Nat} (hy : y < 10) (hx : x < 10) (hC : C 182 x = sp_chr F (nI y) x) {l5 l6 l7 : Option Value} : ∃ k' m5, k' ≤ k + 1 ∧ np_X 174 35 [some (.ref 0), some (.int (nI a)), some (.int 1), some (.int (nI y)), some (.int (nI x)), l5, l6, l7] [] (np_S F L C fm k scr) = np_X 174 35 [some (.ref 0), some (.int (nI (a + cl F y x))), some (.int 1), some (.int (nI y)), some (.int (nI (x + 1))), m5, l6, l7] [] (np_S F L C fm k' scr) := by
  have hn := (sp_chr_n (F := F) (y := nI y) (x := x)).2
  rw [← hC] at hn
  have e116 := fun k' => m116 (F := F) (L := L) (C := C) (fm := fm) (k := k') (scr := scr) (x := x) hx h6 hn
  have q := q153 (F := F) (L := L) (C := C) (fm := fm) (k := k) (scr := scr) (x := nI x) (y := nI y)
  have ht := sp_tray_n hx hy
  have lx := np_lt10 hx
  cases h : sp_in F (nI x) (nI y) with
  | none =>
    have s : lw_sat F (nI x) (nI y) = -1000 := by unfold lw_sat; rw [if_pos ht, h]
    have sk : lw_sak F (nI x) (nI y) = 1 := by unfold lw_sak; rw [if_pos ht, h]
    have c : sp_chr F (nI y) x = 46 := by unfold sp_chr; rw [h]
    have w : cl F y x = 0 := by unfold cl; rw [h]; rfl
    have e := e116 (k + 1)
    rw [hC, c] at e
    rw [s, sk] at q
    rw [w]
    refine ⟨k + 1, some (.int (-1000)), Nat.le_refl _, ?_⟩
    rw [e174_35]
    simp only [e174_0, e174_1n, e174_1i, e174_1r, e174_1v, e174_2, e174_3n, e174_3i, e174_3r, e174_3v, e174_4, e174_5n, e174_5i, e174_5r, e174_5v, e174_6, e174_7, e174_10, e174_11, e174_13, e174_16, e174_16u, e174_17, e174_18, e174_21, e174_23, e174_26, e174_27, e174_30, e174_31n, e174_31i, e174_31r, e174_31v, e174_32, e174_33n, e174_33i, e174_33r, e174_33v, e174_36, e174_39, e174_41, e174_43, e174_46, e174_46u, e174_47, e174_49, e174_50, e174_53n, e174_53i, e174_53r, e174_53v, e174_55, e174_56, e174_58, e174_61, e174_64, e174_65, e174_68, e174_69, e174_70n, e174_70i, e174_70r, e174_70v, e174_71, e174_71u, e174_72, e174_74, e174_77, e174_79, e174_82, e174_85, e174_87, e174_90, e174_90u, e174_91, e174_93, e174_96, e174_99, e174_101, e174_104, e174_106, e174_108, e174_109, e174_110, e174_113, e174_114, e174_117, e174_118n, e174_118i, e174_118r, e174_118v, e174_119n, e174_119i, e174_119r, e174_119v, e174_122, e174_125n, e174_125i, e174_125r, e174_125v, e174_128, e174_131, e174_132n, e174_132i, e174_132r, e174_132v, e174_133, e174_134, e174_137, e174_138, e174_139, e174_142, e174_142u, e174_143, e174_144, e174_145, e174_146, e174_149n, e174_149i, e174_149r, e174_149v, e174_151, e174_151u, e174_152, e174_153, e174_156n, e174_156i, e174_156r, e174_156v, e174_158, e174_158u, e174_159, e174_161, e174_164, e174_164u, e174_165, e174_167, e174_170, e174_171n, e174_171i, e174_171r, e174_171v, e174_173, e174_173u, e174_174, e174_176, e174_179, e174_179u, e174_180, e174_182, e174_185, e174_186n, e174_186i, e174_186r, e174_186v, e174_188, e174_190, e174_193, e174_195, e174_198, e174_200, e174_203, e174_205, e174_208, e174_210, e174_212, e174_215, e174_216, e174_219, e174_220n, e174_220i, e174_220r, e174_220v, e174_221n, e174_221i, e174_221r, e174_221v, e174_224, e174_227, e174_228, e174_231, e174_232, e174_232u, e174_233, e174_234, e174_237, e174_237u, e174_238, e174_239, e174_242, e174_243, e174_246, e174_246u, e174_247, e174_248, e174_251, e174_254, e174_257, e174_257u, e174_258, e174_259, e174_262, e174_265, e174_268, e174_269, e174_272, e174_273, n10, lx, if_true, if_false, isoN, np_len0, List.length_cons, List.length_nil, Nat.reduceLeDiff, Nat.reduceAdd, q, np_aft_v, nme, nI_p0, e, Nat.add_zero, nI_1]
  | some j =>
    obtain ⟨hj, h5, -, -⟩ := ga_in_s hr hk.1 hx hy h
    have jc : j < V 1 3 := by
      by_cases z : V 1 3 ≤ j
      · exact absurd (hk.2.1.2 j hj z) h5
      · omega
    have hc := gv_1 hr (show 3 = 3 ∨ 3 = 4 ∨ 3 = 5 ∨ 3 = 6 ∨ 3 = 8 ∨ 3 = 9 by decide)
    have nn := sp_num_nI hc hk.2.1.1 jc
    have fj : F (5 + j) 0 = nI j := GI_num ⟨V, hr, hk⟩ hj
    have s : lw_sat F (nI x) (nI y) = nI j := by unfold lw_sat; rw [if_pos ht, h]; exact fj
    have sk : lw_sak F (nI x) (nI y) = 0 := by unfold lw_sak; rw [if_pos ht, h]
    have c : sp_chr F (nI y) x = sp_ltr F j := by unfold sp_chr; rw [h]
    have w : cl F y x = 1 := by unfold cl; rw [h]; rfl
    have e := e116 k
    rw [hC, c] at e
    rw [s, sk] at q
    rw [w]
    obtain ⟨t1, t2, -⟩ := tx_let j hj
    have nj := nm j (by omega)
    refine ⟨k, some (.int (nI j)), Nat.le_succ _, ?_⟩
    rw [e174_35]
    unfold sp_ltr at e
    by_cases f0 : F (5 + j) 1 = 0
    · rw [if_pos f0] at e
      simp only [e174_0, e174_1n, e174_1i, e174_1r, e174_1v, e174_2, e174_3n, e174_3i, e174_3r, e174_3v, e174_4, e174_5n, e174_5i, e174_5r, e174_5v, e174_6, e174_7, e174_10, e174_11, e174_13, e174_16, e174_16u, e174_17, e174_18, e174_21, e174_23, e174_26, e174_27, e174_30, e174_31n, e174_31i, e174_31r, e174_31v, e174_32, e174_33n, e174_33i, e174_33r, e174_33v, e174_36, e174_39, e174_41, e174_43, e174_46, e174_46u, e174_47, e174_49, e174_50, e174_53n, e174_53i, e174_53r, e174_53v, e174_55, e174_56, e174_58, e174_61, e174_64, e174_65, e174_68, e174_69, e174_70n, e174_70i, e174_70r, e174_70v, e174_71, e174_71u, e174_72, e174_74, e174_77, e174_79, e174_82, e174_85, e174_87, e174_90, e174_90u, e174_91, e174_93, e174_96, e174_99, e174_101, e174_104, e174_106, e174_108, e174_109, e174_110, e174_113, e174_114, e174_117, e174_118n, e174_118i, e174_118r, e174_118v, e174_119n, e174_119i, e174_119r, e174_119v, e174_122, e174_125n, e174_125i, e174_125r, e174_125v, e174_128, e174_131, e174_132n, e174_132i, e174_132r, e174_132v, e174_133, e174_134, e174_137, e174_138, e174_139, e174_142, e174_142u, e174_143, e174_144, e174_145, e174_146, e174_149n, e174_149i, e174_149r, e174_149v, e174_151, e174_151u, e174_152, e174_153, e174_156n, e174_156i, e174_156r, e174_156v, e174_158, e174_158u, e174_159, e174_161, e174_164, e174_164u, e174_165, e174_167, e174_170, e174_171n, e174_171i, e174_171r, e174_171v, e174_173, e174_173u, e174_174, e174_176, e174_179, e174_179u, e174_180, e174_182, e174_185, e174_186n, e174_186i, e174_186r, e174_186v, e174_188, e174_190, e174_193, e174_195, e174_198, e174_200, e174_203, e174_205, e174_208, e174_210, e174_212, e174_215, e174_216, e174_219, e174_220n, e174_220i, e174_220r, e174_220v, e174_221n, e174_221i, e174_221r, e174_221v, e174_224, e174_227, e174_228, e174_231, e174_232, e174_232u, e174_233, e174_234, e174_237, e174_237u, e174_238, e174_239, e174_242, e174_243, e174_246, e174_246u, e174_247, e174_248, e174_251, e174_254, e174_257, e174_257u, e174_258, e174_259, e174_262, e174_265, e174_268, e174_269, e174_272, e174_273, n10, lx, if_true, if_false, isoN, np_len0, List.length_cons, List.length_nil, Nat.reduceLeDiff, Nat.reduceAdd, q, np_aft_v, nj, e, Nat.add_zero, nI_1, m86 nn, f0, t1]
    · rw [if_neg f0] at e
      simp only [e174_0, e174_1n, e174_1i, e174_1r, e174_1v, e174_2, e174_3n, e174_3i, e174_3r, e174_3v, e174_4, e174_5n, e174_5i, e174_5r, e174_5v, e174_6, e174_7, e174_10, e174_11, e174_13, e174_16, e174_16u, e174_17, e174_18, e174_21, e174_23, e174_26, e174_27, e174_30, e174_31n, e174_31i, e174_31r, e174_31v, e174_32, e174_33n, e174_33i, e174_33r, e174_33v, e174_36, e174_39, e174_41, e174_43, e174_46, e174_46u, e174_47, e174_49, e174_50, e174_53n, e174_53i, e174_53r, e174_53v, e174_55, e174_56, e174_58, e174_61, e174_64, e174_65, e174_68, e174_69, e174_70n, e174_70i, e174_70r, e174_70v, e174_71, e174_71u, e174_72, e174_74, e174_77, e174_79, e174_82, e174_85, e174_87, e174_90, e174_90u, e174_91, e174_93, e174_96, e174_99, e174_101, e174_104, e174_106, e174_108, e174_109, e174_110, e174_113, e174_114, e174_117, e174_118n, e174_118i, e174_118r, e174_118v, e174_119n, e174_119i, e174_119r, e174_119v, e174_122, e174_125n, e174_125i, e174_125r, e174_125v, e174_128, e174_131, e174_132n, e174_132i, e174_132r, e174_132v, e174_133, e174_134, e174_137, e174_138, e174_139, e174_142, e174_142u, e174_143, e174_144, e174_145, e174_146, e174_149n, e174_149i, e174_149r, e174_149v, e174_151, e174_151u, e174_152, e174_153, e174_156n, e174_156i, e174_156r, e174_156v, e174_158, e174_158u, e174_159, e174_161, e174_164, e174_164u, e174_165, e174_167, e174_170, e174_171n, e174_171i, e174_171r, e174_171v, e174_173, e174_173u, e174_174, e174_176, e174_179, e174_179u, e174_180, e174_182, e174_185, e174_186n, e174_186i, e174_186r, e174_186v, e174_188, e174_190, e174_193, e174_195, e174_198, e174_200, e174_203, e174_205, e174_208, e174_210, e174_212, e174_215, e174_216, e174_219, e174_220n, e174_220i, e174_220r, e174_220v, e174_221n, e174_221i, e174_221r, e174_221v, e174_224, e174_227, e174_228, e174_231, e174_232, e174_232u, e174_233, e174_234, e174_237, e174_237u, e174_238, e174_239, e174_242, e174_243, e174_246, e174_246u, e174_247, e174_248, e174_251, e174_254, e174_257, e174_257u, e174_258, e174_259, e174_262, e174_265, e174_268, e174_269, e174_272, e174_273, n10, lx, if_true, if_false, isoN, np_len0, List.length_cons, List.length_nil, Nat.reduceLeDiff, Nat.reduceAdd, q, np_aft_v, nj, e, Nat.add_zero, nI_1, m86 nn, f0, t2]
theorem l174x (hr : gm_rep F V) (hk : gm_ok V) (h6 : F 0 6 = 10) {C : Nat → Nat → Int32} {y : Nat} (hy : y < 10) (hC : ∀ x, x < 10 → C 182 x = sp_chr F (nI y) x) {l6 l7 : Option Value} : ∀ (n x : Nat), x + n = 10 → ∀ (a k : Nat) (l5 : Option Value), ∃ k' m5, k' ≤ k + n ∧ np_X 174 35 [some (.ref 0), some (.int (nI a)), some (.int 1), some (.int (nI y)), some (.int (nI x)), l5, l6, l7] [] (np_S F L C fm k scr) = np_X 174 125 [some (.ref 0), some (.int (nI (a + sn (fun x => cl F y x) x n))), some (.int 1), some (.int (nI y)), some (.int (nI 10)), m5, l6, l7] [] (np_S F L C fm k' scr)
  | 0, x, h, a, k, l5 => by
    obtain rfl : x = 10 := by omega
    refine ⟨k, l5, by omega, ?_⟩
    rw [e174_35]
    simp only [e174_0, e174_1n, e174_1i, e174_1r, e174_1v, e174_2, e174_3n, e174_3i, e174_3r, e174_3v, e174_4, e174_5n, e174_5i, e174_5r, e174_5v, e174_6, e174_7, e174_10, e174_11, e174_13, e174_16, e174_16u, e174_17, e174_18, e174_21, e174_23, e174_26, e174_27, e174_30, e174_31n, e174_31i, e174_31r, e174_31v, e174_32, e174_33n, e174_33i, e174_33r, e174_33v, e174_36, e174_39, e174_41, e174_43, e174_46, e174_46u, e174_47, e174_49, e174_50, e174_53n, e174_53i, e174_53r, e174_53v, e174_55, e174_56, e174_58, e174_61, e174_64, e174_65, e174_68, e174_69, e174_70n, e174_70i, e174_70r, e174_70v, e174_71, e174_71u, e174_72, e174_74, e174_77, e174_79, e174_82, e174_85, e174_87, e174_90, e174_90u, e174_91, e174_93, e174_96, e174_99, e174_101, e174_104, e174_106, e174_108, e174_109, e174_110, e174_113, e174_114, e174_117, e174_118n, e174_118i, e174_118r, e174_118v, e174_119n, e174_119i, e174_119r, e174_119v, e174_122, e174_128, e174_131, e174_132n, e174_132i, e174_132r, e174_132v, e174_133, e174_134, e174_137, e174_138, e174_139, e174_142, e174_142u, e174_143, e174_144, e174_145, e174_146, e174_149n, e174_149i, e174_149r, e174_149v, e174_151, e174_151u, e174_152, e174_153, e174_156n, e174_156i, e174_156r, e174_156v, e174_158, e174_158u, e174_159, e174_161, e174_164, e174_164u, e174_165, e174_167, e174_170, e174_171n, e174_171i, e174_171r, e174_171v, e174_173, e174_173u, e174_174, e174_176, e174_179, e174_179u, e174_180, e174_182, e174_185, e174_186n, e174_186i, e174_186r, e174_186v, e174_188, e174_190, e174_193, e174_195, e174_198, e174_200, e174_203, e174_205, e174_208, e174_210, e174_212, e174_215, e174_216, e174_219, e174_220n, e174_220i, e174_220r, e174_220v, e174_221n, e174_221i, e174_221r, e174_221v, e174_224, e174_227, e174_228, e174_231, e174_232, e174_232u, e174_233, e174_234, e174_237, e174_237u, e174_238, e174_239, e174_242, e174_243, e174_246, e174_246u, e174_247, e174_248, e174_251, e174_254, e174_257, e174_257u, e174_258, e174_259, e174_262, e174_265, e174_268, e174_269, e174_272, e174_273, n10, np_nlt10, if_false, sn, Nat.add_zero]
  | n + 1, x, h, a, k, l5 => by
    obtain ⟨k1, m5, hk1, e1⟩ := b174 (L := L) (fm := fm) (k := k) (scr := scr) hr hk h6 (a := a) hy (show x < 10 by omega) (hC x (by omega)) (l5 := l5) (l6 := l6) (l7 := l7)
    obtain ⟨k2, p5, hk2, e2⟩ := l174x hr hk h6 hy hC n (x + 1) (by omega) (a + cl F y x) k1 m5
    refine ⟨k2, p5, by omega, ?_⟩
    rw [e1, e2, sn_s, ← Nat.add_assoc]
end
section
variable {V : gm_V} {L : Nat → Int64} {fm : Nat} {scr : nv_Scr}
theorem chr_same {F G : Nat → Nat → Int32} (h : np_same F G) {y : Int32} {x : Nat} : sp_chr F y x = sp_chr G y x := by
  unfold sp_chr
  rw [← in_same h]
  cases hx : sp_in F (nI x) y with
  | none => rfl
  | some j =>
    have hj := sp_in_lt hx
    show sp_ltr F j = sp_ltr G j
    unfold sp_ltr
    rw [h (5 + j) 1 (us_s hj (by decide))]
theorem l174y (hk : gm_ok V) : ∀ (n y : Nat), y + n = 10 → ∀ (F : Nat → Nat → Int32), gm_rep F V → ∀ (C : Nat → Nat → Int32) (a k : Nat) (l4 l5 l6 l7 : Option Value), ∃ F' C' k' m4 m5, R6 F F' ∧ k' ≤ k + 10 * n ∧ np_X 174 6 [some (.ref 0), some (.int (nI a)), some (.int 1), some (.int (nI y)), l4, l5, l6, l7] [] (np_S F L C fm k scr) = np_X 174 131 [some (.ref 0), some (.int (nI (a + sn (fun y => sn (fun x => cl F y x) 0 10) y n))), some (.int 1), some (.int (nI 10)), m4, m5, l6, l7] [] (np_S F' L C' fm k' scr)
  | 0, y, h, F, hr, C, a, k, l4, l5, l6, l7 => by
    obtain rfl : y = 10 := by omega
    refine ⟨F, C, k, l4, l5, R6.rf, by omega, ?_⟩
    rw [e174_6]
    simp only [e174_0, e174_1n, e174_1i, e174_1r, e174_1v, e174_2, e174_3n, e174_3i, e174_3r, e174_3v, e174_4, e174_5n, e174_5i, e174_5r, e174_5v, e174_7, e174_10, e174_11, e174_13, e174_16, e174_16u, e174_17, e174_18, e174_21, e174_23, e174_26, e174_27, e174_30, e174_31n, e174_31i, e174_31r, e174_31v, e174_32, e174_33n, e174_33i, e174_33r, e174_33v, e174_35, e174_36, e174_39, e174_41, e174_43, e174_46, e174_46u, e174_47, e174_49, e174_50, e174_53n, e174_53i, e174_53r, e174_53v, e174_55, e174_56, e174_58, e174_61, e174_64, e174_65, e174_68, e174_69, e174_70n, e174_70i, e174_70r, e174_70v, e174_71, e174_71u, e174_72, e174_74, e174_77, e174_79, e174_82, e174_85, e174_87, e174_90, e174_90u, e174_91, e174_93, e174_96, e174_99, e174_101, e174_104, e174_106, e174_108, e174_109, e174_110, e174_113, e174_114, e174_117, e174_118n, e174_118i, e174_118r, e174_118v, e174_119n, e174_119i, e174_119r, e174_119v, e174_122, e174_125n, e174_125i, e174_125r, e174_125v, e174_128, e174_132n, e174_132i, e174_132r, e174_132v, e174_133, e174_134, e174_137, e174_138, e174_139, e174_142, e174_142u, e174_143, e174_144, e174_145, e174_146, e174_149n, e174_149i, e174_149r, e174_149v, e174_151, e174_151u, e174_152, e174_153, e174_156n, e174_156i, e174_156r, e174_156v, e174_158, e174_158u, e174_159, e174_161, e174_164, e174_164u, e174_165, e174_167, e174_170, e174_171n, e174_171i, e174_171r, e174_171v, e174_173, e174_173u, e174_174, e174_176, e174_179, e174_179u, e174_180, e174_182, e174_185, e174_186n, e174_186i, e174_186r, e174_186v, e174_188, e174_190, e174_193, e174_195, e174_198, e174_200, e174_203, e174_205, e174_208, e174_210, e174_212, e174_215, e174_216, e174_219, e174_220n, e174_220i, e174_220r, e174_220v, e174_221n, e174_221i, e174_221r, e174_221v, e174_224, e174_227, e174_228, e174_231, e174_232, e174_232u, e174_233, e174_234, e174_237, e174_237u, e174_238, e174_239, e174_242, e174_243, e174_246, e174_246u, e174_247, e174_248, e174_251, e174_254, e174_257, e174_257u, e174_258, e174_259, e174_262, e174_265, e174_268, e174_269, e174_272, e174_273, n10, np_nlt10, if_false, sn, Nat.add_zero]
  | n + 1, y, h, F, hr, C, a, k, l4, l5, l6, l7 => by
    have hy : y < 10 := by omega
    have h0 : ∀ j, j < 12 → F (5 + j) 0 = nI j := fun j hj => GI_num ⟨V, hr, hk⟩ hj
    have z0 : nI 0 = 0 := rfl
    have hy0 : sp_tray 0 (nI y) = true := sp_tray_n (x := 0) (by decide) hy
    have e115 := m115 (F := F) (L := L) (fm := fm) (k := k) (scr := scr) h0 hy0 (C := C)
    have r1 : R6 F (np_u F 0 6 10) := R6.u
    have hr1 := rep_same r1.same hr
    have hC : ∀ x, x < 10 → np_lnC F (nI y) 0 10 C 182 x = sp_chr (np_u F 0 6 10) (nI y) x := fun x hx => by
      rw [np_lnC_at, if_pos ⟨by omega, by omega⟩, chr_same r1.same]
    obtain ⟨k1, m5, hk1, e1⟩ := l174x (L := L) (fm := fm) (scr := scr) hr1 hk np_u_eq hy hC (l6 := l6) (l7 := l7) 10 0 rfl a k l5
    obtain ⟨F', C', k', m4, m5', r2, hk2, e2⟩ := l174y hk n (y + 1) (by omega) (np_u F 0 6 10) hr1 (np_lnC F (nI y) 0 10 C) (a + sn (fun x => cl (np_u F 0 6 10) y x) 0 10) k1 (some (.int (nI 10))) m5 l6 l7
    rw [z0] at e1
    have s1 : sn (fun x => cl (np_u F 0 6 10) y x) 0 10 = sn (fun x => cl F y x) 0 10 := sn_congr 10 0 (fun x _ _ => (cl_same r1.same).symm)
    have s2 : sn (fun y => sn (fun x => cl (np_u F 0 6 10) y x) 0 10) (y + 1) n = sn (fun y => sn (fun x => cl F y x) 0 10) (y + 1) n := sn_congr n _ (fun y _ _ => sn_congr 10 0 (fun x _ _ => (cl_same r1.same).symm))
    refine ⟨F', C', k', m4, m5', r1.tr r2, by omega, ?_⟩
    rw [sn_s, ← Nat.add_assoc, ← s1, ← s2, ← e2, e174_6]
    simp only [e174_0, e174_1n, e174_1i, e174_1r, e174_1v, e174_2, e174_3n, e174_3i, e174_3r, e174_3v, e174_4, e174_5n, e174_5i, e174_5r, e174_5v, e174_7, e174_10, e174_11, e174_13, e174_16, e174_16u, e174_17, e174_18, e174_21, e174_23, e174_26, e174_27, e174_30, e174_31n, e174_31i, e174_31r, e174_31v, e174_32, e174_33n, e174_33i, e174_33r, e174_33v, e174_36, e174_39, e174_41, e174_43, e174_46, e174_46u, e174_47, e174_49, e174_50, e174_53n, e174_53i, e174_53r, e174_53v, e174_55, e174_56, e174_58, e174_61, e174_64, e174_65, e174_68, e174_69, e174_70n, e174_70i, e174_70r, e174_70v, e174_71, e174_71u, e174_72, e174_74, e174_77, e174_79, e174_82, e174_85, e174_87, e174_90, e174_90u, e174_91, e174_93, e174_96, e174_99, e174_101, e174_104, e174_106, e174_108, e174_109, e174_110, e174_113, e174_114, e174_117, e174_118n, e174_118i, e174_118r, e174_118v, e174_119n, e174_119i, e174_119r, e174_119v, e174_122, e174_125n, e174_125i, e174_125r, e174_125v, e174_128, e174_131, e174_132n, e174_132i, e174_132r, e174_132v, e174_133, e174_134, e174_137, e174_138, e174_139, e174_142, e174_142u, e174_143, e174_144, e174_145, e174_146, e174_149n, e174_149i, e174_149r, e174_149v, e174_151, e174_151u, e174_152, e174_153, e174_156n, e174_156i, e174_156r, e174_156v, e174_158, e174_158u, e174_159, e174_161, e174_164, e174_164u, e174_165, e174_167, e174_170, e174_171n, e174_171i, e174_171r, e174_171v, e174_173, e174_173u, e174_174, e174_176, e174_179, e174_179u, e174_180, e174_182, e174_185, e174_186n, e174_186i, e174_186r, e174_186v, e174_188, e174_190, e174_193, e174_195, e174_198, e174_200, e174_203, e174_205, e174_208, e174_210, e174_212, e174_215, e174_216, e174_219, e174_220n, e174_220i, e174_220r, e174_220v, e174_221n, e174_221i, e174_221r, e174_221v, e174_224, e174_227, e174_228, e174_231, e174_232, e174_232u, e174_233, e174_234, e174_237, e174_237u, e174_238, e174_239, e174_242, e174_243, e174_246, e174_246u, e174_247, e174_248, e174_251, e174_254, e174_257, e174_257u, e174_258, e174_259, e174_262, e174_265, e174_268, e174_269, e174_272, e174_273, n10, np_lt10 hy, if_true, if_false, isoN, np_len0, e115, np_aft_v, e1, nI_1]
end
section
variable {F : Nat → Nat → Int32} {V : gm_V} {L : Nat → Int64} {C : Nat → Nat → Int32} {fm k : Nat} {scr : nv_Scr}
theorem l174r (hr : gm_rep F V) (hk : gm_ok V) : ∀ (n r : Nat), 1 ≤ r → (r + n = gm_n V ∨ (n = 0 ∧ gm_n V ≤ r ∧ r < 100)) → ∀ (l4 l5 l6 l7 : Option Value), ∃ r' m4 m5 m6 m7, np_X 174 133 [some (.ref 0), some (.int (nI (gm_n V))), some (.int 1), some (.int (nI r)), l4, l5, l6, l7] [] (np_S F L C fm k scr) = np_X 174 227 [some (.ref 0), some (.int (nI (gm_n V))), some (.int 1), some (.int (nI r')), m4, m5, m6, m7] [] (np_S F L C fm k scr)
  | 0, r, h1, h2, l4, l5, l6, l7 => by
    have gl := @gm_n_le V
    refine ⟨r, l4, l5, l6, l7, ?_⟩
    rw [e174_133]
    simp only [e174_0, e174_1n, e174_1i, e174_1r, e174_1v, e174_2, e174_3n, e174_3i, e174_3r, e174_3v, e174_4, e174_5n, e174_5i, e174_5r, e174_5v, e174_6, e174_7, e174_10, e174_11, e174_13, e174_16, e174_16u, e174_17, e174_18, e174_21, e174_23, e174_26, e174_27, e174_30, e174_31n, e174_31i, e174_31r, e174_31v, e174_32, e174_33n, e174_33i, e174_33r, e174_33v, e174_35, e174_36, e174_39, e174_41, e174_43, e174_46, e174_46u, e174_47, e174_49, e174_50, e174_53n, e174_53i, e174_53r, e174_53v, e174_55, e174_56, e174_58, e174_61, e174_64, e174_65, e174_68, e174_69, e174_70n, e174_70i, e174_70r, e174_70v, e174_71, e174_71u, e174_72, e174_74, e174_77, e174_79, e174_82, e174_85, e174_87, e174_90, e174_90u, e174_91, e174_93, e174_96, e174_99, e174_101, e174_104, e174_106, e174_108, e174_109, e174_110, e174_113, e174_114, e174_117, e174_118n, e174_118i, e174_118r, e174_118v, e174_119n, e174_119i, e174_119r, e174_119v, e174_122, e174_125n, e174_125i, e174_125r, e174_125v, e174_128, e174_131, e174_132n, e174_132i, e174_132r, e174_132v, e174_134, e174_137, e174_138, e174_139, e174_142, e174_142u, e174_143, e174_144, e174_145, e174_146, e174_149n, e174_149i, e174_149r, e174_149v, e174_151, e174_151u, e174_152, e174_153, e174_156n, e174_156i, e174_156r, e174_156v, e174_158, e174_158u, e174_159, e174_161, e174_164, e174_164u, e174_165, e174_167, e174_170, e174_171n, e174_171i, e174_171r, e174_171v, e174_173, e174_173u, e174_174, e174_176, e174_179, e174_179u, e174_180, e174_182, e174_185, e174_186n, e174_186i, e174_186r, e174_186v, e174_188, e174_190, e174_193, e174_195, e174_198, e174_200, e174_203, e174_205, e174_208, e174_210, e174_212, e174_215, e174_216, e174_219, e174_220n, e174_220i, e174_220r, e174_220v, e174_221n, e174_221i, e174_221r, e174_221v, e174_224, e174_228, e174_231, e174_232, e174_232u, e174_233, e174_234, e174_237, e174_237u, e174_238, e174_239, e174_242, e174_243, e174_246, e174_246u, e174_247, e174_248, e174_251, e174_254, e174_257, e174_257u, e174_258, e174_259, e174_262, e174_265, e174_268, e174_269, e174_272, e174_273, n10, np_nltn (show ¬ r < gm_n V by omega) (show r < 1000 by omega), if_false]
  | n + 1, r, h1, h2, l4, l5, l6, l7 => by
    have gl := @gm_n_le V
    have hA := hk.1
    have hrn : r < gm_n V := by omega
    obtain ⟨i, hi, i5, iR, ie⟩ := rnk_s hr hk (r := r - 1) (by omega)
    obtain ⟨j, hj, j5, jR, je⟩ := rnk_s hr hk (r := r) hrn
    have hc := gv_1 hr (show 3 = 3 ∨ 3 = 4 ∨ 3 = 5 ∨ 3 = 6 ∨ 3 = 8 ∨ 3 = 9 by decide)
    have ic : i < V 1 3 := by
      by_cases z : V 1 3 ≤ i
      · exact absurd (hk.2.1.2 i hi z) i5
      · omega
    have jc : j < V 1 3 := by
      by_cases z : V 1 3 ≤ j
      · exact absurd (hk.2.1.2 j hj z) j5
      · omega
    have ni := sp_num_nI hc hk.2.1.1 ic
    have nj := sp_num_nI hc hk.2.1.1 jc
    have fi : F (5 + i) 0 = nI i := GI_num ⟨V, hr, hk⟩ hi
    have fj : F (5 + j) 0 = nI j := GI_num ⟨V, hr, hk⟩ hj
    have q1 := q156 (F := F) (L := L) (C := C) (fm := fm) (k := k) (scr := scr) (x := nI (r - 1))
    have q2 := q156 (F := F) (L := L) (C := C) (fm := fm) (k := k) (scr := scr) (x := nI r)
    have v1 : lw_rnk F (nI (r - 1)) = nI i := by unfold lw_rnk; rw [ie]; exact fi
    have v2 : lw_rnk F (nI r) = nI j := by unfold lw_rnk; rw [je]; exact fj
    have w1 : lw_rkk F (nI (r - 1)) = 0 := by unfold lw_rkk; rw [ie]
    have w2 : lw_rkk F (nI r) = 0 := by unfold lw_rkk; rw [je]
    rw [v1, w1] at q1
    rw [v2, w2] at q2
    have er : nI r - 1 = nI (r - 1) := nI_sub1 (by omega)
    have kk : rk_K V j < rk_K V i := by
      by_cases z : rk_K V i < rk_K V j
      · have := rk_mono hj j5 z
        omega
      · by_cases z2 : rk_K V i = rk_K V j
        · have := rk_inj hA hi hj z2
          subst this
          omega
        · omega
    unfold rk_K at kk
    have a := hA i hi
    have b := hA j hj
    obtain ⟨c1, c2⟩ := sub_t (V (5 + i) 6) (by omega) (V (5 + j) 6) (by omega)
    obtain ⟨d1, d2⟩ := sub_t (V (5 + i) 5) (by omega) (V (5 + j) 5) (by omega)
    rw [← gv_s hr hi (show 6 < 9 by decide), ← gv_s hr hj (show 6 < 9 by decide)] at c1 c2
    rw [← gv_s hr hi (show 5 < 9 by decide), ← gv_s hr hj (show 5 < 9 by decide)] at d1 d2
    obtain ⟨r', m4, m5, m6, m7, ih⟩ := l174r hr hk n (r + 1) (by omega) (by omega) (some (.int (nI i))) (some (.int (nI j))) (some (.int (F (5 + i) 6 - F (5 + j) 6))) (some (.int (F (5 + i) 5 - F (5 + j) 5)))
    refine ⟨r', m4, m5, m6, m7, ?_⟩
    rw [← ih, e174_133]
    have lt := np_ltn hrn (show gm_n V < 1000 by omega)
    by_cases g1 : 0 < F (5 + i) 6 - F (5 + j) 6
    · simp only [e174_0, e174_1n, e174_1i, e174_1r, e174_1v, e174_2, e174_3n, e174_3i, e174_3r, e174_3v, e174_4, e174_5n, e174_5i, e174_5r, e174_5v, e174_6, e174_7, e174_10, e174_11, e174_13, e174_16, e174_16u, e174_17, e174_18, e174_21, e174_23, e174_26, e174_27, e174_30, e174_31n, e174_31i, e174_31r, e174_31v, e174_32, e174_33n, e174_33i, e174_33r, e174_33v, e174_35, e174_36, e174_39, e174_41, e174_43, e174_46, e174_46u, e174_47, e174_49, e174_50, e174_53n, e174_53i, e174_53r, e174_53v, e174_55, e174_56, e174_58, e174_61, e174_64, e174_65, e174_68, e174_69, e174_70n, e174_70i, e174_70r, e174_70v, e174_71, e174_71u, e174_72, e174_74, e174_77, e174_79, e174_82, e174_85, e174_87, e174_90, e174_90u, e174_91, e174_93, e174_96, e174_99, e174_101, e174_104, e174_106, e174_108, e174_109, e174_110, e174_113, e174_114, e174_117, e174_118n, e174_118i, e174_118r, e174_118v, e174_119n, e174_119i, e174_119r, e174_119v, e174_122, e174_125n, e174_125i, e174_125r, e174_125v, e174_128, e174_131, e174_132n, e174_132i, e174_132r, e174_132v, e174_134, e174_137, e174_138, e174_139, e174_142, e174_142u, e174_143, e174_144, e174_145, e174_146, e174_149n, e174_149i, e174_149r, e174_149v, e174_151, e174_151u, e174_152, e174_153, e174_156n, e174_156i, e174_156r, e174_156v, e174_158, e174_158u, e174_159, e174_161, e174_164, e174_164u, e174_165, e174_167, e174_170, e174_171n, e174_171i, e174_171r, e174_171v, e174_173, e174_173u, e174_174, e174_176, e174_179, e174_179u, e174_180, e174_182, e174_185, e174_186n, e174_186i, e174_186r, e174_186v, e174_188, e174_190, e174_193, e174_195, e174_198, e174_200, e174_203, e174_205, e174_208, e174_210, e174_212, e174_215, e174_216, e174_219, e174_220n, e174_220i, e174_220r, e174_220v, e174_221n, e174_221i, e174_221r, e174_221v, e174_224, e174_228, e174_231, e174_232, e174_232u, e174_233, e174_234, e174_237, e174_237u, e174_238, e174_239, e174_242, e174_243, e174_246, e174_246u, e174_247, e174_248, e174_251, e174_254, e174_257, e174_257u, e174_258, e174_259, e174_262, e174_265, e174_268, e174_269, e174_272, e174_273, n10, lt, if_true, if_false, isoN, np_len0, List.length_cons, List.length_nil, Nat.reduceLeDiff, Nat.reduceAdd, er, q1, q2, np_aft_v, Nat.add_zero, m90 ni, m90 nj, m91 ni, m91 nj, g1, nI_1]
    · have e6 : F (5 + i) 6 - F (5 + j) 6 = 0 := c2.mpr (by
        have : ¬ V (5 + j) 6 < V (5 + i) 6 := fun z => g1 (c1.mpr z)
        omega)
      have e6' := c2.mp e6
      by_cases g2 : 0 < F (5 + i) 5 - F (5 + j) 5
      · simp only [e174_0, e174_1n, e174_1i, e174_1r, e174_1v, e174_2, e174_3n, e174_3i, e174_3r, e174_3v, e174_4, e174_5n, e174_5i, e174_5r, e174_5v, e174_6, e174_7, e174_10, e174_11, e174_13, e174_16, e174_16u, e174_17, e174_18, e174_21, e174_23, e174_26, e174_27, e174_30, e174_31n, e174_31i, e174_31r, e174_31v, e174_32, e174_33n, e174_33i, e174_33r, e174_33v, e174_35, e174_36, e174_39, e174_41, e174_43, e174_46, e174_46u, e174_47, e174_49, e174_50, e174_53n, e174_53i, e174_53r, e174_53v, e174_55, e174_56, e174_58, e174_61, e174_64, e174_65, e174_68, e174_69, e174_70n, e174_70i, e174_70r, e174_70v, e174_71, e174_71u, e174_72, e174_74, e174_77, e174_79, e174_82, e174_85, e174_87, e174_90, e174_90u, e174_91, e174_93, e174_96, e174_99, e174_101, e174_104, e174_106, e174_108, e174_109, e174_110, e174_113, e174_114, e174_117, e174_118n, e174_118i, e174_118r, e174_118v, e174_119n, e174_119i, e174_119r, e174_119v, e174_122, e174_125n, e174_125i, e174_125r, e174_125v, e174_128, e174_131, e174_132n, e174_132i, e174_132r, e174_132v, e174_134, e174_137, e174_138, e174_139, e174_142, e174_142u, e174_143, e174_144, e174_145, e174_146, e174_149n, e174_149i, e174_149r, e174_149v, e174_151, e174_151u, e174_152, e174_153, e174_156n, e174_156i, e174_156r, e174_156v, e174_158, e174_158u, e174_159, e174_161, e174_164, e174_164u, e174_165, e174_167, e174_170, e174_171n, e174_171i, e174_171r, e174_171v, e174_173, e174_173u, e174_174, e174_176, e174_179, e174_179u, e174_180, e174_182, e174_185, e174_186n, e174_186i, e174_186r, e174_186v, e174_188, e174_190, e174_193, e174_195, e174_198, e174_200, e174_203, e174_205, e174_208, e174_210, e174_212, e174_215, e174_216, e174_219, e174_220n, e174_220i, e174_220r, e174_220v, e174_221n, e174_221i, e174_221r, e174_221v, e174_224, e174_228, e174_231, e174_232, e174_232u, e174_233, e174_234, e174_237, e174_237u, e174_238, e174_239, e174_242, e174_243, e174_246, e174_246u, e174_247, e174_248, e174_251, e174_254, e174_257, e174_257u, e174_258, e174_259, e174_262, e174_265, e174_268, e174_269, e174_272, e174_273, n10, lt, if_true, if_false, isoN, np_len0, List.length_cons, List.length_nil, Nat.reduceLeDiff, Nat.reduceAdd, er, q1, q2, np_aft_v, Nat.add_zero, m90 ni, m90 nj, m91 ni, m91 nj, e6, g2, nI_1, show ¬ (0 : Int32) < 0 by decide]
      · have e5 : F (5 + i) 5 - F (5 + j) 5 = 0 := d2.mpr (by
          have : ¬ V (5 + j) 5 < V (5 + i) 5 := fun z => g2 (d1.mpr z)
          omega)
        have e5' := d2.mp e5
        have lij : (nI i < nI j) = True := eq_true (nI_lt (by omega) (by omega))
        simp only [e174_0, e174_1n, e174_1i, e174_1r, e174_1v, e174_2, e174_3n, e174_3i, e174_3r, e174_3v, e174_4, e174_5n, e174_5i, e174_5r, e174_5v, e174_6, e174_7, e174_10, e174_11, e174_13, e174_16, e174_16u, e174_17, e174_18, e174_21, e174_23, e174_26, e174_27, e174_30, e174_31n, e174_31i, e174_31r, e174_31v, e174_32, e174_33n, e174_33i, e174_33r, e174_33v, e174_35, e174_36, e174_39, e174_41, e174_43, e174_46, e174_46u, e174_47, e174_49, e174_50, e174_53n, e174_53i, e174_53r, e174_53v, e174_55, e174_56, e174_58, e174_61, e174_64, e174_65, e174_68, e174_69, e174_70n, e174_70i, e174_70r, e174_70v, e174_71, e174_71u, e174_72, e174_74, e174_77, e174_79, e174_82, e174_85, e174_87, e174_90, e174_90u, e174_91, e174_93, e174_96, e174_99, e174_101, e174_104, e174_106, e174_108, e174_109, e174_110, e174_113, e174_114, e174_117, e174_118n, e174_118i, e174_118r, e174_118v, e174_119n, e174_119i, e174_119r, e174_119v, e174_122, e174_125n, e174_125i, e174_125r, e174_125v, e174_128, e174_131, e174_132n, e174_132i, e174_132r, e174_132v, e174_134, e174_137, e174_138, e174_139, e174_142, e174_142u, e174_143, e174_144, e174_145, e174_146, e174_149n, e174_149i, e174_149r, e174_149v, e174_151, e174_151u, e174_152, e174_153, e174_156n, e174_156i, e174_156r, e174_156v, e174_158, e174_158u, e174_159, e174_161, e174_164, e174_164u, e174_165, e174_167, e174_170, e174_171n, e174_171i, e174_171r, e174_171v, e174_173, e174_173u, e174_174, e174_176, e174_179, e174_179u, e174_180, e174_182, e174_185, e174_186n, e174_186i, e174_186r, e174_186v, e174_188, e174_190, e174_193, e174_195, e174_198, e174_200, e174_203, e174_205, e174_208, e174_210, e174_212, e174_215, e174_216, e174_219, e174_220n, e174_220i, e174_220r, e174_220v, e174_221n, e174_221i, e174_221r, e174_221v, e174_224, e174_228, e174_231, e174_232, e174_232u, e174_233, e174_234, e174_237, e174_237u, e174_238, e174_239, e174_242, e174_243, e174_246, e174_246u, e174_247, e174_248, e174_251, e174_254, e174_257, e174_257u, e174_258, e174_259, e174_262, e174_265, e174_268, e174_269, e174_272, e174_273, n10, lt, if_true, if_false, isoN, np_len0, List.length_cons, List.length_nil, Nat.reduceLeDiff, Nat.reduceAdd, er, q1, q2, np_aft_v, Nat.add_zero, m90 ni, m90 nj, m91 ni, m91 nj, e6, e5, lij, nI_1, show ¬ (0 : Int32) < 0 by decide]
theorem q174 (w : WI F) : ∃ F' C' k', R6 F F' ∧ k' ≤ k + 102 ∧ np_X 174 0 [some (.ref 0), none, none, none, none, none, none, none] [] (np_S F L C fm k scr) = np_o 1 (np_S F' L C' fm k' scr) := by
  obtain ⟨V, hr, hk⟩ := w.g
  obtain ⟨F', C', k1, m4, m5, r1, hk1, e1⟩ := l174y (L := L) (fm := fm) (scr := scr) hk 10 0 rfl F hr C 0 k none none none none
  rw [Nat.zero_add, cl_all hr hk, nI_0] at e1
  have hr' := rep_same r1.same hr
  have gl := @gm_n_le V
  obtain ⟨r', n4, n5, n6, n7, e2⟩ := l174r (F := F') (L := L) (C := C') (fm := fm) (k := k1) (scr := scr) hr' hk (gm_n V - 1) 1 (Nat.le_refl _) (by omega) m4 m5 none none
  have x1 : sp_rnk F' (nI (gm_n V)) = none := rnk_n hr' hk (fun r h q => by
    have := (nI_e (by omega) (by omega)).mp q
    omega)
  have x2 : sp_rnk F' (-1) = none := rnk_n hr' hk (fun r h q => nI_pos (n := r) (by omega) (by rw [q]; decide))
  have q1 := q156 (F := F') (L := L) (C := C') (fm := fm) (k := k1) (scr := scr) (x := nI (gm_n V))
  have q2 := q156 (F := F') (L := L) (C := C') (fm := fm) (k := k1 + 1) (scr := scr) (x := -1)
  unfold lw_rnk lw_rkk at q1 q2
  rw [x1] at q1
  rw [x2] at q2
  have hX := hk.2.2.2.2.1.1
  have hY := hk.2.2.2.2.2.1.1
  have f0 := m97 (F := F') (L := L) (C := C') (fm := fm) (k := k1) (scr := scr) (f := 0) (Or.inl rfl)
  have f1 := m97 (F := F') (L := L) (C := C') (fm := fm) (k := k1) (scr := scr) (f := 1) (Or.inr rfl)
  rw [show sp_aco 0 = 3 from rfl, gv_3 hr' (by decide), hX] at f0
  rw [show sp_aco 1 = 4 from rfl, gv_4 hr' (by decide), hY] at f1
  have i1 : nI 1 = 1 := rfl
  rw [i1] at e2
  refine ⟨F', C', k1 + 1 + 1, r1, by omega, ?_⟩
  simp only [e174_0, e174_1n, e174_1i, e174_1r, e174_1v, e174_2, e174_3n, e174_3i, e174_3r, e174_3v, e174_4, e174_5n, e174_5i, e174_5r, e174_5v, e174_7, e174_10, e174_11, e174_13, e174_16, e174_16u, e174_17, e174_18, e174_21, e174_23, e174_26, e174_27, e174_30, e174_31n, e174_31i, e174_31r, e174_31v, e174_32, e174_33n, e174_33i, e174_33r, e174_33v, e174_35, e174_36, e174_39, e174_41, e174_43, e174_46, e174_46u, e174_47, e174_49, e174_50, e174_53n, e174_53i, e174_53r, e174_53v, e174_55, e174_56, e174_58, e174_61, e174_64, e174_65, e174_68, e174_69, e174_70n, e174_70i, e174_70r, e174_70v, e174_71, e174_71u, e174_72, e174_74, e174_77, e174_79, e174_82, e174_85, e174_87, e174_90, e174_90u, e174_91, e174_93, e174_96, e174_99, e174_101, e174_104, e174_106, e174_108, e174_109, e174_110, e174_113, e174_114, e174_117, e174_118n, e174_118i, e174_118r, e174_118v, e174_119n, e174_119i, e174_119r, e174_119v, e174_122, e174_125n, e174_125i, e174_125r, e174_125v, e174_128, e174_131, e174_132n, e174_132i, e174_132r, e174_132v, e174_134, e174_137, e174_138, e174_139, e174_142, e174_142u, e174_143, e174_144, e174_145, e174_146, e174_149n, e174_149i, e174_149r, e174_149v, e174_151, e174_151u, e174_152, e174_153, e174_156n, e174_156i, e174_156r, e174_156v, e174_158, e174_158u, e174_159, e174_161, e174_164, e174_164u, e174_165, e174_167, e174_170, e174_171n, e174_171i, e174_171r, e174_171v, e174_173, e174_173u, e174_174, e174_176, e174_179, e174_179u, e174_180, e174_182, e174_185, e174_186n, e174_186i, e174_186r, e174_186v, e174_188, e174_190, e174_193, e174_195, e174_198, e174_200, e174_203, e174_205, e174_208, e174_210, e174_212, e174_215, e174_216, e174_219, e174_220n, e174_220i, e174_220r, e174_220v, e174_221n, e174_221i, e174_221r, e174_221v, e174_224, e174_228, e174_231, e174_232, e174_232u, e174_233, e174_234, e174_237, e174_237u, e174_238, e174_239, e174_242, e174_243, e174_246, e174_246u, e174_247, e174_248, e174_251, e174_254, e174_257, e174_257u, e174_258, e174_259, e174_262, e174_265, e174_268, e174_269, e174_272, e174_273, e1, e2]
  rw [e174_227]
  simp only [e174_0, e174_1n, e174_1i, e174_1r, e174_1v, e174_2, e174_3n, e174_3i, e174_3r, e174_3v, e174_4, e174_5n, e174_5i, e174_5r, e174_5v, e174_7, e174_10, e174_11, e174_13, e174_16, e174_16u, e174_17, e174_18, e174_21, e174_23, e174_26, e174_27, e174_30, e174_31n, e174_31i, e174_31r, e174_31v, e174_32, e174_33n, e174_33i, e174_33r, e174_33v, e174_35, e174_36, e174_39, e174_41, e174_43, e174_46, e174_46u, e174_47, e174_49, e174_50, e174_53n, e174_53i, e174_53r, e174_53v, e174_55, e174_56, e174_58, e174_61, e174_64, e174_65, e174_68, e174_69, e174_70n, e174_70i, e174_70r, e174_70v, e174_71, e174_71u, e174_72, e174_74, e174_77, e174_79, e174_82, e174_85, e174_87, e174_90, e174_90u, e174_91, e174_93, e174_96, e174_99, e174_101, e174_104, e174_106, e174_108, e174_109, e174_110, e174_113, e174_114, e174_117, e174_118n, e174_118i, e174_118r, e174_118v, e174_119n, e174_119i, e174_119r, e174_119v, e174_122, e174_125n, e174_125i, e174_125r, e174_125v, e174_128, e174_131, e174_132n, e174_132i, e174_132r, e174_132v, e174_134, e174_137, e174_138, e174_139, e174_142, e174_142u, e174_143, e174_144, e174_145, e174_146, e174_149n, e174_149i, e174_149r, e174_149v, e174_151, e174_151u, e174_152, e174_153, e174_156n, e174_156i, e174_156r, e174_156v, e174_158, e174_158u, e174_159, e174_161, e174_164, e174_164u, e174_165, e174_167, e174_170, e174_171n, e174_171i, e174_171r, e174_171v, e174_173, e174_173u, e174_174, e174_176, e174_179, e174_179u, e174_180, e174_182, e174_185, e174_186n, e174_186i, e174_186r, e174_186v, e174_188, e174_190, e174_193, e174_195, e174_198, e174_200, e174_203, e174_205, e174_208, e174_210, e174_212, e174_215, e174_216, e174_219, e174_220n, e174_220i, e174_220r, e174_220v, e174_221n, e174_221i, e174_221r, e174_221v, e174_224, e174_228, e174_231, e174_232, e174_232u, e174_233, e174_234, e174_237, e174_237u, e174_238, e174_239, e174_242, e174_243, e174_246, e174_246u, e174_247, e174_248, e174_251, e174_254, e174_257, e174_257u, e174_258, e174_259, e174_262, e174_265, e174_268, e174_269, e174_272, e174_273, n10, if_true, if_false, isoN, np_len0, List.length_cons, List.length_nil, Nat.reduceLeDiff, Nat.reduceAdd, f0, f1, np_aft_v, nI_add, cnt_n hk.1, q1, q2, np_nb1]
end
