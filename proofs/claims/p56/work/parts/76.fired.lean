/-! THE PURE PART, 46: isFired answers 1. -/
section
variable {F G : Nat → Nat → Int32} {i t : Nat}
theorem sh_s {q : Nat} (hq : ¬ q = 6 ∧ ¬ q = 7 ∧ ¬ q = 8) : np_shF F (5 + i) (5 + t) q = F (5 + t) q := by
  have a4 : ∀ f, (5 + t = sp_aco f) = False := fun f => eq_false np_a4
  have e1 : (5 + t = 1) = False := eq_false (by omega)
  unfold np_shF np_kn
  simp [np_u, e1, a4, hq]
theorem sh_6 : np_shF F (5 + i) (5 + i) 6 = F (5 + i) 6 - 1 := by
  have a4 : ∀ f, (5 + i = sp_aco f) = False := fun f => eq_false np_a4
  have e1 : (5 + i = 1) = False := eq_false (by omega)
  unfold np_shF np_kn
  simp [np_u, e1, a4]
theorem sh_1 {q : Nat} (hq : ¬ q = 6 ∧ ¬ q = 8) : np_shF F (5 + i) 1 q = F 1 q := by
  have a6 : ∀ f, (1 = sp_aco f) = False := fun f => eq_false np_a6
  have e1 : (1 = 5 + i) = False := eq_false (by omega)
  unfold np_shF np_kn
  simp [np_u, e1, a6, hq]
theorem sh_kn : knw (np_shF F (5 + i)) i := by
  have e1 : ∀ q, np_shF F (5 + i) (5 + i) q = np_kn (np_u (np_u F (5 + i) 6 (F (5 + i) 6 - 1)) (sp_aco (F (5 + i) 1)) 5 (F (sp_aco (F (5 + i) 1)) 5 + 1)) (5 + i) (5 + i) q := fun q => by
    unfold np_shF
    rw [np_u_a (by omega), np_u_a (by omega)]
  unfold knw
  rw [e1, e1, e1, e1]
  exact knw_kn
theorem sh_in {x y : Int32} : sp_in (np_shF F (5 + i)) x y = sp_in F x y := by
  unfold sp_in
  refine sp_fnd_cg 12 0 (fun q _ _ => ?_)
  unfold sp_at sp_isIn sp_aflo
  rw [sh_s (by decide), sh_s (by decide), sh_s (by decide)]
theorem ht_5 : np_htF G (5 + t) (5 + t) 5 = G (5 + t) 5 - 1 := by
  have a4 : ∀ f, (5 + t = sp_aco f) = False := fun f => eq_false np_a4
  have e1 : (5 + t = 1) = False := eq_false (by omega)
  unfold np_htF np_h2F np_h1F np_kn
  split <;> simp [np_u, e1, a4]
theorem ht_1 {q : Nat} : np_htF G (5 + t) 1 q = if q = 9 then G 1 9 + 1 else G 1 q := by
  have a6 : ∀ f, (1 = sp_aco f) = False := fun f => eq_false np_a6
  have e1 : (1 = 5 + t) = False := eq_false (by omega)
  unfold np_htF np_h2F np_h1F np_kn
  split <;> simp [np_u, e1, a6]
theorem ht_o {q : Nat} (h : ¬ i = t) : np_htF G (5 + t) (5 + i) q = G (5 + i) q := by
  have a4 : ∀ f, (5 + i = sp_aco f) = False := fun f => eq_false np_a4
  have e1 : (5 + i = 1) = False := eq_false (by omega)
  have e2 : (5 + i = 5 + t) = False := eq_false (by omega)
  unfold np_htF np_h2F np_h1F np_kn
  split <;> simp [np_u, e1, e2, a4, h]
theorem ht_kn : knw (np_htF G (5 + t)) t := by
  have h1 : knw (np_h1F G (5 + t)) t := knw_kn
  unfold np_htF
  split
  · exact h1
  · have a4 : ¬ 5 + t = sp_aco (G (5 + t) 1) := np_a4
    have e : ∀ q, ¬ q = 6 → np_h2F G (5 + t) (5 + t) q = np_h1F G (5 + t) (5 + t) q := fun q hq => by
      unfold np_h2F
      rw [np_u_k hq, np_u_a a4, np_u_a a4]
    unfold knw
    rw [e 7 (by decide), e 2 (by decide), e 8 (by decide), e 3 (by decide)]
    exact h1
theorem rng_same (h : np_same F G) {j : Nat} (hj : j < 12) {x y : Int32} : sp_rng F (5 + j) x y = sp_rng G (5 + j) x y := by
  unfold sp_rng sp_dist
  rw [h (5 + j) 2 (us_s hj (by decide)), h (5 + j) 3 (us_s hj (by decide)), h (5 + j) 6 (us_s hj (by decide))]
theorem rch_same (h : np_same F G) {j : Nat} (hj : j < 12) {x y : Int32} : sp_rch F (5 + j) x y = sp_rch G (5 + j) x y := by
  unfold sp_rch
  rw [aflo_same h hj, rng_same h hj, h (5 + j) 2 (us_s hj (by decide)), h (5 + j) 3 (us_s hj (by decide)), h (5 + j) 4 (us_s hj (by decide))]
theorem sho_same (h : np_same F G) {j : Nat} (hj : j < 12) {x y : Int32} : sp_sho F (5 + j) x y = sp_sho G (5 + j) x y := by
  unfold sp_sho
  rw [obj_same h hj, rng_same h hj, rch_same h hj, h (5 + j) 6 (us_s hj (by decide))]
end
section
variable {F : Nat → Nat → Int32} {L : Nat → Int64} {C : Nat → Nat → Int32} {fm k : Nat} {scr : nv_Scr}
theorem bad_sho {a : Nat} {y z : Int32} (ho : ¬ sp_sho F a y z = 0) : np_bad (sp_sho F a y z) := by
  unfold sp_sho at ho ⊢
  split
  · rename_i g
    rw [if_pos g] at ho
    split
    · simp [np_bad]
    · rename_i g2
      rw [if_neg g2] at ho
      split
      · simp [np_bad]
      · rename_i g3
        rw [if_neg g3] at ho
        split
        · simp [np_bad]
        · rename_i g4
          rw [if_neg g4] at ho
          exact absurd rfl ho
  · rename_i g
    exact bad_obj g
theorem fire_f (w : WI F) {i : Nat} {x y : Int32} (hn : sp_num F (nI i) = some i) (ho : ¬ sp_sho F (5 + i) x y = 0) : ∃ F' L', np_X 149 0 [some (.ref 0), some (.int (nI i)), some (.int x), some (.int y), none, none] [] (np_S F L C fm k scr) = np_o (-100000000) (np_S F' L' C fm (k + 1) scr) ∧ WI F' ∧ np_same F F' ∧ L' 1 = L 1 ∧ SN F L F' L' := by
  have hi := (sp_num_lt hn).1
  have s0 := @same_F0 F
  have hn0 : sp_num (np_F0 F) (nI i) = some i := by rw [← num_same s0]; exact hn
  have ho' : ¬ sp_sho (np_F0 F) (5 + i) x y = 0 := by rw [← sho_same s0 hi]; exact ho
  have e := m52o (L := np_L0 L) (C := C) (fm := fm) (k := k) (scr := scr) hn0 ho'
  obtain ⟨-, ⟨w1, sn⟩, d1⟩ := DR_bad (L := L) (k := k) (r := sp_sho (np_F0 F) (5 + i) x y) w
  refine ⟨_, _, x149 isoN (exc4 (bad_sho ho')) (m83x (w.b4 np_B1) e (bad_sho ho')), w1, ?_⟩
  rcases d1 with ⟨-, a, b⟩ | ⟨a, -⟩
  · exact ⟨a, b, sn⟩
  · exact absurd (by decide) a
theorem fire_s (w : WI F) {i : Nat} {x y : Int32} (hn : sp_num F (nI i) = some i) (ho : sp_sho F (5 + i) x y = 0) : ∃ G LG, np_X 149 0 [some (.ref 0), some (.int (nI i)), some (.int x), some (.int y), none, none] [] (np_S F L C fm k scr) = np_o (sp_shr (np_F0 F) (5 + i) x y) (np_S G LG C fm k scr) ∧ (WI G ∧ SN F L G LG) ∧ UD F L G LG ∧ np_same (np_shG (np_F0 F) (5 + i) x y) G := by
  have hi := (sp_num_lt hn).1
  have s0 := @same_F0 F
  have hn0 : sp_num (np_F0 F) (nI i) = some i := by rw [← num_same s0]; exact hn
  have ho' : sp_sho (np_F0 F) (5 + i) x y = 0 := by rw [← sho_same s0 hi]; exact ho
  have e := m52s (L := np_L0 L) (C := C) (fm := fm) (k := k) (scr := scr) hn0 ho'
  have g0 : GI (np_F0 F) := GI_same s0 w.g
  have hr : ¬ sp_shr (np_F0 F) (5 + i) x y < 0 := by
    unfold sp_shr
    split
    · split <;> decide
    · decide
  obtain ⟨j, t, hH, w1, d1, ⟨w2, sn⟩, d2⟩ := DR_ok (L := L) (k := k) (L1 := np_L0 L) w hr (np_shG_loc hi) (GI_sG hi g0 ho') (fun _ _ => rfl)
  refine ⟨_, _, w149 isoN (m83 (w.b4 np_B1) e hr hH (w1.b4 np_B17)), ⟨w2, sn⟩, ?_, ps_same hH.1⟩
  rcases d2 with ⟨a, -⟩ | ⟨-, b⟩
  · exact absurd (a ▸ hr) (by decide)
  · exact b
abbrev ls178 (F : Nat → Nat → Int32) (L : Nat → Int64) (i t c : Nat) (r m : Int32) (l : Option Value) : nv_Ls := [some (.ref 0), some (.int (nI i)), some (.int (nI t)), some (.long (lw_dig F L c)), none, some (.int (F (5 + t) 2)), some (.int (F (5 + t) 3)), some (.int r), some (.int (lw_lft F)), some (.int (F (5 + i) 6)), some (.int (F (5 + t) 5)), some (.int (F 1 9)), some (.int m), l]
theorem q178 (w : WI F) {c i t : Nat} (hc : F 1 3 = nI c) (h12 : c ≤ 12) (hi : i < c) (ht : t < c) : ∃ F' L' k', k' ≤ k + 400 ∧ np_X 178 0 [some (.ref 0), some (.int (nI i)), some (.int (nI t)), none, none, none, none, none, none, none, none, none, none, none] [] (np_S F L C fm k scr) = np_o 1 (np_S F' L' C fm k' scr) ∧ WI F' ∧ np_same F F' ∧ L' 1 = L 1 ∧ SN F L F' L' := by
  have hn := sp_num_nI hc h12 hi
  have hm := sp_num_nI hc h12 ht
  have i12 : i < 12 := by omega
  have t12 : t < 12 := by omega
  obtain ⟨k1, hk1, e1⟩ := q169 (L := L) (C := C) (fm := fm) (k := k) (scr := scr) hc h12 (w.b4 np_B1)
  have lk := @lw_k_le F t
  have gk := @lw_gk_le F
  cases at_ : sp_aflo F (5 + t) with
  | false =>
    have x0 : lw_x F t 2 = -1000 := by unfold lw_x; rw [at_]; rfl
    refine ⟨F, L, k1 + lw_k F t + lw_k F t, by omega, ?_, w, np_same.rf, rfl, SN.rf⟩
    simp only [e178_0, e178_0u, e178_1, e178_4n, e178_4i, e178_4r, e178_4v, e178_5, e178_5u, e178_6, e178_7, e178_10n, e178_10i, e178_10r, e178_10v, e178_12, e178_12u, e178_13, e178_14, e178_17n, e178_17i, e178_17r, e178_17v, e178_19, e178_21, e178_24, e178_27, e178_28, e178_30, e178_31, e178_33, e178_35, e178_38n, e178_38i, e178_38r, e178_38v, e178_40, e178_40u, e178_41, e178_44n, e178_44i, e178_44r, e178_44v, e178_46, e178_46u, e178_47, e178_48, e178_51n, e178_51i, e178_51r, e178_51v, e178_53, e178_53u, e178_54, e178_55, e178_58n, e178_58i, e178_58r, e178_58v, e178_60, e178_60u, e178_61, e178_64n, e178_64i, e178_64r, e178_64v, e178_66, e178_66u, e178_67, e178_68, e178_70, e178_72, e178_75n, e178_75i, e178_75r, e178_75v, e178_77, e178_79, e178_81, e178_84, e178_86, e178_89, e178_91, e178_92, e178_95, e178_95u, e178_96, e178_99, e178_99u, e178_100, e178_101, e178_104, e178_107, e178_107u, e178_108, e178_111, e178_112, e178_113, e178_116, e178_117, e178_120, e178_121, e178_122, e178_124, e178_127, e178_129, e178_131, e178_132, e178_135, e178_136, e178_139, e178_140, e178_143, e178_143u, e178_144, e178_145, e178_148, e178_150, e178_151, e178_152, e178_155, e178_155u, e178_156, e178_157, e178_160, e178_162, e178_163, e178_164, e178_167, e178_167u, e178_168, e178_171, e178_173, e178_174, e178_175, e178_178, e178_178u, e178_179, e178_180, e178_183, e178_186, e178_186u, e178_187, e178_188, e178_191, e178_194, e178_194u, e178_195, e178_198, e178_201, e178_201u, e178_202, e178_203, e178_206, e178_209, e178_210, e178_213, e178_214n, e178_214i, e178_214r, e178_214v, e178_216, e178_218, e178_221, e178_221u, e178_222, e178_225, e178_228, e178_228u, e178_229, e178_232, e178_233, e178_234, e178_237, e178_238, e178_241, e178_242, np_len0, List.length_cons, List.length_nil, Nat.reduceLeDiff, Nat.reduceAdd, e1, np_aft_v, q151 hm, q152 hm, x0, nme, if_true, np_nb1]
  | true =>
    obtain ⟨V, hr, hk⟩ := w.g
    have x2 : lw_x F t 2 = F (5 + t) 2 := by unfold lw_x; rw [if_pos at_]
    have x3 : lw_x F t 3 = F (5 + t) 3 := by unfold lw_x; rw [if_pos at_]
    have kx : lw_k F t = 0 := by unfold lw_k; rw [if_pos at_]
    have hA := hk.1 t t12
    have nx : (F (5 + t) 2 = -1000) = False := by rw [gv_s hr t12 (by decide)]; exact nm _ (by omega)
    have htr := tray_of hr hk.1 t12
    have e101 := m101 (F := F) (L := L) (C := C) (fm := fm) (k := k1) (scr := scr) hn htr
    have y151 := q151 (F := F) (L := L) (C := C) (fm := fm) (k := k1) (scr := scr) hm
    have y152 := q152 (F := F) (L := L) (C := C) (fm := fm) (k := k1) (scr := scr) hm
    rw [x2, kx] at y151
    rw [x3, kx] at y152
    have head : ∀ (m : Int32) (σ : nv_St), np_X 149 0 [some (.ref 0), some (.int (nI i)), some (.int (F (5 + t) 2)), some (.int (F (5 + t) 3)), none, none] [] (np_S F L C fm (k1 + lw_gk F) scr) = np_o m σ → np_X 178 0 [some (.ref 0), some (.int (nI i)), some (.int (nI t)), none, none, none, none, none, none, none, none, none, none, none] [] (np_S F L C fm k scr) = np_X 178 77 (ls178 F L i t c (np_i (sp_rch F (5 + i) (F (5 + t) 2) (F (5 + t) 3))) m none) [] σ := fun m σ e => by
      simp only [e178_0, e178_0u, e178_1, e178_4n, e178_4i, e178_4r, e178_4v, e178_5, e178_5u, e178_6, e178_7, e178_10n, e178_10i, e178_10r, e178_10v, e178_12, e178_12u, e178_13, e178_14, e178_17n, e178_17i, e178_17r, e178_17v, e178_19, e178_21, e178_24, e178_27, e178_28, e178_29, e178_29u, e178_30, e178_31, e178_33, e178_35, e178_38n, e178_38i, e178_38r, e178_38v, e178_40, e178_40u, e178_41, e178_44n, e178_44i, e178_44r, e178_44v, e178_46, e178_46u, e178_47, e178_48, e178_51n, e178_51i, e178_51r, e178_51v, e178_53, e178_53u, e178_54, e178_55, e178_58n, e178_58i, e178_58r, e178_58v, e178_60, e178_60u, e178_61, e178_64n, e178_64i, e178_64r, e178_64v, e178_66, e178_66u, e178_67, e178_68, e178_70, e178_72, e178_75n, e178_75i, e178_75r, e178_75v, e178_79, e178_81, e178_84, e178_86, e178_89, e178_91, e178_92, e178_95, e178_95u, e178_96, e178_99, e178_99u, e178_100, e178_101, e178_104, e178_107, e178_107u, e178_108, e178_111, e178_112, e178_113, e178_116, e178_117, e178_120, e178_121, e178_122, e178_124, e178_127, e178_129, e178_131, e178_132, e178_135, e178_136, e178_139, e178_140, e178_143, e178_143u, e178_144, e178_145, e178_148, e178_150, e178_151, e178_152, e178_155, e178_155u, e178_156, e178_157, e178_160, e178_162, e178_163, e178_164, e178_167, e178_167u, e178_168, e178_171, e178_173, e178_174, e178_175, e178_178, e178_178u, e178_179, e178_180, e178_183, e178_186, e178_186u, e178_187, e178_188, e178_191, e178_194, e178_194u, e178_195, e178_198, e178_201, e178_201u, e178_202, e178_203, e178_206, e178_209, e178_210, e178_213, e178_214n, e178_214i, e178_214r, e178_214v, e178_216, e178_218, e178_221, e178_221u, e178_222, e178_225, e178_228, e178_228u, e178_229, e178_232, e178_233, e178_234, e178_237, e178_238, e178_241, e178_242, isoN, np_len0, List.length_cons, List.length_nil, Nat.reduceLeDiff, Nat.reduceAdd, e1, np_aft_v, y151, y152, Nat.add_zero, nx, if_false, e101, q146, m90 hn, m91 hm, m109, e]
    by_cases ho : sp_sho F (5 + i) (F (5 + t) 2) (F (5 + t) 3) = 0
    · obtain ⟨G, LG, e149, ⟨wG, snG⟩, hu, hs⟩ := fire_s (L := L) (C := C) (fm := fm) (k := k1 + lw_gk F) (scr := scr) w hn ho
      obtain ⟨ho1, ho2, ho3, ho4⟩ := sp_sho_z ho
      have n5 : ¬ V (5 + t) 5 = 0 := by
        rw [ga_aflo hr hk.1 t12] at at_
        simpa using at_
      have in_ := ga_in hr hk t12 n5
      rw [← gv_s hr t12 (show 2 < 9 by decide), ← gv_s hr t12 (show 3 < 9 by decide), in_same (@same_F0 F), ← sh_in (i := i)] at in_
      have f0 : ∀ a q, a < 17 → np_F0 F a q = F a q := fun a q h => np_F0_1 h
      have hit : ¬ i = t := by
        intro q
        subst q
        have := (rch_rng ho4).2.1
        rw [dst_0 hr] at this
        exact this (by decide)
      have eG : np_shG (np_F0 F) (5 + i) (F (5 + t) 2) (F (5 + t) 3) = np_htF (np_shF (np_F0 F) (5 + i)) (5 + t) := by unfold np_shG; rw [in_]
      have sr : sp_shr (np_F0 F) (5 + i) (F (5 + t) 2) (F (5 + t) 3) = if 0 < F (5 + t) 5 - 1 then 1 else 2 := by
        unfold sp_shr
        rw [in_]
        show (if 0 < np_shF (np_F0 F) (5 + i) (5 + t) 5 - 1 then (1 : Int32) else 2) = _
        rw [sh_s (by decide), f0 _ _ (by omega)]
      rw [eG] at hs
      rw [sr] at e149
      have h5 : F (5 + t) 5 = 1 ∨ F (5 + t) 5 = 2 := by
        rw [gv_s hr t12 (by decide)]
        have : V (5 + t) 5 = 1 ∨ V (5 + t) 5 = 2 := by omega
        rcases this with q | q <;> rw [q]
        · exact Or.inl rfl
        · exact Or.inr rfl
      have hcG : G 1 3 = nI c := by rw [← hs 1 3 (us_1 (by decide)), ht_1, if_neg (by decide), sh_1 (by decide), f0 _ _ (by decide)]; exact hc
      have g19 : G 1 9 = F 1 9 + 1 := by rw [← hs 1 9 (us_1 (by decide)), ht_1, if_pos rfl, sh_1 (by decide), f0 _ _ (by decide)]
      have gi6 : G (5 + i) 6 = F (5 + i) 6 - 1 := by rw [← hs _ 6 (us_s i12 (by decide)), ht_o hit, sh_6, f0 _ _ (by omega)]
      have gt5 : G (5 + t) 5 = F (5 + t) 5 - 1 := by rw [← hs _ 5 (us_s t12 (by decide)), ht_5, sh_s (by decide), f0 _ _ (by omega)]
      have kt : sp_hid G (5 + t) = false := by rw [← hid_same hs t12]; exact knw_hid ht_kn
      have ki : sp_hid G (5 + i) = false := by
        rw [← hid_same hs i12]
        refine knw_hid ?_
        unfold knw
        rw [ht_o hit, ht_o hit, ht_o hit, ht_o hit]
        exact sh_kn
      have hnG := sp_num_nI hcG h12 hi
      have hmG := sp_num_nI hcG h12 ht
      obtain ⟨k2, hk2, e171⟩ := q171 (F := G) (L := LG) (C := C) (fm := fm) (k := k1 + lw_gk F) (scr := scr) wG.g
      obtain ⟨k3, hk3, e172⟩ := q172 (F := G) (L := LG) (C := C) (fm := fm) (k := k2) (scr := scr) wG.g hcG ht h12
      obtain ⟨n, F', L', hn8, e164, w', hs', hL', sn'⟩ := u164 (C := C) (fm := fm) (k := k3) (scr := scr) wG hu
      have hc' : F' 1 3 = nI c := by rw [← hs' 1 3 (us_1 (by decide))]; exact hc
      obtain ⟨k4, hk4, e169⟩ := q169 (F := F') (L := L') (C := C) (fm := fm) (k := k3) (scr := scr) hc' h12 (w'.b4 np_B1)
      rw [dig_same hs'.sy hL' h12] at e169
      have n0 : (nI n < 0) = False := eq_false (nI_pos (by omega))
      have i0 : np_i false = 0 := rfl
      have i1 : np_i true = 1 := rfl
      have m96i := m96 (F := G) (L := LG) (C := C) (fm := fm) (k := k1 + lw_gk F) (scr := scr) hnG
      have m96t := m96 (F := G) (L := LG) (C := C) (fm := fm) (k := k1 + lw_gk F) (scr := scr) hmG
      rw [ki, i0] at m96i
      rw [kt, i0] at m96t
      refine ⟨F', L', k4, by omega, ?_, w', hs', hL', snG.tr sn'⟩
      rw [head _ _ e149, ho4]
      rcases h5 with h5 | h5
      · have a1 : (if (0 : Int32) < 1 - 1 then (1 : Int32) else 2) = 2 := by decide
        have a2 : ((2 : Int32) = -100000000) = False := by decide
        have a3 : (1 : Int32) - 1 = 0 := by decide
        rw [h5] at gt5
        simp only [ls178, h5, a1]
        rw [e178_77]
        simp only [e178_0, e178_0u, e178_1, e178_4n, e178_4i, e178_4r, e178_4v, e178_5, e178_5u, e178_6, e178_7, e178_10n, e178_10i, e178_10r, e178_10v, e178_12, e178_12u, e178_13, e178_14, e178_17n, e178_17i, e178_17r, e178_17v, e178_19, e178_21, e178_24, e178_27, e178_28, e178_29, e178_29u, e178_30, e178_31, e178_33, e178_35, e178_38n, e178_38i, e178_38r, e178_38v, e178_40, e178_40u, e178_41, e178_44n, e178_44i, e178_44r, e178_44v, e178_46, e178_46u, e178_47, e178_48, e178_51n, e178_51i, e178_51r, e178_51v, e178_53, e178_53u, e178_54, e178_55, e178_58n, e178_58i, e178_58r, e178_58v, e178_60, e178_60u, e178_61, e178_64n, e178_64i, e178_64r, e178_64v, e178_66, e178_66u, e178_67, e178_68, e178_70, e178_72, e178_75n, e178_75i, e178_75r, e178_75v, e178_79, e178_81, e178_84, e178_86, e178_89, e178_91, e178_92, e178_95, e178_95u, e178_96, e178_99, e178_99u, e178_100, e178_101, e178_104, e178_107, e178_107u, e178_108, e178_111, e178_112, e178_113, e178_116, e178_117, e178_120, e178_121, e178_122, e178_124, e178_127, e178_129, e178_131, e178_132, e178_135, e178_136, e178_139, e178_140, e178_143, e178_143u, e178_144, e178_145, e178_148, e178_150, e178_151, e178_152, e178_155, e178_155u, e178_156, e178_157, e178_160, e178_162, e178_163, e178_164, e178_167, e178_167u, e178_168, e178_171, e178_173, e178_174, e178_175, e178_178, e178_178u, e178_179, e178_180, e178_183, e178_186, e178_186u, e178_187, e178_188, e178_191, e178_194, e178_194u, e178_195, e178_198, e178_201, e178_201u, e178_202, e178_203, e178_206, e178_209, e178_210, e178_213, e178_214n, e178_214i, e178_214r, e178_214v, e178_216, e178_218, e178_221, e178_221u, e178_222, e178_225, e178_228, e178_228u, e178_229, e178_232, e178_233, e178_234, e178_237, e178_238, e178_241, e178_242, i1, n10, a2, if_true, if_false, isoN, np_len0, List.length_cons, List.length_nil, Nat.reduceLeDiff, Nat.reduceAdd, m90 hnG, gi6, m91 hmG, gt5, m109, g19, m96i, m96t, e171, e172, e164, n0, e169, np_aft_v, lg_self, np_nb1]
      · have a1 : (if (0 : Int32) < 2 - 1 then (1 : Int32) else 2) = 1 := by decide
        have a2 : ((1 : Int32) = -100000000) = False := by decide
        have a3 : ((2 : Int32) = 1) = False := by decide
        rw [h5] at gt5
        simp only [ls178, h5, a1]
        rw [e178_77]
        simp only [e178_0, e178_0u, e178_1, e178_4n, e178_4i, e178_4r, e178_4v, e178_5, e178_5u, e178_6, e178_7, e178_10n, e178_10i, e178_10r, e178_10v, e178_12, e178_12u, e178_13, e178_14, e178_17n, e178_17i, e178_17r, e178_17v, e178_19, e178_21, e178_24, e178_27, e178_28, e178_29, e178_29u, e178_30, e178_31, e178_33, e178_35, e178_38n, e178_38i, e178_38r, e178_38v, e178_40, e178_40u, e178_41, e178_44n, e178_44i, e178_44r, e178_44v, e178_46, e178_46u, e178_47, e178_48, e178_51n, e178_51i, e178_51r, e178_51v, e178_53, e178_53u, e178_54, e178_55, e178_58n, e178_58i, e178_58r, e178_58v, e178_60, e178_60u, e178_61, e178_64n, e178_64i, e178_64r, e178_64v, e178_66, e178_66u, e178_67, e178_68, e178_70, e178_72, e178_75n, e178_75i, e178_75r, e178_75v, e178_79, e178_81, e178_84, e178_86, e178_89, e178_91, e178_92, e178_95, e178_95u, e178_96, e178_99, e178_99u, e178_100, e178_101, e178_104, e178_107, e178_107u, e178_108, e178_111, e178_112, e178_113, e178_116, e178_117, e178_120, e178_121, e178_122, e178_124, e178_127, e178_129, e178_131, e178_132, e178_135, e178_136, e178_139, e178_140, e178_143, e178_143u, e178_144, e178_145, e178_148, e178_150, e178_151, e178_152, e178_155, e178_155u, e178_156, e178_157, e178_160, e178_162, e178_163, e178_164, e178_167, e178_167u, e178_168, e178_171, e178_173, e178_174, e178_175, e178_178, e178_178u, e178_179, e178_180, e178_183, e178_186, e178_186u, e178_187, e178_188, e178_191, e178_194, e178_194u, e178_195, e178_198, e178_201, e178_201u, e178_202, e178_203, e178_206, e178_209, e178_210, e178_213, e178_214n, e178_214i, e178_214r, e178_214v, e178_216, e178_218, e178_221, e178_221u, e178_222, e178_225, e178_228, e178_228u, e178_229, e178_232, e178_233, e178_234, e178_237, e178_238, e178_241, e178_242, i1, n10, a2, a3, if_true, if_false, isoN, np_len0, List.length_cons, List.length_nil, Nat.reduceLeDiff, Nat.reduceAdd, m90 hnG, gi6, m91 hmG, gt5, m109, g19, m96i, m96t, e171, e172, e164, n0, e169, np_aft_v, lg_self, np_nb1]
    · obtain ⟨F', L', e149, w', hs, hL, sn⟩ := fire_f (L := L) (C := C) (fm := fm) (k := k1 + lw_gk F) (scr := scr) w hn ho
      have hc' : F' 1 3 = nI c := by rw [← hs 1 3 (us_1 (by decide))]; exact hc
      have hn' := sp_num_nI hc' h12 hi
      have gk' := @lw_gk_le F'
      have ee : ((-100000000 : Int32) = -100000000) = True := eq_self _
      have i0 : np_i false = 0 := rfl
      have i1 : np_i true = 1 := rfl
      have key : ∃ k2, k2 ≤ k1 + lw_gk F + 2 ∧ np_X 178 77 (ls178 F L i t c (np_i (sp_rch F (5 + i) (F (5 + t) 2) (F (5 + t) 3))) (-100000000) none) [] (np_S F' L' C fm (k1 + lw_gk F + 1) scr) = np_X 178 107 (ls178 F L i t c (np_i (sp_rch F (5 + i) (F (5 + t) 2) (F (5 + t) 3))) (-100000000) none) [] (np_S F' L' C fm k2 scr) := by
        cases rc : sp_rch F (5 + i) (F (5 + t) 2) (F (5 + t) 3) with
        | false =>
          refine ⟨k1 + lw_gk F + 1, by omega, ?_⟩
          rw [i0]
          rw [e178_77]
          simp only [e178_0, e178_0u, e178_1, e178_4n, e178_4i, e178_4r, e178_4v, e178_5, e178_5u, e178_6, e178_7, e178_10n, e178_10i, e178_10r, e178_10v, e178_12, e178_12u, e178_13, e178_14, e178_17n, e178_17i, e178_17r, e178_17v, e178_19, e178_21, e178_24, e178_27, e178_28, e178_29, e178_29u, e178_30, e178_31, e178_33, e178_35, e178_38n, e178_38i, e178_38r, e178_38v, e178_40, e178_40u, e178_41, e178_44n, e178_44i, e178_44r, e178_44v, e178_46, e178_46u, e178_47, e178_48, e178_51n, e178_51i, e178_51r, e178_51v, e178_53, e178_53u, e178_54, e178_55, e178_58n, e178_58i, e178_58r, e178_58v, e178_60, e178_60u, e178_61, e178_64n, e178_64i, e178_64r, e178_64v, e178_66, e178_66u, e178_67, e178_68, e178_70, e178_72, e178_75n, e178_75i, e178_75r, e178_75v, e178_79, e178_81, e178_84, e178_86, e178_89, e178_91, e178_92, e178_95, e178_95u, e178_96, e178_99, e178_99u, e178_100, e178_101, e178_104, e178_108, e178_111, e178_112, e178_113, e178_116, e178_117, e178_120, e178_121, e178_122, e178_124, e178_127, e178_129, e178_131, e178_132, e178_135, e178_136, e178_139, e178_140, e178_143, e178_143u, e178_144, e178_145, e178_148, e178_150, e178_151, e178_152, e178_155, e178_155u, e178_156, e178_157, e178_160, e178_162, e178_163, e178_164, e178_167, e178_167u, e178_168, e178_171, e178_173, e178_174, e178_175, e178_178, e178_178u, e178_179, e178_180, e178_183, e178_186, e178_186u, e178_187, e178_188, e178_191, e178_194, e178_194u, e178_195, e178_198, e178_201, e178_201u, e178_202, e178_203, e178_206, e178_209, e178_210, e178_213, e178_214n, e178_214i, e178_214r, e178_214v, e178_216, e178_218, e178_221, e178_221u, e178_222, e178_225, e178_228, e178_228u, e178_229, e178_232, e178_233, e178_234, e178_237, e178_238, e178_241, e178_242, ls178, ee, if_true]
        | true =>
          by_cases hl : lw_lft F < 1
          · refine ⟨k1 + lw_gk F + 1, by omega, ?_⟩
            rw [i1, e178_77]
            simp only [e178_0, e178_0u, e178_1, e178_4n, e178_4i, e178_4r, e178_4v, e178_5, e178_5u, e178_6, e178_7, e178_10n, e178_10i, e178_10r, e178_10v, e178_12, e178_12u, e178_13, e178_14, e178_17n, e178_17i, e178_17r, e178_17v, e178_19, e178_21, e178_24, e178_27, e178_28, e178_29, e178_29u, e178_30, e178_31, e178_33, e178_35, e178_38n, e178_38i, e178_38r, e178_38v, e178_40, e178_40u, e178_41, e178_44n, e178_44i, e178_44r, e178_44v, e178_46, e178_46u, e178_47, e178_48, e178_51n, e178_51i, e178_51r, e178_51v, e178_53, e178_53u, e178_54, e178_55, e178_58n, e178_58i, e178_58r, e178_58v, e178_60, e178_60u, e178_61, e178_64n, e178_64i, e178_64r, e178_64v, e178_66, e178_66u, e178_67, e178_68, e178_70, e178_72, e178_75n, e178_75i, e178_75r, e178_75v, e178_79, e178_81, e178_84, e178_86, e178_89, e178_91, e178_92, e178_95, e178_95u, e178_96, e178_99, e178_99u, e178_100, e178_101, e178_104, e178_108, e178_111, e178_112, e178_113, e178_116, e178_117, e178_120, e178_121, e178_122, e178_124, e178_127, e178_129, e178_131, e178_132, e178_135, e178_136, e178_139, e178_140, e178_143, e178_143u, e178_144, e178_145, e178_148, e178_150, e178_151, e178_152, e178_155, e178_155u, e178_156, e178_157, e178_160, e178_162, e178_163, e178_164, e178_167, e178_167u, e178_168, e178_171, e178_173, e178_174, e178_175, e178_178, e178_178u, e178_179, e178_180, e178_183, e178_186, e178_186u, e178_187, e178_188, e178_191, e178_194, e178_194u, e178_195, e178_198, e178_201, e178_201u, e178_202, e178_203, e178_206, e178_209, e178_210, e178_213, e178_214n, e178_214i, e178_214r, e178_214v, e178_216, e178_218, e178_221, e178_221u, e178_222, e178_225, e178_228, e178_228u, e178_229, e178_232, e178_233, e178_234, e178_237, e178_238, e178_241, e178_242, ls178, ee, if_true, if_false, n10, hl]
          · by_cases hf : lw_act F' = F' (5 + i) 1
            · exfalso
              have hg : sp_gng F = true := by
                cases g : sp_gng F with
                | true => rfl
                | false =>
                  exfalso
                  apply hl
                  unfold lw_lft
                  rw [g, if_neg (by decide)]
                  decide
              have hg' : sp_gng F' = true := by rw [← gng_same hs]; exact hg
              have h6 : ¬ F 1 6 = 0 := fun q => hl (by
                unfold lw_lft
                rw [hg, q]
                decide)
              obtain ⟨af, r1, r2⟩ := rch_rng rc
              have fa : F (5 + i) 1 = F 1 5 := by
                unfold lw_act at hf
                rw [if_pos hg'] at hf
                rw [hs (5 + i) 1 (us_s i12 (by decide)), hs 1 5 (us_1 (by decide))]
                exact hf.symm
              have hob : sp_obj F (5 + i) (sp_tray (F (5 + t) 2) (F (5 + t) 3)) = 0 := by
                unfold sp_obj
                rw [htr, hg, af, fa]
                simp [h6]
              obtain ⟨n, hn10, dn, -⟩ := dst_n hr hk t12 i12
              have c0 : ¬ F (5 + i) 6 = 0 := fun q => by
                rw [dn] at r1 r2
                rw [q] at r2
                have a1 : ¬ n < 1 := fun z => r1 (nI_lt (b := 1) z (by decide))
                exact r2 (nI_0 ▸ nI_lt (show 0 < n by omega) (by omega))
              have rg : sp_rng F (5 + i) (F (5 + t) 2) (F (5 + t) 3) = true := by
                unfold sp_rch at rc
                simp only [Bool.and_eq_true] at rc
                exact rc.2.1
              apply ho
              unfold sp_sho
              rw [if_pos hob, if_neg c0, rg, rc]
              rfl
            · refine ⟨k1 + lw_gk F + 1 + lw_gk F', by omega, ?_⟩
              rw [i1, e178_77]
              simp only [e178_0, e178_0u, e178_1, e178_4n, e178_4i, e178_4r, e178_4v, e178_5, e178_5u, e178_6, e178_7, e178_10n, e178_10i, e178_10r, e178_10v, e178_12, e178_12u, e178_13, e178_14, e178_17n, e178_17i, e178_17r, e178_17v, e178_19, e178_21, e178_24, e178_27, e178_28, e178_29, e178_29u, e178_30, e178_31, e178_33, e178_35, e178_38n, e178_38i, e178_38r, e178_38v, e178_40, e178_40u, e178_41, e178_44n, e178_44i, e178_44r, e178_44v, e178_46, e178_46u, e178_47, e178_48, e178_51n, e178_51i, e178_51r, e178_51v, e178_53, e178_53u, e178_54, e178_55, e178_58n, e178_58i, e178_58r, e178_58v, e178_60, e178_60u, e178_61, e178_64n, e178_64i, e178_64r, e178_64v, e178_66, e178_66u, e178_67, e178_68, e178_70, e178_72, e178_75n, e178_75i, e178_75r, e178_75v, e178_79, e178_81, e178_84, e178_86, e178_89, e178_91, e178_92, e178_95, e178_95u, e178_96, e178_99, e178_99u, e178_100, e178_101, e178_104, e178_108, e178_111, e178_112, e178_113, e178_116, e178_117, e178_120, e178_121, e178_122, e178_124, e178_127, e178_129, e178_131, e178_132, e178_135, e178_136, e178_139, e178_140, e178_143, e178_143u, e178_144, e178_145, e178_148, e178_150, e178_151, e178_152, e178_155, e178_155u, e178_156, e178_157, e178_160, e178_162, e178_163, e178_164, e178_167, e178_167u, e178_168, e178_171, e178_173, e178_174, e178_175, e178_178, e178_178u, e178_179, e178_180, e178_183, e178_186, e178_186u, e178_187, e178_188, e178_191, e178_194, e178_194u, e178_195, e178_198, e178_201, e178_201u, e178_202, e178_203, e178_206, e178_209, e178_210, e178_213, e178_214n, e178_214i, e178_214r, e178_214v, e178_216, e178_218, e178_221, e178_221u, e178_222, e178_225, e178_228, e178_228u, e178_229, e178_232, e178_233, e178_234, e178_237, e178_238, e178_241, e178_242, ls178, ee, if_true, if_false, n10, hl, isoN, np_len0, List.length_cons, List.length_nil, Nat.reduceLeDiff, Nat.reduceAdd, q145, m86 hn', np_aft_v, hf]
      obtain ⟨k2, hk2, ek⟩ := key
      obtain ⟨k3, hk3, e3⟩ := q169 (F := F') (L := L') (C := C) (fm := fm) (k := k2) (scr := scr) hc' h12 (w'.b4 np_B1)
      rw [dig_same hs.sy hL h12] at e3
      refine ⟨F', L', k3, by omega, ?_, w', hs, hL, sn⟩
      rw [head _ _ e149, ek, e178_107]
      simp only [e178_0, e178_0u, e178_1, e178_4n, e178_4i, e178_4r, e178_4v, e178_5, e178_5u, e178_6, e178_7, e178_10n, e178_10i, e178_10r, e178_10v, e178_12, e178_12u, e178_13, e178_14, e178_17n, e178_17i, e178_17r, e178_17v, e178_19, e178_21, e178_24, e178_27, e178_28, e178_29, e178_29u, e178_30, e178_31, e178_33, e178_35, e178_38n, e178_38i, e178_38r, e178_38v, e178_40, e178_40u, e178_41, e178_44n, e178_44i, e178_44r, e178_44v, e178_46, e178_46u, e178_47, e178_48, e178_51n, e178_51i, e178_51r, e178_51v, e178_53, e178_53u, e178_54, e178_55, e178_58n, e178_58i, e178_58r, e178_58v, e178_60, e178_60u, e178_61, e178_64n, e178_64i, e178_64r, e178_64v, e178_66, e178_66u, e178_67, e178_68, e178_70, e178_72, e178_75n, e178_75i, e178_75r, e178_75v, e178_79, e178_81, e178_84, e178_86, e178_89, e178_91, e178_92, e178_95, e178_95u, e178_96, e178_99, e178_99u, e178_100, e178_101, e178_104, e178_108, e178_111, e178_112, e178_113, e178_116, e178_117, e178_120, e178_121, e178_122, e178_124, e178_127, e178_129, e178_131, e178_132, e178_135, e178_136, e178_139, e178_140, e178_143, e178_143u, e178_144, e178_145, e178_148, e178_150, e178_151, e178_152, e178_155, e178_155u, e178_156, e178_157, e178_160, e178_162, e178_163, e178_164, e178_167, e178_167u, e178_168, e178_171, e178_173, e178_174, e178_175, e178_178, e178_178u, e178_179, e178_180, e178_183, e178_186, e178_186u, e178_187, e178_188, e178_191, e178_194, e178_194u, e178_195, e178_198, e178_201, e178_201u, e178_202, e178_203, e178_206, e178_209, e178_210, e178_213, e178_214n, e178_214i, e178_214r, e178_214v, e178_216, e178_218, e178_221, e178_221u, e178_222, e178_225, e178_228, e178_228u, e178_229, e178_232, e178_233, e178_234, e178_237, e178_238, e178_241, e178_242, ls178, np_len0, e3, np_aft_v, lg_self, if_true, np_nb1]
end
