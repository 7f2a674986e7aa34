/-! THE PURE PART, 31: run. -/
section
variable {F : Nat → Nat → Int32}
def W3 (F : Nat → Nat → Int32) : Prop := (∀ b, np_B b → GI (np_rg F b)) ∧ (F 0 7 = 0 ∨ F 0 7 = 1) ∧ (∃ j s, np_Hs F j s)
theorem W3.w (h : W3 F) (r : RD F 0) : WI F := ⟨h.1, h.2.1, h.2.2, r⟩
theorem WI.w3 (h : WI F) : W3 F := ⟨h.1, h.2.1, h.2.2.1⟩
theorem W3.z (h : W3 F) : WI (np_rF F 0 0 0 0) := by
  obtain ⟨hg, h7, ⟨j, s, hH⟩⟩ := h
  refine ⟨fun d hd => ?_, by rw [np_rF_o (by omega)]; exact h7, ⟨j, s, hH.1, hH.2.1, by rw [np_rF_o (by omega)]; exact hH.2.2.1, by rw [np_rF_o (by omega)]; exact hH.2.2.2⟩, RD_r⟩
  refine GI_same (fun a j u => ?_) (hg d hd)
  have lu := np_us_lt u
  have l := np_B_lt hd
  exact (np_rF_o (show ¬ a + (d - 1) = 179 by omega)).symm
/-- W3 says nothing of the reader's fields -/
theorem W3_ot {G : Nat → Nat → Int32} (h : W3 F) (e : ∀ a i, ¬ a = 179 → G a i = F a i) : W3 G := by
  obtain ⟨hg, h7, ⟨j, s, hH⟩⟩ := h
  refine ⟨fun d hd => ?_, by rw [e 0 7 (by decide)]; exact h7, ⟨j, s, hH.1, hH.2.1, by rw [e 49 1 (by decide)]; exact hH.2.2.1, by rw [e 49 2 (by decide)]; exact hH.2.2.2⟩⟩
  refine GI_same (fun a j u => ?_) (hg d hd)
  have lu := np_us_lt u
  have l := np_B_lt hd
  exact (e _ _ (show ¬ a + (d - 1) = 179 by omega)).symm
theorem W3_rF {n p e q : Nat} (h : W3 F) : W3 (np_rF F n p e q) := W3_ot h fun _ _ ha => np_rF_o ha
theorem W3_wi {n p e q : Nat} (h : W3 (np_rF F n p e q)) : W3 F := W3_ot h fun _ _ ha => (np_rF_o ha).symm
theorem W3_res {L L' : Nat → Int64} {F' : Nat → Nat → Int32} (h : W3 F) (r : RES F L F' L') : W3 F' := by
  obtain ⟨hg, h7, ⟨j, s, hH⟩⟩ := h
  obtain ⟨g, ho, -⟩ := r
  refine ⟨fun d hd => ?_, by rw [ho 0 7 (by omega) (by decide)]; exact h7, ⟨j, s, hH.1, hH.2.1, by rw [ho 49 1 (by omega) (by decide)]; exact hH.2.2.1, by rw [ho 49 2 (by omega) (by decide)]; exact hH.2.2.2⟩⟩
  have l := np_B_lt hd
  by_cases e : d = 1
  · subst e; exact g
  · refine GI_same (fun a j u => ?_) (hg d hd)
    have lu := np_us_lt u
    have l17 : 17 ≤ d := by rcases hd with rfl | rfl | rfl | ⟨i, hi, rfl⟩ <;> omega
    exact (ho (a + (d - 1)) j (by omega) (by omega)).symm
theorem W3_cp {b c : Nat} (hb : np_B b) (hc : np_B c) (h : W3 F) : W3 (np_cp F b c) := by
  obtain ⟨hg, h7, ⟨j, s, hH⟩⟩ := h
  have l := np_B_lt hb
  refine ⟨fun d hd => ?_, ?_, ⟨j, s, hH.cp hb⟩⟩
  · by_cases e : d = b
    · subst e
      exact GI_same (rg_cp hb hc (hg _ hb) (hg _ hc)).sy (hg _ hc)
    · exact GI_same (rg_cp_o hb hd e).sy (hg _ hd)
  · rw [np_cp_o (by omega)]; exact h7
theorem W3_u0 {k : Nat} {v : Int32} (h : W3 F) (hk : ¬ k = 7) : W3 (np_u F 0 k v) := by
  obtain ⟨hg, h7, ⟨j, s, hH⟩⟩ := h
  refine ⟨fun d hd => ?_, by rw [np_u_k (by omega)]; exact h7, ⟨j, s, hH.1, hH.2.1, by rw [np_u_a (by omega)]; exact hH.2.2.1, by rw [np_u_a (by omega)]; exact hH.2.2.2⟩⟩
  refine GI_same (fun a j u => ?_) (hg d hd)
  have lu := np_us_lt u
  exact (np_u_a (show ¬ a + (d - 1) = 0 by omega)).symm
theorem W3.b4 (h : W3 F) {b : Nat} (hb : np_B b) : F b 4 = 0 ∨ F b 4 = 1 := by
  have := GI_4 (h.1 b hb)
  have l := np_B_lt hb
  have e : np_rg F b 1 4 = F b 4 := by
    show F (1 + (b - 1)) 4 = F b 4
    rw [show 1 + (b - 1) = b by omega]
  rw [e] at this
  exact this
theorem UD_ps' {L L1 : Nat → Int64} {F1 : Nat → Nat → Int32} {j s : Nat} (h : W3 F) (hl : ∀ a i, 17 ≤ a → a < 33 → F1 a i = np_F0 F a i) (h1 : W3 F1) (hH : np_Hs F1 j s) (hL : L1 17 = L 1) : UD F L (np_psF F1 j s) (np_uL L1 (51 + 16 * j) (L1 17)) := by
  refine ⟨np_nx j, min (s + 1) 8, Hs_ps hH, by omega, ?_, ?_⟩
  · rw [np_pv_nx hH.1]
    have e1 : np_same (np_rg (np_cp F1 (51 + 16 * j) 17) (51 + 16 * j)) (np_rg F1 17) := rg_cp (np_B51 hH.1) np_B17 (h1.1 _ (np_B51 hH.1)) (h1.1 _ np_B17)
    have e2 : np_same (np_rg (np_F0 F) 17) (np_rg F 1) := rg_cp np_B17 np_B1 (h.1 _ np_B17) (h.1 _ np_B1)
    intro a i u
    have lu := np_us_lt u
    have j8 := hH.1
    have a1 := e1 a i u
    have a2 := e2 a i u
    have a3 : np_rg F1 17 a i = np_rg (np_F0 F) 17 a i := hl (a + (17 - 1)) i (by omega) (by omega)
    have a4 : np_rg (np_psF F1 j s) (51 + 16 * j) a i = np_rg (np_cp F1 (51 + 16 * j) 17) (51 + 16 * j) a i := by
      show np_psF F1 j s (a + (51 + 16 * j - 1)) i = _
      unfold np_psF
      rw [np_u_a (by omega), np_u_a (by omega)]
      rfl
    rw [a4, a1, a3, a2]
    rfl
  · rw [np_pv_nx hH.1]
    show np_uL L1 (51 + 16 * j) (L1 17) (51 + 16 * j) = L 1
    unfold np_uL
    rw [if_pos rfl, hL]
end
section
variable {F : Nat → Nat → Int32} {L : Nat → Int64} {C : Nat → Nat → Int32} {fm k : Nat} {scr : nv_Scr} {n p e q : Nat}
/-- what a run comes to: refused as a text, refused as a command (the number of it is kept), carried out -/
def RR (F : Nat → Nat → Int32) (L : Nat → Int64) (b : Bool) (r : Int32) (F' : Nat → Nat → Int32) (L' : Nat → Int64) : Prop := (WI F' ∧ SN F L F' L') ∧ ((r = -100000000 ∧ np_same F F' ∧ L' 1 = L 1 ∧ (b = true ∨ ∃ i, i < 60 ∧ F' 0 10 = nI i)) ∨ (¬ r < 0 ∧ UD F L F' L'))
theorem np_m1n {z : Nat} (h : z < 1000) : ¬ nI z = -1 := fun q => nI_pos (n := z) (by omega) (by rw [q]; decide)
theorem same_rF {F : Nat → Nat → Int32} : np_same F (np_rF F n p e q) := fun a j u => by
  have := np_us_lt u
  exact (np_rF_o (by omega)).symm
theorem same_u0 {F : Nat → Nat → Int32} {j : Nat} {v : Int32} : np_same F (np_u F 0 j v) := fun a i u => by
  have := np_us_lt u
  exact (np_u_a (by omega)).symm
theorem d162 (h : W3 F) (hn : n ≤ 60) (hf : fm < 8) : ∃ r F' L' C' fm' k', np_X 162 0 [some (.ref 0), none, none] [] (np_S (np_rF F n p e q) L C fm k scr) = np_o r (np_S F' L' C' fm' k' scr) ∧ k' ≤ k + 1 ∧ fm' < 8 ∧ RR F L (decide ((rd_cnt n 60 1 0 e q fm C).1 = -1)) r F' L' := by
  have h16 := m16 (F := F) (L := L) (k := k) (scr := scr) hn (p := p) (e := e) (q := q) (fm := fm) (C := C)
  obtain ⟨hv, hf1⟩ := rd_cnt_v (n := n) 60 1 0 e q fm C hf
  generalize rd_cnt n 60 1 0 e q fm C = r at h16 hv hf1 ⊢
  obtain ⟨v, p1, f1, e1, q1, C1⟩ := r
  dsimp only at h16 hv hf1 ⊢
  rcases hv with rfl | ⟨c, hc1, hc2, rfl⟩
  · -- no text
    have ex : np_X 113 0 [some (.ref 0), none, none] [] (np_S (np_rF F n p e q) L C fm k scr) = np_xo "java/lang/IllegalArgumentException" (np_S (np_rF (np_u F 0 9 (nI p1)) 0 p1 e1 q1) L C1 f1 (k + 1) scr) := by
      have et : ((-1 : Int32) = -1) = True := eq_true rfl
      simp only [e113_0, e113_0u, e113_1, e113_4, e113_7n, e113_7i, e113_7r, e113_7v, e113_8, e113_9, e113_10, e113_13, e113_13u, e113_14, e113_14u, e113_15, e113_18, e113_21, e113_24, e113_24u, e113_25, e113_28, e113_31, e113_42, e113_42u, e113_43, e113_46, e113_46u, e113_47, e113_50, e113_53, e113_53u, e113_54, e113_55, e113_58n, e113_58i, e113_58r, e113_58v, e113_59, e113_59u, e113_60, e113_63, e113_66, e113_67, e113_68, e113_71, e113_71u, e113_72, e113_73, e113_76, e113_76u, e113_77, e113_80, e113_80u, e113_81, e113_84, e113_87, e113_98, e113_98u, e113_99, e113_102, e113_102u, e113_103, e113_106, e113_109, e113_110, fldN4, np_b_s, isoC, np_len0, h16, np_aft_v, et, if_true, fldC3, np_rF3, stoN (show 6 ≤ 9 ∧ 9 < 11 by decide), u0_rF, m14, np_aft_u, bump]
    refine ⟨_, _, _, _, _, _, x162 isoN (Or.inl rfl) ex, Nat.le_refl _, hf1, ⟨(W3_rF (W3_u0 h (by decide))).w RD_r, fun a i h1 h2 => by rw [np_rF_o (by omega), np_u_a (by omega)], by rw [np_rF_o (by decide), np_u_k (by decide)], rfl⟩, Or.inl ⟨rfl, same_u0.tr same_rF, rfl, Or.inl (decide_eq_true rfl)⟩⟩
  · have w1 : W3 (np_F0 F) := W3_cp np_B17 np_B1 h
    have g1 : GI (np_F0 F) := GI_same same_F0 (h.1 1 np_B1)
    obtain ⟨r, F', L', p', e', q', C', fm', hx, hf2, hres, hr⟩ := m125 (k := k) (scr := scr) (n := n) hn (c := c) (by omega) (F := np_F0 F) (L := np_L0 L) (C := C1) (fm := f1) (p := p1) (e := e1) (q := q1) hf1 g1
    have hB : (np_rF F n p1 e1 q1) 1 4 = 0 ∨ (np_rF F n p1 e1 q1) 1 4 = 1 := by
      rw [np_rF_o (by decide)]
      exact h.b4 np_B1
    have e27 := m27 (F := np_rF F n p1 e1 q1) (L := L) (C := C1) (fm := f1) (k := k) (scr := scr) np_B17 np_B1 (show ¬ 17 = 1 by decide) hB
    rw [cp_rF (by decide) (by decide)] at e27
    have w2 := W3_res w1 hres
    have hL17 : L' 17 = L 1 := by
      rw [hres.2.2 17 (by decide)]
      exact if_pos rfl
    rcases hr with rfl | ⟨z, hz, rfl⟩
    · -- carried out
      have w3 : W3 (np_rF F' 0 p' e' q') := W3_rF w2
      obtain ⟨j, s, hH⟩ := w3.2.2
      have e57 := m57 (F := np_rF F' 0 p' e' q') (L := L') (C := C') (fm := fm') (k := k) (scr := scr) hH.1 hH.2.1 hH.2.2.1 hH.2.2.2 (w3.b4 np_B17)
      have ex : np_X 113 0 [some (.ref 0), none, none] [] (np_S (np_rF F n p e q) L C fm k scr) = np_o (nI c) (np_S (np_psF (np_rF F' 0 p' e' q') j s) (np_uL L' (51 + 16 * j) (L' 17)) C' fm' k scr) := by
        have et : ((-1 : Int32) = -1) = True := eq_true rfl
        simp only [e113_0, e113_0u, e113_1, e113_4, e113_7n, e113_7i, e113_7r, e113_7v, e113_8, e113_9, e113_10, e113_13, e113_13u, e113_14, e113_14u, e113_15, e113_18, e113_21, e113_24, e113_24u, e113_25, e113_28, e113_31, e113_42, e113_42u, e113_43, e113_46, e113_46u, e113_47, e113_50, e113_53, e113_53u, e113_54, e113_55, e113_58n, e113_58i, e113_58r, e113_58v, e113_59, e113_59u, e113_60, e113_63, e113_66, e113_67, e113_68, e113_71, e113_71u, e113_72, e113_73, e113_76, e113_76u, e113_77, e113_80, e113_80u, e113_81, e113_84, e113_87, e113_98, e113_98u, e113_99, e113_102, e113_102u, e113_103, e113_106, e113_109, e113_110, fldN0, fldN1, fldN3, fldN4, np_b_s, isoC, isoN, isoH, isoG np_B17, np_len0, List.length_cons, List.length_nil, Nat.reduceLeDiff, Nat.reduceAdd, h16, np_aft_v, np_m1n (show c < 1000 by omega), if_false, e27, np_aft_u, hx, m14, et, if_true, e57, np_ni]
      refine ⟨_, _, _, _, _, _, w162 isoN ex, Nat.le_succ _, hf2, ⟨WI_ps (w3.w RD_r) hH, ?_, ?_, ?_⟩, Or.inr ⟨nI_nn (by omega), UD_ps' h (fun a i h1 h2 => ?_) w3 hH hL17⟩⟩
      · intro a i h1 h2
        have j8 := hH.1
        unfold np_psF
        rw [np_u_a (by omega), np_u_a (by omega), np_cp_o (by omega), np_rF_o (by omega), hres.2.1 a i (by omega) (by omega)]
        exact np_cp_o (by omega)
      · have j8 := hH.1
        unfold np_psF
        rw [np_u_a (by omega), np_u_a (by omega), np_cp_o (by omega), np_rF_o (by omega), hres.2.1 0 7 (by omega) (by omega)]
        exact np_cp_o (by omega)
      · have j8 := hH.1
        show np_uL L' (51 + 16 * j) (L' 17) 33 = L 33
        unfold np_uL
        rw [if_neg (by omega), hres.2.2 33 (by decide)]
        exact if_neg (by decide)
      rw [np_rF_o (by omega)]
      exact hres.2.1 a i (by omega) (by omega)
    · -- a command fails
      have w3 : W3 (np_u F' 0 10 (nI z)) := W3_u0 w2 (by decide)
      have w4 : W3 (np_rF (np_u F' 0 10 (nI z)) 0 p' e' q') := W3_rF w3
      have e27b := m27 (F := np_rF (np_u F' 0 10 (nI z)) 0 p' e' q') (L := L') (C := C') (fm := fm') (k := k) (scr := scr) np_B1 np_B17 (show ¬ 1 = 17 by decide) (w4.b4 np_B17)
      rw [cp_rF (by decide) (by decide)] at e27b
      have ex : np_X 113 0 [some (.ref 0), none, none] [] (np_S (np_rF F n p e q) L C fm k scr) = np_xo "java/lang/IllegalStateException" (np_S (np_rF (np_cp (np_u F' 0 10 (nI z)) 1 17) 0 p' e' q') (np_uL L' 1 (L' 17)) C' fm' (k + 1) scr) := by
        simp only [e113_0, e113_0u, e113_1, e113_4, e113_7n, e113_7i, e113_7r, e113_7v, e113_8, e113_9, e113_10, e113_13, e113_13u, e113_14, e113_14u, e113_15, e113_18, e113_21, e113_24, e113_24u, e113_25, e113_28, e113_31, e113_42, e113_42u, e113_43, e113_46, e113_46u, e113_47, e113_50, e113_53, e113_53u, e113_54, e113_55, e113_58n, e113_58i, e113_58r, e113_58v, e113_59, e113_59u, e113_60, e113_63, e113_66, e113_67, e113_68, e113_71, e113_71u, e113_72, e113_73, e113_76, e113_76u, e113_77, e113_80, e113_80u, e113_81, e113_84, e113_87, e113_98, e113_98u, e113_99, e113_102, e113_102u, e113_103, e113_106, e113_109, e113_110, fldN0, fldN1, fldN3, fldN4, np_b_s, isoC, isoN, isoH, isoG np_B17, isoG np_B1, np_len0, List.length_cons, List.length_nil, Nat.reduceLeDiff, Nat.reduceAdd, h16, np_aft_v, np_m1n (show c < 1000 by omega), np_m1n (show z < 1000 by omega), if_false, e27, np_aft_u, hx, m14, stoN (show 6 ≤ 10 ∧ 10 < 11 by decide), u0_rF, e27b, bump]
      have w5 : W3 (np_cp (np_u F' 0 10 (nI z)) 1 17) := W3_cp np_B1 np_B17 w3
      refine ⟨_, _, _, _, _, _, x162 isoN (Or.inr rfl) ex, Nat.le_refl _, hf2, ⟨(W3_rF w5).w RD_r, ?_, ?_, ?_⟩, Or.inl ⟨rfl, ?_, ?_, Or.inr ⟨z, hz, ?_⟩⟩⟩
      · intro a i h1 h2
        rw [np_rF_o (by omega), np_cp_o (by omega), np_u_a (by omega), hres.2.1 a i (by omega) (by omega)]
        exact np_cp_o (by omega)
      · rw [np_rF_o (by omega), np_cp_o (by omega), np_u_k (by decide), hres.2.1 0 7 (by omega) (by omega)]
        exact np_cp_o (by omega)
      · show np_uL L' 1 (L' 17) 33 = L 33
        unfold np_uL
        rw [if_neg (by decide), hres.2.2 33 (by decide)]
        exact if_neg (by decide)
      · have s1 := rg_cp np_B1 np_B17 (w3.1 _ np_B1) (w3.1 _ np_B17)
        have s2 : np_same (np_rg (np_F0 F) 17) (np_rg F 1) := rg_cp np_B17 np_B1 (h.1 _ np_B17) (h.1 _ np_B1)
        have s3 : np_same (np_rg (np_u F' 0 10 (nI z)) 17) (np_rg (np_F0 F) 17) := fun a i u => by
          have lu := np_us_lt u
          show np_u F' 0 10 (nI z) (a + 16) i = np_F0 F (a + 16) i
          rw [np_u_a (by omega)]
          exact hres.2.1 _ i (by omega) (by omega)
        exact (((s1.tr s3).tr s2).sy).tr same_rF
      · show np_uL L' 1 (L' 17) 1 = L 1
        unfold np_uL
        rw [if_pos rfl, hL17]
      · rw [np_rF_o (by decide), np_cp_o (by decide), np_u_eq]
end
