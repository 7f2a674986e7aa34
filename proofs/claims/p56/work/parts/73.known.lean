/-! THE PURE PART, 43: what is discovered; areKnown. -/
def no78 (F G : Nat → Nat → Int32) : Prop := ∀ a q, ¬ (q = 7 ∨ q = 8) → G a q = F a q
theorem no78.kn {F : Nat → Nat → Int32} {a : Nat} : no78 F (np_kn F a) := fun b q h => by
  unfold np_kn
  rw [np_u_k (by omega), np_u_k (by omega)]
section
variable {F G : Nat → Nat → Int32}
theorem no78.aflo (h : no78 F G) {a : Nat} : sp_aflo G a = sp_aflo F a := by unfold sp_aflo; rw [h a 5 (by decide)]
theorem no78.dist (h : no78 F G) {a : Nat} {x y : Int32} : sp_dist G a x y = sp_dist F a x y := by unfold sp_dist; rw [h a 2 (by decide), h a 3 (by decide)]
theorem no78.opp (h : no78 F G) {a : Nat} : sp_opp G a = sp_opp F a := by
  unfold sp_opp
  have : sp_opn G a = sp_opn F a := by
    funext i
    unfold sp_opn
    rw [h.aflo, h.dist, h (5 + i) 1 (by decide), h a 1 (by decide), h a 2 (by decide), h a 3 (by decide)]
  rw [this]
end
/-- a spoon is known where it stands -/
def knw (F : Nat → Nat → Int32) (i : Nat) : Prop := F (5 + i) 7 = F (5 + i) 2 ∧ F (5 + i) 8 = F (5 + i) 3
theorem knw_kn {F : Nat → Nat → Int32} {i : Nat} : knw (np_kn F (5 + i)) i := by
  unfold knw np_kn
  rw [np_u_k (show ¬ 7 = 8 by decide), np_u_eq, np_u_eq, np_u_k (show ¬ 2 = 8 by decide), np_u_k (show ¬ 2 = 7 by decide), np_u_k (show ¬ 3 = 8 by decide), np_u_k (show ¬ 3 = 7 by decide)]
  exact ⟨rfl, rfl⟩
theorem knw_kn' {F : Nat → Nat → Int32} {i j : Nat} (h : knw F i) : knw (np_kn F (5 + j)) i := by
  by_cases e : i = j
  · subst e; exact knw_kn
  · unfold knw
    rw [np_kn_a (by omega), np_kn_a (by omega), np_kn_a (by omega), np_kn_a (by omega)]
    exact h
theorem knw_hid {F : Nat → Nat → Int32} {i : Nat} (h : knw F i) : sp_hid F (5 + i) = false := by
  unfold sp_hid
  rw [h.1, h.2]
  simp
theorem ds1_78 {F : Nat → Nat → Int32} {i : Nat} : no78 F (sp_ds1 F i) := by
  unfold sp_ds1
  split
  · exact no78.kn
  · exact fun _ _ _ => rfl
theorem ds1_kn {F : Nat → Nat → Int32} {i j : Nat} (h : knw F i) : knw (sp_ds1 F j) i := by
  unfold sp_ds1
  split
  · exact knw_kn' h
  · exact h
theorem dis_spec : ∀ (n i : Nat) (F : Nat → Nat → Int32), no78 F (sp_dis F i n) ∧ (∀ q, knw F q → knw (sp_dis F i n) q) ∧ (∀ q, i ≤ q → q < i + n → (sp_aflo F (5 + q) && sp_opp F (5 + q)) = true → knw (sp_dis F i n) q)
  | 0, i, F => ⟨fun _ _ _ => rfl, fun _ h => h, fun q h1 h2 => by omega⟩
  | n + 1, i, F => by
    obtain ⟨h1, h2, h3⟩ := dis_spec n (i + 1) (sp_ds1 F i)
    have d := @ds1_78 F i
    rw [sp_dis_s]
    refine ⟨fun a q hq => (h1 a q hq).trans (d a q hq), fun q hq => h2 q (ds1_kn hq), fun q l1 l2 hq => ?_⟩
    by_cases e : q = i
    · subst e
      refine h2 q ?_
      unfold sp_ds1
      rw [if_pos hq]
      exact knw_kn
    · refine h3 q (by omega) (by omega) ?_
      rw [d.aflo, d.opp]
      exact hq
theorem far_sym : ∀ a, a < 10 → ∀ b, b < 10 → sp_far (nI a) (nI b) = sp_far (nI b) (nI a) := by decide +kernel
section
variable {F : Nat → Nat → Int32} {V : gm_V} {L : Nat → Int64} {C : Nat → Nat → Int32} {fm k : Nat} {scr : nv_Scr}
theorem dst_sym (hr : gm_rep F V) (hk : gm_ok V) {i j : Nat} (hi : i < 12) (hj : j < 12) : sp_dist F (5 + j) (F (5 + i) 2) (F (5 + i) 3) = sp_dist F (5 + i) (F (5 + j) 2) (F (5 + j) 3) := by
  obtain ⟨n, -, h1, h2⟩ := dst_n hr hk hi hj
  obtain ⟨m, -, h3, h4⟩ := dst_n hr hk hj hi
  have a := hk.1 i hi
  have b := hk.1 j hj
  rw [h1, h3, ← h2, ← h4, gv_s hr hi (show 2 < 9 by decide), gv_s hr hi (show 3 < 9 by decide), gv_s hr hj (show 2 < 9 by decide), gv_s hr hj (show 3 < 9 by decide), far_sym _ a.2.2.1 _ b.2.2.1, far_sym _ a.2.2.2.1 _ b.2.2.2.1]
theorem any_of {p : Nat → Bool} : ∀ (n i : Nat) (q : Nat), i ≤ q → q < i + n → p q = true → sp_any p i n = true
  | 0, i, q, h1, h2, _ => by omega
  | n + 1, i, q, h1, h2, hp => by
    rw [sp_any_s]
    by_cases e : q = i
    · subst e; rw [hp]; rfl
    · rw [any_of n (i + 1) q (by omega) (by omega) hp]
      simp
/-- who is near an opponent is known -/
def KN (F : Nat → Nat → Int32) : Prop := ∀ i o, i < 12 → o < 12 → sp_aflo F (5 + i) = true → sp_aflo F (5 + o) = true → ¬ F (5 + i) 1 = F (5 + o) 1 → ¬ 2 < sp_dist F (5 + i) (F (5 + o) 2) (F (5 + o) 3) → sp_hid F (5 + i) = false
/-- what discovering gives -/
theorem KN_dis (h : GI (sp_dis F 0 12)) : KN (sp_dis F 0 12) := by
  obtain ⟨V, hr, hk⟩ := h
  obtain ⟨d1, d2, d3⟩ := dis_spec 12 0 F
  intro i o hi ho ai ao fl hd
  refine knw_hid (d3 i (by omega) (by omega) ?_)
  have e := dst_sym hr hk ho hi
  have a := hk.1 i hi
  have b := hk.1 o ho
  have fl2 := fl_ne (a := V (5 + o) 1) (b := V (5 + i) 1) (by omega) (by omega)
  rw [← gv_s hr ho (show 1 < 9 by decide), ← gv_s hr hi (show 1 < 9 by decide)] at fl2
  have f3 := fl2.mpr (fun q => fl q.symm)
  rw [← d1.aflo, ai]
  rw [← d1.opp]
  rw [Bool.true_and]
  unfold sp_opp
  refine any_of 12 0 o (by omega) (by omega) ?_
  unfold sp_opn
  rw [ao, decide_eq_true f3, ← e, decide_eq_false hd]
  rfl
theorem b177 (hr : gm_rep F V) (hk : gm_ok V) (hK : KN F) {i o : Nat} (hi : i < V 1 3) (ho : o < V 1 3) {l4 : Option Value} : ∃ k' m4, k' ≤ k + 1 ∧ np_X 177 14 [some (.ref 0), some (.int 1), some (.int (nI i)), some (.int (nI o)), l4] [] (np_S F L C fm k scr) = np_X 177 14 [some (.ref 0), some (.int 1), some (.int (nI i)), some (.int (nI (o + 1))), m4] [] (np_S F L C fm k' scr) := by
  have hc := gv_1 hr (show 3 = 3 ∨ 3 = 4 ∨ 3 = 5 ∨ 3 = 6 ∨ 3 = 8 ∨ 3 = 9 by decide)
  have h12 := hk.2.1.1
  have hn := sp_num_nI hc h12 hi
  have hm := sp_num_nI hc h12 ho
  have lt := np_ltn ho (show V 1 3 < 1000 by omega)
  have q := q157 (F := F) (L := L) (C := C) (fm := fm) (k := k) (scr := scr) hn hm
  have dl := @lw_dsk_le F i o
  refine ⟨k + lw_dsk F i o, some (.int (lw_dst F i o)), by omega, ?_⟩
  rw [e177_14]
  by_cases d : lw_dst F i o = -1000
  · simp only [e177_0, e177_1n, e177_1i, e177_1r, e177_1v, e177_2, e177_3n, e177_3i, e177_3r, e177_3v, e177_4, e177_5, e177_5u, e177_6, e177_9, e177_12, e177_13n, e177_13i, e177_13r, e177_13v, e177_15, e177_18, e177_19, e177_19u, e177_20, e177_23, e177_26, e177_26u, e177_27, e177_28, e177_29, e177_32n, e177_32i, e177_32r, e177_32v, e177_34, e177_36, e177_39, e177_42, e177_44, e177_45, e177_48, e177_48u, e177_49, e177_50, e177_53, e177_53u, e177_54, e177_55, e177_58, e177_61, e177_61u, e177_62, e177_63, e177_66, e177_69, e177_70, e177_73, e177_74n, e177_74i, e177_74r, e177_74v, e177_75n, e177_75i, e177_75r, e177_75v, e177_78, e177_81n, e177_81i, e177_81r, e177_81v, e177_84, e177_87, e177_88, n10, isoN, np_len0, List.length_cons, List.length_nil, Nat.reduceLeDiff, Nat.reduceAdd, m85, hc, lt, if_true, if_false, q, np_aft_v, d, nI_1]
  · have both : sp_aflo F (5 + i) = true ∧ sp_aflo F (5 + o) = true := by
      unfold lw_dst at d
      cases a : sp_aflo F (5 + i) <;> cases b : sp_aflo F (5 + o) <;> simp [a, b] at d ⊢
    have dd : lw_dst F i o = sp_dist F (5 + i) (F (5 + o) 2) (F (5 + o) 3) := by
      unfold lw_dst
      rw [both.1, both.2]
      rfl
    by_cases g : 2 < lw_dst F i o
    · simp only [e177_0, e177_1n, e177_1i, e177_1r, e177_1v, e177_2, e177_3n, e177_3i, e177_3r, e177_3v, e177_4, e177_5, e177_5u, e177_6, e177_9, e177_12, e177_13n, e177_13i, e177_13r, e177_13v, e177_15, e177_18, e177_19, e177_19u, e177_20, e177_23, e177_26, e177_26u, e177_27, e177_28, e177_29, e177_32n, e177_32i, e177_32r, e177_32v, e177_34, e177_36, e177_39, e177_42, e177_44, e177_45, e177_48, e177_48u, e177_49, e177_50, e177_53, e177_53u, e177_54, e177_55, e177_58, e177_61, e177_61u, e177_62, e177_63, e177_66, e177_69, e177_70, e177_73, e177_74n, e177_74i, e177_74r, e177_74v, e177_75n, e177_75i, e177_75r, e177_75v, e177_78, e177_81n, e177_81i, e177_81r, e177_81v, e177_84, e177_87, e177_88, n10, isoN, np_len0, List.length_cons, List.length_nil, Nat.reduceLeDiff, Nat.reduceAdd, m85, hc, lt, if_true, if_false, q, np_aft_v, d, g, nI_1]
    · by_cases f : F (5 + i) 1 = F (5 + o) 1
      · simp only [e177_0, e177_1n, e177_1i, e177_1r, e177_1v, e177_2, e177_3n, e177_3i, e177_3r, e177_3v, e177_4, e177_5, e177_5u, e177_6, e177_9, e177_12, e177_13n, e177_13i, e177_13r, e177_13v, e177_15, e177_18, e177_19, e177_19u, e177_20, e177_23, e177_26, e177_26u, e177_27, e177_28, e177_29, e177_32n, e177_32i, e177_32r, e177_32v, e177_34, e177_36, e177_39, e177_42, e177_44, e177_45, e177_48, e177_48u, e177_49, e177_50, e177_53, e177_53u, e177_54, e177_55, e177_58, e177_61, e177_61u, e177_62, e177_63, e177_66, e177_69, e177_70, e177_73, e177_74n, e177_74i, e177_74r, e177_74v, e177_75n, e177_75i, e177_75r, e177_75v, e177_78, e177_81n, e177_81i, e177_81r, e177_81v, e177_84, e177_87, e177_88, n10, isoN, np_len0, List.length_cons, List.length_nil, Nat.reduceLeDiff, Nat.reduceAdd, m85, hc, lt, if_true, if_false, q, np_aft_v, d, g, m86 hn, m86 hm, f, nI_1]
      · have hh := hK i o (by omega) (by omega) both.1 both.2 f (by rw [← dd]; exact g)
        have e0 : np_i false = 0 := rfl
        simp only [e177_0, e177_1n, e177_1i, e177_1r, e177_1v, e177_2, e177_3n, e177_3i, e177_3r, e177_3v, e177_4, e177_5, e177_5u, e177_6, e177_9, e177_12, e177_13n, e177_13i, e177_13r, e177_13v, e177_15, e177_18, e177_19, e177_19u, e177_20, e177_23, e177_26, e177_26u, e177_27, e177_28, e177_29, e177_32n, e177_32i, e177_32r, e177_32v, e177_34, e177_36, e177_39, e177_42, e177_44, e177_45, e177_48, e177_48u, e177_49, e177_50, e177_53, e177_53u, e177_54, e177_55, e177_58, e177_61, e177_61u, e177_62, e177_63, e177_66, e177_69, e177_70, e177_73, e177_74n, e177_74i, e177_74r, e177_74v, e177_75n, e177_75i, e177_75r, e177_75v, e177_78, e177_81n, e177_81i, e177_81r, e177_81v, e177_84, e177_87, e177_88, n10, isoN, np_len0, List.length_cons, List.length_nil, Nat.reduceLeDiff, Nat.reduceAdd, m85, hc, lt, if_true, if_false, q, np_aft_v, d, g, m86 hn, m86 hm, f, m96 hn, hh, e0, nI_1]
theorem l177o (hr : gm_rep F V) (hk : gm_ok V) (hK : KN F) {i : Nat} (hi : i < V 1 3) : ∀ (n o : Nat), o + n = V 1 3 → ∀ (k : Nat) (l4 : Option Value), ∃ k' m4, k' ≤ k + n ∧ np_X 177 14 [some (.ref 0), some (.int 1), some (.int (nI i)), some (.int (nI o)), l4] [] (np_S F L C fm k scr) = np_X 177 81 [some (.ref 0), some (.int 1), some (.int (nI i)), some (.int (nI (V 1 3))), m4] [] (np_S F L C fm k' scr)
  | 0, o, h, k, l4 => by
    have hc := gv_1 hr (show 3 = 3 ∨ 3 = 4 ∨ 3 = 5 ∨ 3 = 6 ∨ 3 = 8 ∨ 3 = 9 by decide)
    have h12 := hk.2.1.1
    obtain rfl : o = V 1 3 := by omega
    refine ⟨k, l4, by omega, ?_⟩
    rw [e177_14]
    simp only [e177_0, e177_1n, e177_1i, e177_1r, e177_1v, e177_2, e177_3n, e177_3i, e177_3r, e177_3v, e177_4, e177_5, e177_5u, e177_6, e177_9, e177_12, e177_13n, e177_13i, e177_13r, e177_13v, e177_15, e177_18, e177_19, e177_19u, e177_20, e177_23, e177_26, e177_26u, e177_27, e177_28, e177_29, e177_32n, e177_32i, e177_32r, e177_32v, e177_34, e177_36, e177_39, e177_42, e177_44, e177_45, e177_48, e177_48u, e177_49, e177_50, e177_53, e177_53u, e177_54, e177_55, e177_58, e177_61, e177_61u, e177_62, e177_63, e177_66, e177_69, e177_70, e177_73, e177_74n, e177_74i, e177_74r, e177_74v, e177_75n, e177_75i, e177_75r, e177_75v, e177_78, e177_84, e177_87, e177_88, n10, isoN, np_len0, List.length_cons, List.length_nil, Nat.reduceLeDiff, Nat.reduceAdd, m85, hc, np_aft_v, np_nltn (show ¬ V 1 3 < V 1 3 by omega) (show V 1 3 < 1000 by omega), if_false]
  | n + 1, o, h, k, l4 => by
    obtain ⟨k1, m4, hk1, e1⟩ := b177 (L := L) (C := C) (fm := fm) (k := k) (scr := scr) hr hk hK hi (show o < V 1 3 by omega) (l4 := l4)
    obtain ⟨k2, p4, hk2, e2⟩ := l177o hr hk hK hi n (o + 1) (by omega) k1 m4
    exact ⟨k2, p4, by omega, e1.trans e2⟩
theorem l177i (hr : gm_rep F V) (hk : gm_ok V) (hK : KN F) : ∀ (n i : Nat), i + n = V 1 3 → ∀ (k : Nat) (l3 l4 : Option Value), ∃ k', k' ≤ k + 12 * n ∧ np_X 177 4 [some (.ref 0), some (.int 1), some (.int (nI i)), l3, l4] [] (np_S F L C fm k scr) = np_o 1 (np_S F L C fm k' scr)
  | 0, i, h, k, l3, l4 => by
    have hc := gv_1 hr (show 3 = 3 ∨ 3 = 4 ∨ 3 = 5 ∨ 3 = 6 ∨ 3 = 8 ∨ 3 = 9 by decide)
    have h12 := hk.2.1.1
    obtain rfl : i = V 1 3 := by omega
    refine ⟨k, by omega, ?_⟩
    rw [e177_4]
    simp only [e177_0, e177_1n, e177_1i, e177_1r, e177_1v, e177_2, e177_3n, e177_3i, e177_3r, e177_3v, e177_5, e177_5u, e177_6, e177_9, e177_12, e177_13n, e177_13i, e177_13r, e177_13v, e177_15, e177_18, e177_19, e177_19u, e177_20, e177_23, e177_26, e177_26u, e177_27, e177_28, e177_29, e177_32n, e177_32i, e177_32r, e177_32v, e177_34, e177_36, e177_39, e177_42, e177_44, e177_45, e177_48, e177_48u, e177_49, e177_50, e177_53, e177_53u, e177_54, e177_55, e177_58, e177_61, e177_61u, e177_62, e177_63, e177_66, e177_69, e177_70, e177_73, e177_74n, e177_74i, e177_74r, e177_74v, e177_75n, e177_75i, e177_75r, e177_75v, e177_78, e177_81n, e177_81i, e177_81r, e177_81v, e177_84, e177_87, e177_88, isoN, np_len0, List.length_cons, List.length_nil, Nat.reduceLeDiff, Nat.reduceAdd, m85, hc, np_aft_v, np_nltn (show ¬ V 1 3 < V 1 3 by omega) (show V 1 3 < 1000 by omega), if_false, np_nb1]
  | n + 1, i, h, k, l3, l4 => by
    have hc := gv_1 hr (show 3 = 3 ∨ 3 = 4 ∨ 3 = 5 ∨ 3 = 6 ∨ 3 = 8 ∨ 3 = 9 by decide)
    have h12 := hk.2.1.1
    have hi : i < V 1 3 := by omega
    obtain ⟨k1, m4, hk1, e1⟩ := l177o (L := L) (C := C) (fm := fm) (scr := scr) hr hk hK hi (V 1 3) 0 (by omega) k l4
    obtain ⟨k2, hk2, e2⟩ := l177i hr hk hK n (i + 1) (by omega) k1 (some (.int (nI (V 1 3)))) m4
    rw [nI_0] at e1
    refine ⟨k2, by omega, ?_⟩
    rw [e177_4]
    simp only [e177_0, e177_1n, e177_1i, e177_1r, e177_1v, e177_2, e177_3n, e177_3i, e177_3r, e177_3v, e177_5, e177_5u, e177_6, e177_9, e177_12, e177_13n, e177_13i, e177_13r, e177_13v, e177_15, e177_18, e177_19, e177_19u, e177_20, e177_23, e177_26, e177_26u, e177_27, e177_28, e177_29, e177_32n, e177_32i, e177_32r, e177_32v, e177_34, e177_36, e177_39, e177_42, e177_44, e177_45, e177_48, e177_48u, e177_49, e177_50, e177_53, e177_53u, e177_54, e177_55, e177_58, e177_61, e177_61u, e177_62, e177_63, e177_66, e177_69, e177_70, e177_73, e177_74n, e177_74i, e177_74r, e177_74v, e177_75n, e177_75i, e177_75r, e177_75v, e177_78, e177_81n, e177_81i, e177_81r, e177_81v, e177_84, e177_87, e177_88, isoN, np_len0, List.length_cons, List.length_nil, Nat.reduceLeDiff, Nat.reduceAdd, m85, hc, np_aft_v, np_ltn hi (show V 1 3 < 1000 by omega), if_true, e1, nI_1, e2]
theorem q177 (h : GI F) (hK : KN F) : ∃ k', k' ≤ k + 144 ∧ np_X 177 0 [some (.ref 0), none, none, none, none] [] (np_S F L C fm k scr) = np_o 1 (np_S F L C fm k' scr) := by
  obtain ⟨V, hr, hk⟩ := h
  have h12 := hk.2.1.1
  obtain ⟨k1, hk1, e1⟩ := l177i (L := L) (C := C) (fm := fm) (scr := scr) hr hk hK (V 1 3) 0 (by omega) k none none
  rw [nI_0] at e1
  refine ⟨k1, by omega, ?_⟩
  simp only [e177_0, e177_1n, e177_1i, e177_1r, e177_1v, e177_2, e177_3n, e177_3i, e177_3r, e177_3v, e177_5, e177_5u, e177_6, e177_9, e177_12, e177_13n, e177_13i, e177_13r, e177_13v, e177_14, e177_15, e177_18, e177_19, e177_19u, e177_20, e177_23, e177_26, e177_26u, e177_27, e177_28, e177_29, e177_32n, e177_32i, e177_32r, e177_32v, e177_34, e177_36, e177_39, e177_42, e177_44, e177_45, e177_48, e177_48u, e177_49, e177_50, e177_53, e177_53u, e177_54, e177_55, e177_58, e177_61, e177_61u, e177_62, e177_63, e177_66, e177_69, e177_70, e177_73, e177_74n, e177_74i, e177_74r, e177_74v, e177_75n, e177_75i, e177_75r, e177_75v, e177_78, e177_81n, e177_81i, e177_81r, e177_81v, e177_84, e177_87, e177_88, e1]
end
