/-! THE PURE PART, 47: isFit answers 1. -/
section
variable {C : Nat → Nat → Int32} {fm : Nat} {scr : nv_Scr}
theorem l179 {c : Nat} (h12 : c ≤ 12) : ∀ (n i : Nat), i + n = c → ∀ (F : Nat → Nat → Int32) (L : Nat → Int64) (k : Nat), WI F → F 1 3 = nI c → ∃ F' L' k', k' ≤ k + 1600 * n ∧ np_X 179 22 [some (.ref 0), some (.int 1), some (.int (nI i))] [] (np_S F L C fm k scr) = np_o 1 (np_S F' L' C fm k' scr) ∧ WI F' ∧ np_same F F' ∧ L' 1 = L 1 ∧ SN F L F' L'
  | 0, i, h, F, L, k, w, hc => by
    obtain rfl : i = c := by omega
    refine ⟨F, L, k, by omega, ?_, w, np_same.rf, rfl, SN.rf⟩
    rw [e179_22]
    simp only [e179_0, e179_0u, e179_1, e179_4, e179_7, e179_7u, e179_8, e179_11, e179_14, e179_15, e179_18, e179_19n, e179_19i, e179_19r, e179_19v, e179_20, e179_21n, e179_21i, e179_21r, e179_21v, e179_23, e179_26, e179_27, e179_27u, e179_28, e179_31, e179_34, e179_34u, e179_35, e179_36, e179_39, e179_42, e179_42u, e179_43, e179_44, e179_45, e179_48, e179_51, e179_51u, e179_52, e179_53, e179_54, e179_57, e179_60, e179_60u, e179_61, e179_62, e179_63, e179_64, e179_65, e179_65u, e179_66, e179_69, e179_70, e179_73, e179_76, e179_77, e179_80, e179_81n, e179_81i, e179_81r, e179_81v, e179_82n, e179_82i, e179_82r, e179_82v, e179_85, e179_88, e179_89, n10, if_false, isoN, np_len0, List.length_cons, List.length_nil, Nat.reduceLeDiff, Nat.reduceAdd, m85, hc, np_aft_v, np_nltn (show ¬ i < i by omega) (show i < 1000 by omega), np_nb1]
  | n + 1, i, h, F, L, k, w, hc => by
    have hi : i < c := by omega
    have lt := np_ltn hi (show c < 1000 by omega)
    obtain ⟨k1, hk1, e1⟩ := q172 (L := L) (C := C) (fm := fm) (k := k) (scr := scr) w.g hc hi h12
    obtain ⟨F2, L2, k2, hk2, e2, w2, s2, l2, n2⟩ := q175 (L := L) (C := C) (fm := fm) (k := k1) (scr := scr) (z := false) w hc h12 hi
    have hc2 : F2 1 3 = nI c := by rw [← s2 1 3 (us_1 (by decide))]; exact hc
    obtain ⟨F3, L3, k3, hk3, e3, w3, s3, l3, n3⟩ := q175 (L := L2) (C := C) (fm := fm) (k := k2) (scr := scr) (z := true) w2 hc2 h12 hi
    have hc3 : F3 1 3 = nI c := by rw [← s3 1 3 (us_1 (by decide))]; exact hc2
    have ht : (i + 1) % c < c := Nat.mod_lt _ (by omega)
    obtain ⟨F4, L4, k4, hk4, e4, w4, s4, l4, n4⟩ := q178 (L := L3) (C := C) (fm := fm) (k := k3) (scr := scr) w3 hc3 h12 hi ht
    have hc4 : F4 1 3 = nI c := by rw [← s4 1 3 (us_1 (by decide))]; exact hc3
    obtain ⟨F5, L5, k5, hk5, e5, w5, s5, l5, n5⟩ := l179 h12 n (i + 1) (by omega) F4 L4 k4 w4 hc4
    have hm : nI (i + 1) - nI (i + 1) / nI c * nI c = nI ((i + 1) % c) := nI_mod (by omega) (by omega) (by omega)
    have c0 : ¬ nI c = 0 := nI_ne0 (by omega) (by omega)
    rw [np_it0] at e2
    rw [np_it1] at e3
    refine ⟨F5, L5, k5, by omega, ?_, w5, ((s2.tr s3).tr s4).tr s5, by rw [l5, l4, l3, l2], ((n2.tr n3).tr n4).tr n5⟩
    rw [← e5, e179_22]
    simp only [e179_0, e179_0u, e179_1, e179_4, e179_7, e179_7u, e179_8, e179_11, e179_14, e179_15, e179_18, e179_19n, e179_19i, e179_19r, e179_19v, e179_20, e179_21n, e179_21i, e179_21r, e179_21v, e179_23, e179_26, e179_27, e179_27u, e179_28, e179_31, e179_34, e179_34u, e179_35, e179_36, e179_39, e179_42, e179_42u, e179_43, e179_44, e179_45, e179_48, e179_51, e179_51u, e179_52, e179_53, e179_54, e179_57, e179_60, e179_60u, e179_61, e179_62, e179_63, e179_64, e179_65, e179_65u, e179_66, e179_69, e179_70, e179_73, e179_76, e179_77, e179_80, e179_81n, e179_81i, e179_81r, e179_81v, e179_82n, e179_82i, e179_82r, e179_82v, e179_85, e179_88, e179_89, n10, if_true, if_false, isoN, np_len0, List.length_cons, List.length_nil, Nat.reduceLeDiff, Nat.reduceAdd, m85, hc, hc3, np_aft_v, lt, e1, e2, e3, nI_1, c0, not_false_eq_true, hm, e4]
end
section
variable {F : Nat → Nat → Int32} {L : Nat → Int64} {C : Nat → Nat → Int32} {fm k : Nat} {scr : nv_Scr}
theorem q179 (w : WI F) : ∃ F' L' C' k', k' ≤ k + 19400 ∧ np_X 179 0 [some (.ref 0), none, none] [] (np_S F L C fm k scr) = np_o 1 (np_S F' L' C' fm k' scr) ∧ WI F' ∧ np_same F F' ∧ L' 1 = L 1 ∧ SN F L F' L' := by
  obtain ⟨c, h12, hc⟩ := GI_cn w.g
  obtain ⟨k1, hk1, e1⟩ := q171 (L := L) (C := C) (fm := fm) (k := k) (scr := scr) w.g
  obtain ⟨F2, C2, k2, r2, hk2, e2⟩ := q174 (L := L) (C := C) (fm := fm) (k := k1) (scr := scr) w
  have w2 := r2.wi w
  have hc2 : F2 1 3 = nI c := by rw [← r2.same 1 3 (us_1 (by decide))]; exact hc
  have n2 : SN F L F2 L := ⟨fun a i h1 h2 => r2 a i (by omega), r2 0 7 (by omega), rfl⟩
  obtain ⟨F3, L3, k3, hk3, e3, w3, s3, l3, n3⟩ := l179 (C := C2) (fm := fm) (scr := scr) h12 c 0 (by omega) F2 L k2 w2 hc2
  rw [nI_0] at e3
  refine ⟨F3, L3, C2, k3, by omega, ?_, w3, r2.same.tr s3, l3, n2.tr n3⟩
  simp only [e179_0, e179_0u, e179_1, e179_4, e179_7, e179_7u, e179_8, e179_11, e179_14, e179_15, e179_18, e179_19n, e179_19i, e179_19r, e179_19v, e179_20, e179_21n, e179_21i, e179_21r, e179_21v, e179_23, e179_26, e179_27, e179_27u, e179_28, e179_31, e179_34, e179_34u, e179_35, e179_36, e179_39, e179_42, e179_42u, e179_43, e179_44, e179_45, e179_48, e179_51, e179_51u, e179_52, e179_53, e179_54, e179_57, e179_60, e179_60u, e179_61, e179_62, e179_63, e179_64, e179_65, e179_65u, e179_66, e179_69, e179_70, e179_73, e179_76, e179_77, e179_80, e179_81n, e179_81i, e179_81r, e179_81v, e179_82n, e179_82i, e179_82r, e179_82v, e179_85, e179_88, e179_89, np_len0, e1, e2, np_aft_v, n10, if_false, e3]
end
