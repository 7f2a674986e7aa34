/-! THE PURE PART, 16: the buffer of commands. -/
section
variable {F : Nat → Nat → Int32} {L : Nat → Int64} {C : Nat → Nat → Int32} {fm k : Nat} {scr : nv_Scr} {n p e q : Nat}
theorem np_rFu2z : np_u (np_rF F n p e q) 179 2 0 = np_rF F 0 p e q := np_rFu2 (n' := 0)
theorem np_rFu3z : np_u (np_rF F n p e q) 179 3 0 = np_rF F n 0 e q := np_rFu3 (p' := 0)
theorem m14 : np_X 14 0 [some (.ref 179)] [] (np_S (np_rF F n p e q) L C fm k scr) = some (.inl none, np_S (np_rF F 0 p e q) L C fm k scr) := by
  simp only [e14_0, e14_0u, e14_1, e14_2, e14_5, stoC2, np_rFu2z, np_b_s]
theorem m15 : np_X 15 0 [some (.ref 179)] [] (np_S (np_rF F n p e q) L C fm k scr) = some (.inl none, np_S (np_rF F n 0 e q) L C fm k scr) := by
  simp only [e15_0, e15_0u, e15_1, e15_2, e15_5, stoC3, np_rFu3z, np_b_s]
theorem m17 (hn : n ≤ 60) (hp : p < 900) : np_X 17 0 [some (.ref 179)] [] (np_S (np_rF F n p e q) L C fm k scr) = if sp_isa C n p 59 = true then np_o 1 (np_S (np_rF F n (p + 1) e q) L C fm k scr) else np_o 0 (np_S (np_rF F n p e q) L C fm k scr) := by
  simp only [e17_0, e17_0u, e17_1, e17_1u, e17_2, e17_5, e17_7, e17_10, e17_13, e17_14, e17_15, e17_15u, e17_16, e17_16i, e17_17, e17_20, e17_21, e17_22, e17_25, e17_26, fldC3, np_b_s, np_rF3, isoC, np_len0, m23 (show p < 1000 by omega) hn (np_rF2 (F := F) (p := p) (e := e) (q := q)), np_aft_v, np_i0, nI_1, stoC3, np_rFu3, np_nb0, np_nb1]
  cases sp_isa C n p 59 <;> simp
/-- a number of the command that was read -/
def rd_nr (C : Nat → Nat → Int32) (q i : Nat) : Int32 := if i < q then C 181 i else 0
theorem m22 {i : Nat} (hi : i < 5) (hq : q < 1000) : np_X 22 0 [some (.ref 179), some (.int (nI i))] [] (np_S (np_rF F n p e q) L C fm k scr) = np_o (rd_nr C q i) (np_S (np_rF F n p e q) L C fm k scr) := by
  unfold rd_nr
  by_cases h : i < q
  · simp only [e22_0, e22_1, e22_4, e22_5, e22_5u, e22_6, e22_9, e22_12, e22_13, e22_13u, e22_14, e22_17, e22_18, e22_21, e22_21u, e22_22, e22_25, e22_26, e22_27, e22_30, e22_31, np_lt0 (show i < 1000 by omega), if_false, fldC5, fldC1, np_b_s, np_rF5, np_ltn h hq, if_true, len181, np_of5, np_lt5 hi, rd181 hi, np_ni, h]
  · simp only [e22_0, e22_1, e22_4, e22_5, e22_5u, e22_6, e22_9, e22_12, e22_13, e22_13u, e22_14, e22_17, e22_18, e22_21, e22_21u, e22_22, e22_25, e22_26, e22_27, e22_30, e22_31, np_lt0 (show i < 1000 by omega), if_false, fldC5, np_b_s, np_rF5, np_nltn h (show i < 1000 by omega), np_ni, h]
theorem m12 (hn : n < 60) : np_X 12 0 [some (.ref 179)] [] (np_S (np_rF F n p e q) L C fm k scr) = np_o 0 (np_S (np_rF F n p e q) L C fm k scr) := by
  simp only [e12_0, e12_0u, e12_1, e12_4, e12_4u, e12_5, e12_8, e12_9, e12_12, e12_13, e12_16, e12_17, fldC2, fldC0, np_b_s, np_rF2, len180, np_of60, np_lt60 hn, if_true, np_nb0]
theorem m13 {c : Int32} (hn : n < 60) (hc : vp_nar .char c = c) : np_X 13 0 [some (.ref 179), some (.int c)] [] (np_S (np_rF F n p e q) L C fm k scr) = np_o (nI (n + 1)) (np_S (np_rF F (n + 1) p e q) L (np_uC C 180 n c) fm k scr) := by
  simp only [e13_0, e13_0u, e13_1, e13_4, e13_7, e13_7u, e13_8, e13_11, e13_11u, e13_12, e13_15, e13_16, e13_19, e13_19u, e13_20, e13_23, e13_23u, e13_24, e13_27, e13_28, e13_29, e13_29u, e13_30, e13_30i, e13_31, e13_34, e13_35, e13_36, e13_39, e13_39u, e13_40, e13_43, fldC2, fldC0, np_b_s, np_rF2, np_lt0 (show n < 1000 by omega), if_false, len180, np_of60, np_lt60 hn, if_true, hc, wr180 hn, nI_1, stoC2, np_rFu2, np_ni]
theorem m112 {c : Int32} (hn : n < 60) (hc : vp_nar .char c = c) (h1 : ¬ c < 32) (h2 : ¬ 126 < c) : np_X 112 0 [some (.ref 0), some (.int c)] [] (np_S (np_rF F n p e q) L C fm k scr) = np_o (nI (n + 1)) (np_S (np_rF F (n + 1) p e q) L (np_uC C 180 n c) fm k scr) := by
  simp only [e112_0, e112_1, e112_3, e112_6, e112_7, e112_9, e112_12, e112_22, e112_22u, e112_23, e112_26, e112_29, e112_32, e112_42, e112_42u, e112_43, e112_46, e112_47, e112_50, h1, h2, if_false, fldN4, np_b_s, isoC, np_len0, m12 hn, np_aft_v, if_true, m13 hn hc, np_ni]
theorem m166 {c : Int32} (hn : n < 60) (hc : vp_nar .char c = c) (h1 : ¬ c < 32) (h2 : ¬ 126 < c) : np_X 166 0 [some (.ref 0), some (.int c), none] [] (np_S (np_rF F n p e q) L C fm k scr) = np_o 1 (np_S (np_rF F (n + 1) p e q) L (np_uC C 180 n c) fm k scr) := by
  simp only [e166_0, e166_0u, e166_1, e166_2, e166_5, e166_5i, e166_6, e166_10, e166_11, e166_12, e166_13, isoN, np_len0, m112 hn hc h1 h2, np_aft_v, np_nb1]
/-- a text written behind what is there -/
def rd_wr (C : Nat → Nat → Int32) (t n : Nat) : Nat → Nat → (Nat → Nat → Int32)
  | _, 0 => C
  | i, cnt + 1 => rd_wr (np_uC C 180 n (tx_ch t i)) t (n + 1) (i + 1) cnt
theorem tx_k : ∀ t, t < 24 → ∀ i, i < tx_len t → vp_nar .char (tx_ch t i) = tx_ch t i ∧ ¬ tx_ch t i < 32 ∧ ¬ 126 < tx_ch t i := by decide
end
section
variable {F : Nat → Nat → Int32} {L : Nat → Int64} {fm k : Nat} {scr : nv_Scr} {p e q : Nat}
theorem l167 {t : Nat} (ht : t < 24) : ∀ (cnt i : Nat), i + cnt = tx_len t → ∀ (C : Nat → Nat → Int32) (n : Nat), n + cnt ≤ 60 → np_X 167 2 [some (.ref 0), some (.ref (1000000 + t)), some (.int (nI i))] [] (np_S (np_rF F n p e q) L C fm k scr) = np_vo (.ref 0) (np_S (np_rF F (n + cnt) p e q) L (rd_wr C t n i cnt) fm k scr)
  | 0, i, h, C, n, hn => by
    have hl := (tx_l t (by omega)).2
    have h3 : 1000000 ≤ 1000000 + t := by omega
    have h4 : 1000000 + t < 1000032 := by omega
    obtain rfl : i = tx_len t := by omega
    rw [e167_2]
    simp only [e167_0, e167_1n, e167_1i, e167_1r, e167_1v, e167_3, e167_3u, e167_4, e167_7, e167_10, e167_10u, e167_11, e167_11u, e167_12, e167_13, e167_16, e167_19, e167_19i, e167_20n, e167_20i, e167_20r, e167_20v, e167_23, e167_26, e167_26u, e167_27, e167_27u, h3, h4, List.length_cons, List.length_nil, Nat.reduceLeDiff, Nat.reduceAdd, m0 (show t < 32 by omega), np_aft_v, np_nltn (show ¬ tx_len t < tx_len t by omega) (show tx_len t < 1000 by omega), if_false, rd_wr, Nat.add_zero]
  | cnt + 1, i, h, C, n, hn => by
    have hl := (tx_l t (by omega)).2
    have h3 : 1000000 ≤ 1000000 + t := by omega
    have h4 : 1000000 + t < 1000032 := by omega
    have hi : i < tx_len t := by omega
    obtain ⟨c1, c2, c3⟩ := tx_k t ht i hi
    have ih := l167 ht cnt (i + 1) (by omega) (np_uC C 180 n (tx_ch t i)) (n + 1) (by omega)
    rw [e167_2]
    simp only [e167_0, e167_1n, e167_1i, e167_1r, e167_1v, e167_3, e167_3u, e167_4, e167_7, e167_10, e167_10u, e167_11, e167_11u, e167_12, e167_13, e167_16, e167_19, e167_19i, e167_20n, e167_20i, e167_20r, e167_20v, e167_23, e167_26, e167_26u, e167_27, e167_27u, h3, h4, np_len0, List.length_cons, List.length_nil, Nat.reduceLeDiff, Nat.reduceAdd, m0 (show t < 32 by omega), m1 (show t < 32 by omega) hi, np_aft_v, np_ltn hi (show tx_len t < 1000 by omega), if_true, m166 (show n < 60 by omega) c1 c2 c3, nI_1, ih, rd_wr, show n + 1 + cnt = n + (cnt + 1) by omega]
theorem m167 {t : Nat} (ht : t < 24) {C : Nat → Nat → Int32} : np_X 167 0 [some (.ref 0), some (.ref (1000000 + t)), none] [] (np_S (np_rF F 0 p e q) L C fm k scr) = np_vo (.ref 0) (np_S (np_rF F (tx_len t) p e q) L (rd_wr C t 0 0 (tx_len t)) fm k scr) := by
  have hl := (tx_l t (by omega)).2
  have h := l167 (F := F) (L := L) (fm := fm) (k := k) (scr := scr) (p := p) (e := e) (q := q) ht (tx_len t) 0 (by omega) C 0 (by omega)
  rw [nI_0, Nat.zero_add] at h
  simp only [e167_0, e167_1n, e167_1i, e167_1r, e167_1v, e167_3, e167_3u, e167_4, e167_7, e167_10, e167_10u, e167_11, e167_11u, e167_12, e167_13, e167_16, e167_19, e167_19i, e167_20n, e167_20i, e167_20r, e167_20v, e167_23, e167_26, e167_26u, e167_27, e167_27u, h]
end
