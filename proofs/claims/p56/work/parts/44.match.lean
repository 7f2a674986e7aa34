/-! THE PURE PART, 14: a sign, a pattern. -/
abbrev rd_T : Type := Bool × Nat × Nat × (Nat → Nat → Int32)
def rd_num (C : Nat → Nat → Int32) (n m e q : Nat) : rd_T := if rd_dn C n m e = 0 then (false, e, q, C) else if q < 5 then (true, e + rd_dn C n m e, q + 1, np_uC C 181 q (rd_v C n m e)) else (false, e + rd_dn C n m e, q, C)
def rd_sgn (C : Nat → Nat → Int32) (n : Nat) (c : Int32) (e q : Nat) : rd_T := if c = 35 then rd_num C n 1 e q else if c = 37 then rd_num C n 2 e q else if sp_isa C n e c = true then (true, e + 1, q, C) else (false, e, q, C)
def rd_mt (C : Nat → Nat → Int32) (n t : Nat) : Nat → Nat → Nat → Nat → rd_T
  | _, 0, e, q => (true, e, q, C)
  | i, cnt + 1, e, q => if (rd_sgn C n (tx_ch t i) e q).1 = true then rd_mt (rd_sgn C n (tx_ch t i) e q).2.2.2 n t (i + 1) cnt (rd_sgn C n (tx_ch t i) e q).2.1 (rd_sgn C n (tx_ch t i) e q).2.2.1 else rd_sgn C n (tx_ch t i) e q
theorem rd_num_le {C : Nat → Nat → Int32} {n m e q : Nat} : (rd_num C n m e q).2.1 ≤ e + 2 ∧ (rd_num C n m e q).2.2.1 ≤ q + 1 := by
  have h : rd_dn C n m e ≤ 2 := by
    unfold rd_dn
    split
    · split
      · split <;> omega
      · omega
    · omega
  unfold rd_num
  split
  · exact ⟨by show e ≤ e + 2; omega, by show q ≤ q + 1; omega⟩
  · split
    · exact ⟨by show e + rd_dn C n m e ≤ e + 2; omega, Nat.le_refl _⟩
    · exact ⟨by show e + rd_dn C n m e ≤ e + 2; omega, by show q ≤ q + 1; omega⟩
theorem rd_sgn_le {C : Nat → Nat → Int32} {n e q : Nat} {c : Int32} : (rd_sgn C n c e q).2.1 ≤ e + 2 ∧ (rd_sgn C n c e q).2.2.1 ≤ q + 1 := by
  unfold rd_sgn
  split
  · exact rd_num_le
  · split
    · exact rd_num_le
    · split
      · exact ⟨by show e + 1 ≤ e + 2; omega, by show q ≤ q + 1; omega⟩
      · exact ⟨by show e ≤ e + 2; omega, by show q ≤ q + 1; omega⟩
section
variable {F : Nat → Nat → Int32} {L : Nat → Int64} {C : Nat → Nat → Int32} {fm k : Nat} {scr : nv_Scr} {n p e q : Nat}
/-- the outcome of a match, as a state -/
abbrev rd_o (F : Nat → Nat → Int32) (L : Nat → Int64) (fm k : Nat) (scr : nv_Scr) (n p : Nat) (r : rd_T) : Option nv_Out := np_o (np_i r.1) (np_S (np_rF F n p r.2.1 r.2.2.1) L r.2.2.2 fm k scr)
theorem m21' {m : Nat} (hm : m = 1 ∨ m = 2) (hn : n ≤ 60) (he : e < 900) (hq : q < 1000) : np_X 21 0 [some (.ref 179), some (.int (nI m)), none, none] [] (np_S (np_rF F n p e q) L C fm k scr) = rd_o F L fm k scr n p (rd_num C n m e q) := by
  rw [m21 hm hn he hq]
  unfold rd_num
  by_cases h : rd_dn C n m e = 0
  · rw [if_pos h, if_pos h]; rfl
  · rw [if_neg h, if_neg h]
    by_cases h2 : q < 5
    · rw [if_pos h2, if_pos h2]; rfl
    · rw [if_neg h2, if_neg h2]; rfl
theorem m20 {c : Int32} (hn : n ≤ 60) (he : e < 900) (hq : q < 1000) : np_X 20 0 [some (.ref 179), some (.int c)] [] (np_S (np_rF F n p e q) L C fm k scr) = rd_o F L fm k scr n p (rd_sgn C n c e q) := by
  have e1 : (1 : Int32) = nI 1 := rfl
  have e2 : (2 : Int32) = nI 2 := rfl
  have n1 := m21' (F := F) (L := L) (C := C) (fm := fm) (k := k) (scr := scr) (p := p) (m := 1) (Or.inl rfl) hn he hq
  have n2 := m21' (F := F) (L := L) (C := C) (fm := fm) (k := k) (scr := scr) (p := p) (m := 2) (Or.inr rfl) hn he hq
  rw [← e1] at n1
  rw [← e2] at n2
  unfold rd_sgn
  by_cases h1 : c = 35
  · have h2 : ¬ (35 : Int32) = 37 := by decide
    subst h1
    simp only [e20_0, e20_1, e20_3, e20_6, e20_7, e20_9, e20_12, e20_12u, e20_13, e20_14, e20_16, e20_19, e20_20, e20_23, e20_24, e20_27, e20_28, e20_28u, e20_29, e20_29u, e20_30, e20_33, e20_34, e20_37, e20_40, e20_41, e20_42, e20_42u, e20_43, e20_43i, e20_44, e20_47, e20_48, e20_49, e20_52, e20_53, if_true, h2, if_false, isoC, np_len0, n1, np_aft_v, np_nb]
  · by_cases h2 : c = 37
    · subst h2
      have h3 : ¬ (37 : Int32) = 35 := by decide
      simp only [e20_0, e20_1, e20_3, e20_6, e20_7, e20_9, e20_12, e20_12u, e20_13, e20_14, e20_16, e20_19, e20_20, e20_23, e20_24, e20_27, e20_28, e20_28u, e20_29, e20_29u, e20_30, e20_33, e20_34, e20_37, e20_40, e20_41, e20_42, e20_42u, e20_43, e20_43i, e20_44, e20_47, e20_48, e20_49, e20_52, e20_53, h3, if_true, if_false, isoC, np_len0, n2, np_aft_v, np_nb]
    · simp only [e20_0, e20_1, e20_3, e20_6, e20_7, e20_9, e20_12, e20_12u, e20_13, e20_14, e20_16, e20_19, e20_20, e20_23, e20_24, e20_27, e20_28, e20_28u, e20_29, e20_29u, e20_30, e20_33, e20_34, e20_37, e20_40, e20_41, e20_42, e20_42u, e20_43, e20_43i, e20_44, e20_47, e20_48, e20_49, e20_52, e20_53, h1, h2, if_false, fldC4, np_b_s, np_rF4, isoC, np_len0, m23 (show e < 1000 by omega) hn (np_rF2 (F := F) (p := p) (e := e) (q := q)), np_aft_v, np_i0, nI_1, stoC4, np_rFu4, np_nb0, np_nb1]
      cases sp_isa C n e c <;> simp [np_i]
theorem l19 {t : Nat} (ht : t < 32) (hn : n ≤ 60) : ∀ (cnt i : Nat), i + cnt = tx_len t → ∀ (C : Nat → Nat → Int32) (e q : Nat), e + 2 * cnt < 900 → q + cnt < 1000 → np_X 19 15 [some (.ref 179), some (.ref (1000000 + t)), some (.int (nI i))] [] (np_S (np_rF F n p e q) L C fm k scr) = rd_o F L fm k scr n p (rd_mt C n t i cnt e q)
  | 0, i, h, C, e, q, he, hq => by
    have hl := (tx_l t ht).2
    have h3 : 1000000 ≤ 1000000 + t := by omega
    have h4 : 1000000 + t < 1000032 := by omega
    obtain rfl : i = tx_len t := by omega
    rw [e19_15]
    simp only [e19_0, e19_0u, e19_1, e19_1u, e19_2, e19_5, e19_8, e19_8u, e19_9, e19_10, e19_13, e19_14n, e19_14i, e19_14r, e19_14v, e19_16, e19_16u, e19_17, e19_20, e19_23, e19_23u, e19_24, e19_24u, e19_25, e19_26, e19_29, e19_32, e19_35, e19_36, e19_37n, e19_37i, e19_37r, e19_37v, e19_40, e19_43, e19_44, h3, h4, List.length_cons, List.length_nil, Nat.reduceLeDiff, Nat.reduceAdd, m0 ht, np_aft_v, np_nltn (show ¬ tx_len t < tx_len t by omega) (show tx_len t < 1000 by omega), if_false, np_nb1, rd_mt]
    rfl
  | cnt + 1, i, h, C, e, q, he, hq => by
    have hl := (tx_l t ht).2
    have h3 : 1000000 ≤ 1000000 + t := by omega
    have h4 : 1000000 + t < 1000032 := by omega
    have hi : i < tx_len t := by omega
    have hle := rd_sgn_le (C := C) (n := n) (c := tx_ch t i) (e := e) (q := q)
    have ih := l19 ht hn cnt (i + 1) (by omega) (rd_sgn C n (tx_ch t i) e q).2.2.2 (rd_sgn C n (tx_ch t i) e q).2.1 (rd_sgn C n (tx_ch t i) e q).2.2.1 (by omega) (by omega)
    rw [e19_15]
    simp only [e19_0, e19_0u, e19_1, e19_1u, e19_2, e19_5, e19_8, e19_8u, e19_9, e19_10, e19_13, e19_14n, e19_14i, e19_14r, e19_14v, e19_16, e19_16u, e19_17, e19_20, e19_23, e19_23u, e19_24, e19_24u, e19_25, e19_26, e19_29, e19_32, e19_35, e19_36, e19_37n, e19_37i, e19_37r, e19_37v, e19_40, e19_43, e19_44, h3, h4, isoC, np_len0, List.length_cons, List.length_nil, Nat.reduceLeDiff, Nat.reduceAdd, m0 ht, m1 ht hi, np_aft_v, np_ltn hi (show tx_len t < 1000 by omega), if_true, m20 hn (show e < 900 by omega) (show q < 1000 by omega), np_i0, nI_1, ih, np_nb0, rd_mt]
    generalize rd_sgn C n (tx_ch t i) e q = r
    obtain ⟨b, e', q', C'⟩ := r
    cases b <;> simp [np_i]
theorem m19 {t : Nat} (ht : t < 32) (hn : n ≤ 60) (hp : p ≤ 100) : np_X 19 0 [some (.ref 179), some (.ref (1000000 + t)), none] [] (np_S (np_rF F n p e q) L C fm k scr) = rd_o F L fm k scr n p (rd_mt C n t 0 (tx_len t) p 0) := by
  have hl := (tx_l t ht).2
  have h := l19 (F := F) (L := L) (fm := fm) (k := k) (scr := scr) (p := p) ht hn (tx_len t) 0 (by omega) C p 0 (by omega) (by omega)
  rw [nI_0] at h
  have h5 : np_u (np_rF F n p p q) 179 5 0 = np_rF F n p p 0 := np_rFu5 (q' := 0)
  simp only [e19_0, e19_0u, e19_1, e19_1u, e19_2, e19_5, e19_8, e19_8u, e19_9, e19_10, e19_13, e19_14n, e19_14i, e19_14r, e19_14v, e19_16, e19_16u, e19_17, e19_20, e19_23, e19_23u, e19_24, e19_24u, e19_25, e19_26, e19_29, e19_32, e19_35, e19_36, e19_37n, e19_37i, e19_37r, e19_37v, e19_40, e19_43, e19_44, fldC3, np_b_s, np_rF3, stoC4, np_rFu4, stoC5, h5, h]
end
