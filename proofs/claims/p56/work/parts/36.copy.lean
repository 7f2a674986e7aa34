/-! THE PURE PART, 6: one game copied into another; the history. -/
section
variable {F : Nat → Nat → Int32} {L : Nat → Int64} {C : Nat → Nat → Int32} {fm k : Nat} {scr : nv_Scr}
/-- spoon a gets what spoon c has, but for its number -/
def np_csp (F : Nat → Nat → Int32) (a c : Nat) : Nat → Nat → Int32 := fun x j => if x = a ∧ 1 ≤ j ∧ j ≤ 8 then F c j else F x j
theorem m61 {a c : Nat} (ha : np_isS a) (hc : np_isS c) (hne : ¬ c = a) : np_X 61 0 [some (.ref a), some (.ref c)] [] (np_S F L C fm k scr) = some (.inl none, np_S (np_csp F a c) L C fm k scr) := by
  simp only [e61_0, e61_0u, e61_1, e61_1u, e61_2, e61_5, e61_8, e61_8u, e61_9, e61_9u, e61_10, e61_13, e61_16, e61_16u, e61_17, e61_17u, e61_18, e61_21, e61_24, e61_24u, e61_25, e61_25u, e61_26, e61_29, e61_32, e61_32u, e61_33, e61_33u, e61_34, e61_37, e61_40, e61_40u, e61_41, e61_41u, e61_42, e61_45, e61_48, e61_48u, e61_49, e61_49u, e61_50, e61_53, e61_56, e61_56u, e61_57, e61_57u, e61_58, e61_61, e61_64, fldS hc (show 1 < 9 by decide), fldS hc (show 2 < 9 by decide), fldS hc (show 3 < 9 by decide), fldS hc (show 4 < 9 by decide), fldS hc (show 5 < 9 by decide), fldS hc (show 6 < 9 by decide), fldS hc (show 7 < 9 by decide), fldS hc (show 8 < 9 by decide), stoS ha (show 1 < 9 by decide), stoS ha (show 2 < 9 by decide), stoS ha (show 3 < 9 by decide), stoS ha (show 4 < 9 by decide), stoS ha (show 5 < 9 by decide), stoS ha (show 6 < 9 by decide), stoS ha (show 7 < 9 by decide), stoS ha (show 8 < 9 by decide), np_b_s, np_u_a hne]
  congr 3
  funext x j
  by_cases hx : x = a
  · subst hx
    match j with
    | 0 => simp [np_u, np_csp]
    | 1 => simp [np_u, np_csp]
    | 2 => simp [np_u, np_csp]
    | 3 => simp [np_u, np_csp]
    | 4 => simp [np_u, np_csp]
    | 5 => simp [np_u, np_csp]
    | 6 => simp [np_u, np_csp]
    | 7 => simp [np_u, np_csp]
    | 8 => simp [np_u, np_csp]
    | n + 9 => simp [np_u, np_csp]
  · simp [np_u, np_csp, hx]
def np_cac (F : Nat → Nat → Int32) (a c : Nat) : Nat → Nat → Int32 := fun x j => if x = a ∧ j < 8 then F c j else F x j
theorem m9 {a c : Nat} (ha : np_isA a) (hc : np_isA c) (hne : ¬ c = a) : np_X 9 0 [some (.ref a), some (.ref c)] [] (np_S F L C fm k scr) = some (.inl none, np_S (np_cac F a c) L C fm k scr) := by
  simp only [e9_0, e9_0u, e9_1, e9_1u, e9_2, e9_5, e9_8, e9_8u, e9_9, e9_9u, e9_10, e9_13, e9_16, e9_16u, e9_17, e9_17u, e9_18, e9_21, e9_24, e9_24u, e9_25, e9_25u, e9_26, e9_29, e9_32, e9_32u, e9_33, e9_33u, e9_34, e9_37, e9_40, e9_40u, e9_41, e9_41u, e9_42, e9_45, e9_48, e9_48u, e9_49, e9_49u, e9_50, e9_53, e9_56, e9_56u, e9_57, e9_57u, e9_58, e9_61, e9_64, fldA hc (show 0 < 8 by decide), fldA hc (show 1 < 8 by decide), fldA hc (show 2 < 8 by decide), fldA hc (show 3 < 8 by decide), fldA hc (show 4 < 8 by decide), fldA hc (show 5 < 8 by decide), fldA hc (show 6 < 8 by decide), fldA hc (show 7 < 8 by decide), stoA ha (show 0 < 8 by decide), stoA ha (show 1 < 8 by decide), stoA ha (show 2 < 8 by decide), stoA ha (show 3 < 8 by decide), stoA ha (show 4 < 8 by decide), stoA ha (show 5 < 8 by decide), stoA ha (show 6 < 8 by decide), stoA ha (show 7 < 8 by decide), np_b_s, np_u_a hne]
  congr 3
  funext x j
  by_cases hx : x = a
  · subst hx
    match j with
    | 0 => simp [np_u, np_cac]
    | 1 => simp [np_u, np_cac]
    | 2 => simp [np_u, np_cac]
    | 3 => simp [np_u, np_cac]
    | 4 => simp [np_u, np_cac]
    | 5 => simp [np_u, np_cac]
    | 6 => simp [np_u, np_cac]
    | 7 => simp [np_u, np_cac]
    | n + 8 =>
      simp [np_u, np_cac]
      intro h
      omega
  · simp [np_u, np_cac, hx]
/-- the first i spoons copied from the game c into the game b -/
def np_cpi (F : Nat → Nat → Int32) (b c i : Nat) : Nat → Nat → Int32 := fun x j => if b + 4 ≤ x ∧ x < b + 4 + i ∧ 1 ≤ j ∧ j ≤ 8 then F (c + (x - b)) j else F x j
theorem np_apart {b c r r' : Nat} (hb : np_B b) (hc : np_B c) (hne : ¬ b = c) (hr : r < 16) (hr' : r' < 16) : ¬ c + r = b + r' := fun h => hne (np_B_eq hb hc hr' hr h.symm).1
theorem np_cpi_s {b c i : Nat} (hb : np_B b) (hc : np_B c) (hne : ¬ b = c) (hi : i < 12) : np_csp (np_cpi F b c i) (b + 4 + i) (c + 4 + i) = np_cpi F b c (i + 1) := by
  funext x j
  have hap : ∀ r, r < 16 → ¬ (b + 4 ≤ c + 4 + i ∧ c + 4 + i < b + 4 + i ∧ 1 ≤ j ∧ j ≤ 8) := by
    intro r _ h
    have := np_apart hb hc hne (r := 4 + i) (r' := c + 4 + i - b) (by omega) (by omega)
    omega
  unfold np_csp np_cpi
  by_cases hx : x = b + 4 + i
  · subst hx
    by_cases hj : 1 ≤ j ∧ j ≤ 8
    · rw [if_pos ⟨rfl, hj⟩, if_neg (hap 0 (by omega)), if_pos ⟨by omega, by omega, hj⟩, show c + (b + 4 + i - b) = c + 4 + i by omega]
    · rw [if_neg (fun h => hj h.2), if_neg (fun h => hj h.2.2), if_neg (fun h => hj h.2.2)]
  · rw [if_neg (fun h => hx h.1)]
    by_cases h2 : b + 4 ≤ x ∧ x < b + 4 + i ∧ 1 ≤ j ∧ j ≤ 8
    · rw [if_pos h2, if_pos ⟨h2.1, by omega, h2.2.2⟩]
    · rw [if_neg h2, if_neg (fun h => h2 ⟨h.1, by omega, h.2.2⟩)]
/-- the game c copied into the game b -/
def np_cp (F : Nat → Nat → Int32) (b c : Nat) : Nat → Nat → Int32 := fun x j =>
  if b ≤ x ∧ x < b + 16 ∧ ((x = b ∧ 3 ≤ j ∧ j < 12 ∧ ¬ j = 10) ∨ ((x = b + 2 ∨ x = b + 3) ∧ j < 8) ∨ (b + 4 ≤ x ∧ 1 ≤ j ∧ j ≤ 8)) then F (c + (x - b)) j else F x j
theorem np_rdR' {b i : Nat} (hb : np_B b) (hi : i < 12) : nv_rdq (np_S F L C fm k scr) 2 (b + 1) (nI i) = some (.ref (b + 4 + i)) := rdR hb hi
theorem l27 {b c : Nat} (hb : np_B b) (hc : np_B c) (hne : ¬ b = c) : ∀ (n i : Nat), i + n = 12 → np_X 27 2 [some (.ref b), some (.ref c), some (.int (nI i))] [] (np_S (np_cpi F b c i) L C fm k scr) = np_X 27 41 [some (.ref b), some (.ref c), some (.int (nI 12))] [] (np_S (np_cpi F b c 12) L C fm k scr)
  | 0, i, h => by
    obtain rfl : i = 12 := by omega
    rw [e27_2]
    simp only [e27_0, e27_1n, e27_1i, e27_1r, e27_1v, e27_3, e27_3u, e27_4, e27_7, e27_8, e27_11, e27_12, e27_12u, e27_13, e27_16, e27_17, e27_20, e27_20u, e27_21, e27_24, e27_25, e27_26, e27_26u, e27_27, e27_30, e27_31, e27_32, e27_35n, e27_35i, e27_35r, e27_35v, e27_38, e27_42, e27_45, e27_45u, e27_46, e27_49, e27_52, e27_52u, e27_53, e27_56, e27_56u, e27_57, e27_60, e27_63, e27_63u, e27_64, e27_64u, e27_65, e27_68, e27_71, e27_71u, e27_72, e27_72u, e27_73, e27_76, e27_79, e27_79u, e27_80, e27_80u, e27_81, e27_84, e27_87, e27_87u, e27_88, e27_88u, e27_89, e27_92, e27_95, e27_95u, e27_96, e27_96u, e27_97, e27_100, e27_103, e27_103u, e27_104, e27_104u, e27_105, e27_108, e27_111, e27_111u, e27_112, e27_112u, e27_113, e27_116, e27_119, e27_119u, e27_120, e27_120u, e27_121, e27_124, e27_127, e27_127u, e27_128, e27_128u, e27_129, e27_132, e27_135, fldG0 hb, np_b_s, lenR hb, np_of12, np_nlt12, if_false]
  | n + 1, i, h => by
    have hi : i < 12 := by omega
    have ih := l27 hb hc hne n (i + 1) (by omega)
    have hne2 : ¬ c + 4 + i = b + 4 + i := by omega
    rw [e27_2]
    simp only [e27_0, e27_1n, e27_1i, e27_1r, e27_1v, e27_3, e27_3u, e27_4, e27_7, e27_8, e27_11, e27_12, e27_12u, e27_13, e27_16, e27_17, e27_20, e27_20u, e27_21, e27_24, e27_25, e27_26, e27_26u, e27_27, e27_30, e27_31, e27_32, e27_35n, e27_35i, e27_35r, e27_35v, e27_38, e27_42, e27_45, e27_45u, e27_46, e27_49, e27_52, e27_52u, e27_53, e27_56, e27_56u, e27_57, e27_60, e27_63, e27_63u, e27_64, e27_64u, e27_65, e27_68, e27_71, e27_71u, e27_72, e27_72u, e27_73, e27_76, e27_79, e27_79u, e27_80, e27_80u, e27_81, e27_84, e27_87, e27_87u, e27_88, e27_88u, e27_89, e27_92, e27_95, e27_95u, e27_96, e27_96u, e27_97, e27_100, e27_103, e27_103u, e27_104, e27_104u, e27_105, e27_108, e27_111, e27_111u, e27_112, e27_112u, e27_113, e27_116, e27_119, e27_119u, e27_120, e27_120u, e27_121, e27_124, e27_127, e27_127u, e27_128, e27_128u, e27_129, e27_132, e27_135, fldG0 hb, fldG0 hc, np_b_s, lenR hb, lenR hc, np_of12, np_lt12 hi, if_true, rdR hb hi, rdR hc hi, isoS (np_isSb hb hi), np_len0, m61 (np_isSb hb hi) (np_isSb hc hi) hne2, np_aft_u, nI_1, np_cpi_s hb hc hne hi, ih]
theorem np_cpi0 {b c : Nat} : np_cpi F b c 0 = F := by
  funext x j
  exact if_neg (by omega)
theorem m27 {b c : Nat} (hb : np_B b) (hc : np_B c) (hne : ¬ b = c) (hB : F c 4 = 0 ∨ F c 4 = 1) : np_X 27 0 [some (.ref b), some (.ref c), none] [] (np_S F L C fm k scr) = some (.inl none, np_S (np_cp F b c) (np_uL L b (L c)) C fm k scr) := by
  have h := l27 (F := F) (L := L) (C := C) (fm := fm) (k := k) (scr := scr) hb hc hne 12 0 rfl
  rw [nI_0, np_cpi0] at h
  have l1 := np_B_lt hb
  have l2 := np_B_lt hc
  have ap : ∀ r r', r < 16 → r' < 16 → ¬ c + r = b + r' := fun r r' h h' => np_apart hb hc hne h h'
  have hr : ∀ (r j : Nat), r < 16 → np_cpi F b c 12 (c + r) j = F (c + r) j := by
    intro r j hr
    refine if_neg fun q => ?_
    have := ap r (c + r - b) hr (by omega)
    omega
  have hr0 : ∀ j, np_cpi F b c 12 c j = F c j := fun j => hr 0 j (by omega)
  have hx2 : ∀ j, np_cac (np_cpi F b c 12) (b + 2) (c + 2) (c + 3) j = F (c + 3) j := fun j => by
    unfold np_cac
    rw [if_neg (fun q => ap 3 2 (by omega) (by omega) q.1), hr 3 j (by omega)]
  have hx3 : ∀ j, np_cac (np_cac (np_cpi F b c 12) (b + 2) (c + 2)) (b + 3) (c + 3) c j = F c j := fun j => by
    unfold np_cac
    rw [if_neg (fun q => ap 0 3 (by omega) (by omega) q.1), if_neg (fun q => ap 0 2 (by omega) (by omega) q.1), hr0]
  have hcb : ¬ c = b := fun h => hne h.symm
  simp only [e27_0, e27_1n, e27_1i, e27_1r, e27_1v, e27_3, e27_3u, e27_4, e27_7, e27_8, e27_11, e27_12, e27_12u, e27_13, e27_16, e27_17, e27_20, e27_20u, e27_21, e27_24, e27_25, e27_26, e27_26u, e27_27, e27_30, e27_31, e27_32, e27_35n, e27_35i, e27_35r, e27_35v, e27_38, e27_42, e27_45, e27_45u, e27_46, e27_49, e27_52, e27_52u, e27_53, e27_56, e27_56u, e27_57, e27_60, e27_63, e27_63u, e27_64, e27_64u, e27_65, e27_68, e27_71, e27_71u, e27_72, e27_72u, e27_73, e27_76, e27_79, e27_79u, e27_80, e27_80u, e27_81, e27_84, e27_87, e27_87u, e27_88, e27_88u, e27_89, e27_92, e27_95, e27_95u, e27_96, e27_96u, e27_97, e27_100, e27_103, e27_103u, e27_104, e27_104u, e27_105, e27_108, e27_111, e27_111u, e27_112, e27_112u, e27_113, e27_116, e27_119, e27_119u, e27_120, e27_120u, e27_121, e27_124, e27_127, e27_127u, e27_128, e27_128u, e27_129, e27_132, e27_135, h]
  rw [e27_41]
  simp only [e27_0, e27_1n, e27_1i, e27_1r, e27_1v, e27_3, e27_3u, e27_4, e27_7, e27_8, e27_11, e27_12, e27_12u, e27_13, e27_16, e27_17, e27_20, e27_20u, e27_21, e27_24, e27_25, e27_26, e27_26u, e27_27, e27_30, e27_31, e27_32, e27_35n, e27_35i, e27_35r, e27_35v, e27_38, e27_42, e27_45, e27_45u, e27_46, e27_49, e27_52, e27_52u, e27_53, e27_56, e27_56u, e27_57, e27_60, e27_63, e27_63u, e27_64, e27_64u, e27_65, e27_68, e27_71, e27_71u, e27_72, e27_72u, e27_73, e27_76, e27_79, e27_79u, e27_80, e27_80u, e27_81, e27_84, e27_87, e27_87u, e27_88, e27_88u, e27_89, e27_92, e27_95, e27_95u, e27_96, e27_96u, e27_97, e27_100, e27_103, e27_103u, e27_104, e27_104u, e27_105, e27_108, e27_111, e27_111u, e27_112, e27_112u, e27_113, e27_116, e27_119, e27_119u, e27_120, e27_120u, e27_121, e27_124, e27_127, e27_127u, e27_128, e27_128u, e27_129, e27_132, e27_135, fldG1 hb, fldG1 hc, fldG2 hb, fldG2 hc, np_b_s, isoA (np_isAb2 hb), isoA (np_isAb3 hb), np_len0, m9 (np_isAb2 hb) (np_isAb2 hc) (ap 2 2 (by omega) (by omega)), m9 (np_isAb3 hb) (np_isAb3 hc) (ap 3 3 (by omega) (by omega)), np_aft_u, fldG hc (show 3 ≤ 3 ∧ 3 < 12 ∧ ¬ 3 = 10 by decide), stoG hb (show 3 ≤ 3 ∧ 3 < 12 ∧ ¬ 3 = 10 by decide), fldG hc (show 3 ≤ 4 ∧ 4 < 12 ∧ ¬ 4 = 10 by decide),
    np_u_a hcb, stoG4 hb hB, fldG hc (show 3 ≤ 5 ∧ 5 < 12 ∧ ¬ 5 = 10 by decide), stoG hb (show 3 ≤ 5 ∧ 5 < 12 ∧ ¬ 5 = 10 by decide), fldG hc (show 3 ≤ 6 ∧ 6 < 12 ∧ ¬ 6 = 10 by decide), stoG hb (show 3 ≤ 6 ∧ 6 < 12 ∧ ¬ 6 = 10 by decide), fldG hc (show 3 ≤ 7 ∧ 7 < 12 ∧ ¬ 7 = 10 by decide), stoG hb (show 3 ≤ 7 ∧ 7 < 12 ∧ ¬ 7 = 10 by decide), fldG hc (show 3 ≤ 8 ∧ 8 < 12 ∧ ¬ 8 = 10 by decide), stoG hb (show 3 ≤ 8 ∧ 8 < 12 ∧ ¬ 8 = 10 by decide), fldG hc (show 3 ≤ 9 ∧ 9 < 12 ∧ ¬ 9 = 10 by decide), stoG hb (show 3 ≤ 9 ∧ 9 < 12 ∧ ¬ 9 = 10 by decide), fldG10 hc, stoG10 hb, fldG hc (show 3 ≤ 11 ∧ 11 < 12 ∧ ¬ 11 = 10 by decide), stoG hb (show 3 ≤ 11 ∧ 11 < 12 ∧ ¬ 11 = 10 by decide), hx3]
  congr 3
  funext x j
  unfold np_cp
  by_cases h0 : x = b
  · subst h0
    have e : np_cac (np_cac (np_cpi F x c 12) (x + 2) (c + 2)) (x + 3) (c + 3) x j = F x j := by
      unfold np_cac np_cpi
      rw [if_neg (by omega), if_neg (by omega), if_neg (by omega)]
    by_cases hj : 3 ≤ j ∧ j < 12 ∧ ¬ j = 10
    · rw [if_pos ⟨by omega, by omega, Or.inl ⟨rfl, hj⟩⟩, show c + (x - x) = c by omega]
      match j, hj with
      | 3, _ => simp [np_u]
      | 4, _ => simp [np_u]
      | 5, _ => simp [np_u]
      | 6, _ => simp [np_u]
      | 7, _ => simp [np_u]
      | 8, _ => simp [np_u]
      | 9, _ => simp [np_u]
      | 11, _ => simp [np_u]
      | 0, h => omega
      | 1, h => omega
      | 2, h => omega
      | 10, h => omega
      | n + 12, h => omega
    · rw [if_neg (by omega), np_u_k (by omega), np_u_k (by omega), np_u_k (by omega), np_u_k (by omega), np_u_k (by omega), np_u_k (by omega), np_u_k (by omega), np_u_k (by omega)]
      exact e
  · rw [np_u_a h0, np_u_a h0, np_u_a h0, np_u_a h0, np_u_a h0, np_u_a h0, np_u_a h0, np_u_a h0]
    by_cases h3 : x = b + 3
    · subst h3
      by_cases hj : j < 8
      · rw [np_cac, if_pos ⟨rfl, hj⟩, hx2, if_pos ⟨by omega, by omega, Or.inr (Or.inl ⟨Or.inr rfl, hj⟩)⟩, show c + (b + 3 - b) = c + 3 by omega]
      · rw [np_cac, if_neg (by omega), np_cac, if_neg (by omega), np_cpi, if_neg (by omega), if_neg (by omega)]
    · rw [np_cac, if_neg (by omega)]
      by_cases h2 : x = b + 2
      · subst h2
        by_cases hj : j < 8
        · rw [np_cac, if_pos ⟨rfl, hj⟩, hr 2 j (by omega), if_pos ⟨by omega, by omega, Or.inr (Or.inl ⟨Or.inl rfl, hj⟩)⟩, show c + (b + 2 - b) = c + 2 by omega]
        · rw [np_cac, if_neg (by omega), np_cpi, if_neg (by omega), if_neg (by omega)]
      · rw [np_cac, if_neg (by omega)]
        unfold np_cpi
        by_cases h4 : b + 4 ≤ x ∧ x < b + 4 + 12 ∧ 1 ≤ j ∧ j ≤ 8
        · rw [if_pos h4, if_pos ⟨by omega, by omega, Or.inr (Or.inr ⟨h4.1, h4.2.2⟩)⟩]
        · rw [if_neg h4, if_neg (by omega)]
end
