/-! THE PURE PART, 15: a command. -/
theorem tx_f : ∀ i, i < 8 → nv_fv[i]? = some (.ref (1000200 + i)) := by decide
theorem tx_p : ∀ i, i < 8 → nv_patv[i]? = some (.ref (1000000 + (24 + i))) := by decide
theorem rd_mt_le {n t : Nat} : ∀ (cnt i : Nat) (C : Nat → Nat → Int32) (e q : Nat), (rd_mt C n t i cnt e q).2.1 ≤ e + 2 * cnt ∧ (rd_mt C n t i cnt e q).2.2.1 ≤ q + cnt
  | 0, i, C, e, q => ⟨Nat.le_refl _, Nat.le_refl _⟩
  | cnt + 1, i, C, e, q => by
    have h1 := rd_sgn_le (C := C) (n := n) (c := tx_ch t i) (e := e) (q := q)
    have h2 := rd_mt_le (n := n) (t := t) cnt (i + 1) (rd_sgn C n (tx_ch t i) e q).2.2.2 (rd_sgn C n (tx_ch t i) e q).2.1 (rd_sgn C n (tx_ch t i) e q).2.2.1
    unfold rd_mt
    split
    · exact ⟨by omega, by omega⟩
    · exact ⟨by omega, by omega⟩
abbrev rd_C : Type := Bool × Nat × Nat × Nat × Nat × (Nat → Nat → Int32)
abbrev rd_pat (C : Nat → Nat → Int32) (n p i : Nat) : rd_T := rd_mt C n (24 + i) 0 (tx_len (24 + i)) p 0
/-- found, the new position, the form, the match's end, numbers, rows -/
def rd_cmd (n p fm : Nat) : Nat → Nat → Nat → Nat → Nat → (Nat → Nat → Int32) → rd_C
  | _, 0, far, e, q, C => (false, far, fm, e, q, C)
  | i, cnt + 1, far, _, _, C => if (rd_pat C n p i).1 = true then (true, (rd_pat C n p i).2.1, i, (rd_pat C n p i).2.1, (rd_pat C n p i).2.2.1, (rd_pat C n p i).2.2.2) else rd_cmd n p fm (i + 1) cnt (max far (rd_pat C n p i).2.1) (rd_pat C n p i).2.1 (rd_pat C n p i).2.2.1 (rd_pat C n p i).2.2.2
section
variable {F : Nat → Nat → Int32} {L : Nat → Int64} {fm k : Nat} {scr : nv_Scr} {n p : Nat}
abbrev rd_co (F : Nat → Nat → Int32) (L : Nat → Int64) (k : Nat) (scr : nv_Scr) (n : Nat) (r : rd_C) : Option nv_Out := np_o (np_i r.1) (np_S (np_rF F n r.2.1 r.2.2.2.1 r.2.2.2.2.1) L r.2.2.2.2.2 r.2.2.1 k scr)
theorem np_mx {a b : Nat} (ha : a < 1000) (hb : b < 1000) : (if nI a < nI b then nI b else nI a) = nI (max a b) := by
  by_cases h : a < b
  · rw [if_pos (nI_lt h (by omega)), Nat.max_eq_right (by omega)]
  · rw [if_neg (nI_nlt (by omega) (by omega)), Nat.max_eq_left (by omega)]
theorem l18 (hn : n ≤ 60) (hp : p ≤ 60) : ∀ (cnt i : Nat), i + cnt = 8 → ∀ (C : Nat → Nat → Int32) (far e q : Nat) (l5 : Option Value), far ≤ 200 → np_X 18 15 [some (.ref 179), some (.int (nI far)), some (.ref 1000300), some (.int 8), some (.int (nI i)), l5] [] (np_S (np_rF F n p e q) L C fm k scr) = rd_co F L k scr n (rd_cmd n p fm i cnt far e q C)
  | 0, i, h, C, far, e, q, l5, hf => by
    obtain rfl : i = 8 := by omega
    rw [e18_15]
    simp only [e18_0, e18_0u, e18_1, e18_4n, e18_4i, e18_4r, e18_4v, e18_5, e18_8n, e18_8i, e18_8r, e18_8v, e18_8un, e18_8ui, e18_8ur, e18_8uv, e18_9, e18_9u, e18_10, e18_11n, e18_11i, e18_11r, e18_11v, e18_12, e18_13n, e18_13i, e18_13r, e18_13v, e18_17, e18_18, e18_21, e18_21u, e18_22, e18_24, e18_25n, e18_25i, e18_25r, e18_25v, e18_25un, e18_25ui, e18_25ur, e18_25uv, e18_27, e18_27u, e18_28, e18_28u, e18_30, e18_33, e18_36, e18_39, e18_39u, e18_40, e18_40u, e18_42, e18_45, e18_45u, e18_46, e18_46u, e18_47, e18_50, e18_53, e18_54, e18_55, e18_56, e18_56u, e18_57, e18_60, e18_63n, e18_63i, e18_63r, e18_63v, e18_64n, e18_64i, e18_64r, e18_64v, e18_67, e18_70, e18_70u, e18_71, e18_72, e18_75, e18_76, np_nlt8 (Nat.le_refl 8) (show 8 < 1000 by decide), if_false, stoC3, np_rFu3, np_b_s, np_nb0, rd_cmd]
    rfl
  | cnt + 1, i, h, C, far, e, q, l5, hf => by
    have hi : i < 8 := by omega
    have ht : 24 + i < 32 := by omega
    have hl := (tx_l (24 + i) ht).2
    have hb : (rd_pat C n p i).2.1 ≤ p + 2 * tx_len (24 + i) := (rd_mt_le (n := n) (t := 24 + i) (tx_len (24 + i)) 0 C p 0).1
    have h1 : ¬ 1000200 + i < 1000200 := by omega
    have hc : (nI i).toNatClampNeg = i := nI_clamp (by omega)
    have ih := l18 hn hp cnt (i + 1) (by omega) (rd_pat C n p i).2.2.2 (max far (rd_pat C n p i).2.1) (rd_pat C n p i).2.1 (rd_pat C n p i).2.2.1 (some (.ref (1000200 + i))) (by omega)
    have hm := np_mx (a := far) (b := (rd_pat C n p i).2.1) (by omega) (by omega)
    rw [e18_15]
    simp only [e18_0, e18_0u, e18_1, e18_4n, e18_4i, e18_4r, e18_4v, e18_5, e18_8n, e18_8i, e18_8r, e18_8v, e18_8un, e18_8ui, e18_8ur, e18_8uv, e18_9, e18_9u, e18_10, e18_11n, e18_11i, e18_11r, e18_11v, e18_12, e18_13n, e18_13i, e18_13r, e18_13v, e18_17, e18_18, e18_21, e18_21u, e18_22, e18_24, e18_25n, e18_25i, e18_25r, e18_25v, e18_25un, e18_25ui, e18_25ur, e18_25uv, e18_27, e18_27u, e18_28, e18_28u, e18_30, e18_33, e18_36, e18_39, e18_39u, e18_40, e18_40u, e18_42, e18_45, e18_45u, e18_46, e18_46u, e18_47, e18_50, e18_53, e18_54, e18_55, e18_56, e18_56u, e18_57, e18_60, e18_63n, e18_63i, e18_63r, e18_63v, e18_64n, e18_64i, e18_64r, e18_64v, e18_67, e18_70, e18_70u, e18_71, e18_72, e18_75, e18_76, np_lt8 hi, if_true, np_lt0 (show i < 1000 by omega), not_false_eq_true, hc, tx_f i hi, np_b_s, h1, Nat.add_sub_cancel_left, tx_p i hi, isoC, np_len0, m19 ht hn (show p ≤ 100 by omega), np_aft_v, np_i0, stoC6, fldC4, np_rF4, stoC3, np_rFu3, np_nb1, List.length_cons, List.length_nil, Nat.reduceLeDiff, Nat.reduceAdd, hm, nI_1, ih, rd_cmd]
    cases hr : (rd_pat C n p i).1 <;> simp [np_i]
theorem m18 (hn : n ≤ 60) (hp : p ≤ 60) {C : Nat → Nat → Int32} {e q : Nat} : np_X 18 0 [some (.ref 179), none, none, none, none, none] [] (np_S (np_rF F n p e q) L C fm k scr) = rd_co F L k scr n (rd_cmd n p fm 0 8 p e q C) := by
  have h := l18 (F := F) (L := L) (fm := fm) (k := k) (scr := scr) hn hp 8 0 rfl C p e q none (by omega)
  rw [nI_0] at h
  simp only [e18_0, e18_0u, e18_1, e18_4n, e18_4i, e18_4r, e18_4v, e18_5, e18_8n, e18_8i, e18_8r, e18_8v, e18_8un, e18_8ui, e18_8ur, e18_8uv, e18_9, e18_9u, e18_10, e18_11n, e18_11i, e18_11r, e18_11v, e18_12, e18_13n, e18_13i, e18_13r, e18_13v, e18_17, e18_18, e18_21, e18_21u, e18_22, e18_24, e18_25n, e18_25i, e18_25r, e18_25v, e18_25un, e18_25ui, e18_25ur, e18_25uv, e18_27, e18_27u, e18_28, e18_28u, e18_30, e18_33, e18_36, e18_39, e18_39u, e18_40, e18_40u, e18_42, e18_45, e18_45u, e18_46, e18_46u, e18_47, e18_50, e18_53, e18_54, e18_55, e18_56, e18_56u, e18_57, e18_60, e18_63n, e18_63i, e18_63r, e18_63v, e18_64n, e18_64i, e18_64r, e18_64v, e18_67, e18_70, e18_70u, e18_71, e18_72, e18_75, e18_76, fldC3, np_b_s, np_rF3, np_of8, h]
end
