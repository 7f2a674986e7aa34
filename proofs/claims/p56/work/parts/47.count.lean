/-! THE PURE PART, 17: how many commands a text has. -/
theorem rd_cmd_le {n p fm : Nat} (hp : p ≤ 60) : ∀ (cnt i : Nat), i + cnt = 8 → ∀ (far e q : Nat) (C : Nat → Nat → Int32), far ≤ 200 → (rd_cmd n p fm i cnt far e q C).2.1 ≤ 200
  | 0, i, h, far, e, q, C, hf => hf
  | cnt + 1, i, h, far, e, q, C, hf => by
    have hl := (tx_l (24 + i) (by omega)).2
    have hb : (rd_pat C n p i).2.1 ≤ p + 2 * tx_len (24 + i) := (rd_mt_le (n := n) (t := 24 + i) (tx_len (24 + i)) 0 C p 0).1
    unfold rd_cmd
    split
    · show (rd_pat C n p i).2.1 ≤ 200
      omega
    · exact rd_cmd_le hp cnt (i + 1) (by omega) _ _ _ _ (by omega)
abbrev rd_N : Type := Int32 × Nat × Nat × Nat × Nat × (Nat → Nat → Int32)
abbrev rd_one (C : Nat → Nat → Int32) (n p e q fm : Nat) : rd_C := rd_cmd n p fm 0 8 p e q C
/-- the count, position, form, the match's end, numbers, rows -/
def rd_cnt (n : Nat) : Nat → Nat → Nat → Nat → Nat → Nat → (Nat → Nat → Int32) → rd_N
  | 0, _, p, e, q, fm, C => (-1, p, fm, e, q, C)
  | m + 1, c, p, e, q, fm, C => if (rd_one C n p e q fm).1 = true then (if (rd_one C n p e q fm).2.1 = n then (nI c, (rd_one C n p e q fm).2) else if sp_isa (rd_one C n p e q fm).2.2.2.2.2 n (rd_one C n p e q fm).2.1 59 = true then rd_cnt n m (c + 1) ((rd_one C n p e q fm).2.1 + 1) (rd_one C n p e q fm).2.2.2.1 (rd_one C n p e q fm).2.2.2.2.1 (rd_one C n p e q fm).2.2.1 (rd_one C n p e q fm).2.2.2.2.2 else (-1, (rd_one C n p e q fm).2)) else (-1, (rd_one C n p e q fm).2)
theorem np_60lt {i : Nat} (h : i ≤ 60) : (60 < nI i) = False := eq_false (nI_nlt (a := 60) (b := i) h (by decide))
theorem np_60lt' : (60 < nI 61) = True := by decide
theorem np_eqn {a b : Nat} (ha : a < 1000) (hb : b < 1000) : (nI a = nI b) = (a = b) := propext (nI_eq (by omega) (by omega))
section
variable {F : Nat → Nat → Int32} {L : Nat → Int64} {k : Nat} {scr : nv_Scr} {n : Nat}
abbrev rd_no (F : Nat → Nat → Int32) (L : Nat → Int64) (k : Nat) (scr : nv_Scr) (n : Nat) (r : rd_N) : Option nv_Out := np_o r.1 (np_S (np_rF F n r.2.1 r.2.2.2.1 r.2.2.2.2.1) L r.2.2.2.2.2 r.2.2.1 k scr)
theorem l16 (hn : n ≤ 60) : ∀ (m c : Nat), c + m = 61 → ∀ (p e q fm : Nat) (C : Nat → Nat → Int32), p ≤ 60 → np_X 16 6 [some (.ref 179), some (.int (nI c))] [] (np_S (np_rF F n p e q) L C fm k scr) = rd_no F L k scr n (rd_cnt n m c p e q fm C)
  | 0, c, h, p, e, q, fm, C, hp => by
    obtain rfl : c = 61 := by omega
    rw [e16_6]
    simp only [e16_0, e16_0u, e16_1, e16_4, e16_5n, e16_5i, e16_5r, e16_5v, e16_7, e16_9, e16_12, e16_12u, e16_13, e16_16, e16_19, e16_20, e16_21, e16_21u, e16_22, e16_25, e16_25u, e16_26, e16_29, e16_32, e16_33, e16_34, e16_34u, e16_35, e16_38, e16_41, e16_42, e16_43n, e16_43i, e16_43r, e16_43v, e16_46, e16_49, e16_50, np_60lt', if_true, np_ni, rd_cnt]
  | m + 1, c, h, p, e, q, fm, C, hp => by
    have ho : np_X 18 0 [some (.ref 179), none, none, none, none, none] [] (np_S (np_rF F n p e q) L C fm k scr) = rd_co F L k scr n (rd_one C n p e q fm) := m18 hn hp
    have hb : (rd_one C n p e q fm).2.1 ≤ 200 := rd_cmd_le (n := n) (fm := fm) hp 8 0 rfl p e q C (by omega)
    have ih := fun hp' => l16 hn m (c + 1) (by omega) ((rd_one C n p e q fm).2.1 + 1) (rd_one C n p e q fm).2.2.2.1 (rd_one C n p e q fm).2.2.2.2.1 (rd_one C n p e q fm).2.2.1 (rd_one C n p e q fm).2.2.2.2.2 hp'
    unfold rd_cnt
    rw [e16_6]
    generalize rd_one C n p e q fm = r at ho hb ih ⊢
    obtain ⟨b, p', f', e', q', C'⟩ := r
    dsimp only at ho hb ih ⊢
    have h17 := m17 (F := F) (L := L) (C := C') (fm := f') (k := k) (scr := scr) (p := p') (e := e') (q := q') hn (by omega)
    cases b with
    | false =>
      simp only [e16_0, e16_0u, e16_1, e16_4, e16_5n, e16_5i, e16_5r, e16_5v, e16_7, e16_9, e16_12, e16_12u, e16_13, e16_16, e16_19, e16_20, e16_21, e16_21u, e16_22, e16_25, e16_25u, e16_26, e16_29, e16_32, e16_33, e16_34, e16_34u, e16_35, e16_38, e16_41, e16_42, e16_43n, e16_43i, e16_43r, e16_43v, e16_46, e16_49, e16_50, np_60lt (show c ≤ 60 by omega), if_false, isoC, np_len0, ho, np_aft_v, np_i0, if_true, np_ni, Bool.false_eq_true]
    | true =>
      have et : (true = false) = False := by simp
      simp only [e16_0, e16_0u, e16_1, e16_4, e16_5n, e16_5i, e16_5r, e16_5v, e16_7, e16_9, e16_12, e16_12u, e16_13, e16_16, e16_19, e16_20, e16_21, e16_21u, e16_22, e16_25, e16_25u, e16_26, e16_29, e16_32, e16_33, e16_34, e16_34u, e16_35, e16_38, e16_41, e16_42, e16_43n, e16_43i, e16_43r, e16_43v, e16_46, e16_49, e16_50, np_60lt (show c ≤ 60 by omega), if_false, isoC, np_len0, ho, np_aft_v, np_i0, et, if_true, fldC3, fldC2, np_b_s, np_rF2, np_rF3, np_eqn (show p' < 1000 by omega) (show n < 1000 by omega), np_ni, h17, np_aft_if]
      by_cases h1 : p' = n
      · simp only [h1, if_true]
      · cases h2 : sp_isa C' n p' 59 with
        | false => 
          simp only [h1, if_false, Bool.false_eq_true, if_true]
        | true =>
          have h3 : p' < n := by
            unfold sp_isa at h2
            simp only [Bool.and_eq_true, decide_eq_true_eq] at h2
            exact h2.1
          have e1 : ¬ (1 : Int32) = 0 := by decide
          simp only [h1, if_false, if_true, e1, nI_1, ih (by omega)]
theorem m16 (hn : n ≤ 60) {p e q fm : Nat} {C : Nat → Nat → Int32} : np_X 16 0 [some (.ref 179), none] [] (np_S (np_rF F n p e q) L C fm k scr) = rd_no F L k scr n (rd_cnt n 60 1 0 e q fm C) := by
  have h := l16 (F := F) (L := L) (k := k) (scr := scr) hn 60 1 rfl 0 e q fm C (by omega)
  have e1 : nI 1 = 1 := rfl
  rw [e1] at h
  simp only [e16_0, e16_0u, e16_1, e16_4, e16_5n, e16_5i, e16_5r, e16_5v, e16_7, e16_9, e16_12, e16_12u, e16_13, e16_16, e16_19, e16_20, e16_21, e16_21u, e16_22, e16_25, e16_25u, e16_26, e16_29, e16_32, e16_33, e16_34, e16_34u, e16_35, e16_38, e16_41, e16_42, e16_43n, e16_43i, e16_43r, e16_43v, e16_46, e16_49, e16_50, isoC, np_len0, m15, np_aft_u, h]
end
