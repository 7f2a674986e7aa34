/-! THE PURE PART, 13: the reader of commands. n: characters, p: position, e: the match's end, q: numbers. -/
def np_rF (F : Nat → Nat → Int32) (n p e q : Nat) : Nat → Nat → Int32 := fun a j => if a = 179 then (if j = 2 then nI n else if j = 3 then nI p else if j = 4 then nI e else if j = 5 then nI q else F a j) else F a j
section
variable {F : Nat → Nat → Int32} {n p e q : Nat}
theorem np_rF2 : np_rF F n p e q 179 2 = nI n := rfl
theorem np_rF3 : np_rF F n p e q 179 3 = nI p := rfl
theorem np_rF4 : np_rF F n p e q 179 4 = nI e := rfl
theorem np_rF5 : np_rF F n p e q 179 5 = nI q := rfl
theorem np_rF_o {a j : Nat} (h : ¬ a = 179) : np_rF F n p e q a j = F a j := if_neg h
theorem np_rFu {j : Nat} {v : Int32} {G : Nat → Nat → Int32} (h : ∀ i, G 179 i = if i = j then v else np_rF F n p e q 179 i) (h2 : ∀ a i, ¬ a = 179 → G a i = F a i) : np_u (np_rF F n p e q) 179 j v = G := by
  funext a i
  by_cases ha : a = 179
  · subst ha
    rw [h]
    by_cases hi : i = j <;> simp [np_u, hi]
  · rw [h2 a i ha, np_u_a ha, np_rF_o ha]
theorem np_rFu2 {n' : Nat} : np_u (np_rF F n p e q) 179 2 (nI n') = np_rF F n' p e q := np_rFu (fun i => by
  unfold np_rF
  by_cases h : i = 2 <;> simp [h]) (fun a i h => np_rF_o h)
theorem np_rFu3 {p' : Nat} : np_u (np_rF F n p e q) 179 3 (nI p') = np_rF F n p' e q := np_rFu (fun i => by
  unfold np_rF
  by_cases h : i = 3 <;> simp [h]) (fun a i h => np_rF_o h)
theorem np_rFu4 {e' : Nat} : np_u (np_rF F n p e q) 179 4 (nI e') = np_rF F n p e' q := np_rFu (fun i => by
  unfold np_rF
  by_cases h : i = 4 <;> simp [h]) (fun a i h => np_rF_o h)
theorem np_rFu5 {q' : Nat} : np_u (np_rF F n p e q) 179 5 (nI q') = np_rF F n p e q' := np_rFu (fun i => by
  unfold np_rF
  by_cases h : i = 5 <;> simp [h]) (fun a i h => np_rF_o h)
end
theorem np_lt5 {i : Nat} (h : i < 5) : (nI i < 5) = True := eq_true (nI_lt (b := 5) h (by decide))
theorem np_nlt5 {i : Nat} (h : 5 ≤ i) (hi : i < 1000) : (nI i < 5) = False := eq_false (nI_nlt (a := i) (b := 5) h (by omega))
theorem np_of5 : Int32.ofNat 5 = 5 := id rfl
/-- how many digits, and their value -/
def rd_dn (C : Nat → Nat → Int32) (n m e : Nat) : Nat := if sp_dig C n e = true then (if m = 2 then (if sp_dig C n (e + 1) = true then 2 else 1) else 1) else 0
def rd_v (C : Nat → Nat → Int32) (n m e : Nat) : Int32 := if rd_dn C n m e = 2 then 10 * (10 * 0 + sp_dgt C n e) + sp_dgt C n (e + 1) else 10 * 0 + sp_dgt C n e
section
variable {F : Nat → Nat → Int32} {L : Nat → Int64} {C : Nat → Nat → Int32} {fm k : Nat} {scr : nv_Scr} {n p e q : Nat}
/-- behind the digits -/
theorem l21z {m v : Int32} (hq : q < 1000) : np_X 21 50 [some (.ref 179), some (.int m), some (.int v), some (.int 0)] [] (np_S (np_rF F n p e q) L C fm k scr) = np_o 0 (np_S (np_rF F n p e q) L C fm k scr) := by
  simp only [e21_0, e21_1n, e21_1i, e21_1r, e21_1v, e21_2, e21_3n, e21_3i, e21_3r, e21_3v, e21_5, e21_6, e21_9, e21_9u, e21_10, e21_10u, e21_11, e21_14, e21_17, e21_20, e21_22, e21_23, e21_24, e21_24u, e21_25, e21_25u, e21_26, e21_29, e21_32, e21_33n, e21_33i, e21_33r, e21_33v, e21_34n, e21_34i, e21_34r, e21_34v, e21_37, e21_37u, e21_38, e21_38i, e21_39, e21_42, e21_43, e21_44, e21_47, e21_50, e21_51, e21_54, e21_54u, e21_55, e21_58, e21_61, e21_61u, e21_62, e21_65, e21_65u, e21_66, e21_69, e21_70, e21_73, e21_74, e21_75, e21_75u, e21_76, e21_79, e21_79u, e21_80, e21_83, e21_84, e21_85, e21_85u, e21_86, e21_86i, e21_87, e21_90, e21_91, e21_92, e21_95, e21_96, if_true, np_nb0]
theorem l21d {m v d : Int32} (hd : ¬ d = 0) (hq : q < 1000) : np_X 21 50 [some (.ref 179), some (.int m), some (.int v), some (.int d)] [] (np_S (np_rF F n p e q) L C fm k scr) = if q < 5 then np_o 1 (np_S (np_rF F n p e (q + 1)) L (np_uC C 181 q v) fm k scr) else np_o 0 (np_S (np_rF F n p e q) L C fm k scr) := by
  by_cases h : q < 5
  · simp only [e21_0, e21_1n, e21_1i, e21_1r, e21_1v, e21_2, e21_3n, e21_3i, e21_3r, e21_3v, e21_5, e21_6, e21_9, e21_9u, e21_10, e21_10u, e21_11, e21_14, e21_17, e21_20, e21_22, e21_23, e21_24, e21_24u, e21_25, e21_25u, e21_26, e21_29, e21_32, e21_33n, e21_33i, e21_33r, e21_33v, e21_34n, e21_34i, e21_34r, e21_34v, e21_37, e21_37u, e21_38, e21_38i, e21_39, e21_42, e21_43, e21_44, e21_47, e21_50, e21_51, e21_54, e21_54u, e21_55, e21_58, e21_61, e21_61u, e21_62, e21_65, e21_65u, e21_66, e21_69, e21_70, e21_73, e21_74, e21_75, e21_75u, e21_76, e21_79, e21_79u, e21_80, e21_83, e21_84, e21_85, e21_85u, e21_86, e21_86i, e21_87, e21_90, e21_91, e21_92, e21_95, e21_96, hd, if_false, fldC5, fldC1, np_b_s, np_rF5, np_lt0 hq, len181, np_of5, np_lt5 h, h, if_true, wr181 h, nI_1, stoC5, np_rFu5, np_nb1]
  · simp only [e21_0, e21_1n, e21_1i, e21_1r, e21_1v, e21_2, e21_3n, e21_3i, e21_3r, e21_3v, e21_5, e21_6, e21_9, e21_9u, e21_10, e21_10u, e21_11, e21_14, e21_17, e21_20, e21_22, e21_23, e21_24, e21_24u, e21_25, e21_25u, e21_26, e21_29, e21_32, e21_33n, e21_33i, e21_33r, e21_33v, e21_34n, e21_34i, e21_34r, e21_34v, e21_37, e21_37u, e21_38, e21_38i, e21_39, e21_42, e21_43, e21_44, e21_47, e21_50, e21_51, e21_54, e21_54u, e21_55, e21_58, e21_61, e21_61u, e21_62, e21_65, e21_65u, e21_66, e21_69, e21_70, e21_73, e21_74, e21_75, e21_75u, e21_76, e21_79, e21_79u, e21_80, e21_83, e21_84, e21_85, e21_85u, e21_86, e21_86i, e21_87, e21_90, e21_91, e21_92, e21_95, e21_96, hd, if_false, fldC5, fldC1, np_b_s, np_rF5, np_lt0 hq, len181, np_of5, np_nlt5 (show 5 ≤ q by omega) hq, h, np_nb0]
theorem m21 {m : Nat} (hm : m = 1 ∨ m = 2) (hn : n ≤ 60) (he : e < 900) (hq : q < 1000) : np_X 21 0 [some (.ref 179), some (.int (nI m)), none, none] [] (np_S (np_rF F n p e q) L C fm k scr) =
    if rd_dn C n m e = 0 then np_o 0 (np_S (np_rF F n p e q) L C fm k scr) else if q < 5 then np_o 1 (np_S (np_rF F n p (e + rd_dn C n m e) (q + 1)) L (np_uC C 181 q (rd_v C n m e)) fm k scr) else np_o 0 (np_S (np_rF F n p (e + rd_dn C n m e) q) L C fm k scr) := by
  have e1 : (0 : Int32) < nI 1 := by decide
  have e2 : (0 : Int32) < nI 2 := by decide
  have e3 : ¬ (0 : Int32) + 1 < nI 1 := by decide
  have e4 : (0 : Int32) + 1 < nI 2 := by decide
  have e5 : ¬ (0 : Int32) + 1 + 1 < nI 2 := by decide
  have d1 : ¬ (0 : Int32) + 1 = 0 := by decide
  have d2 : ¬ (0 : Int32) + 1 + 1 = 0 := by decide
  have et : (true = false) = False := by simp
  rcases hm with rfl | rfl
  · cases hd : sp_dig C n e with
    | false =>
      simp only [e21_0, e21_1n, e21_1i, e21_1r, e21_1v, e21_2, e21_3n, e21_3i, e21_3r, e21_3v, e21_4, e21_5, e21_6, e21_9, e21_9u, e21_10, e21_10u, e21_11, e21_14, e21_17, e21_20, e21_22, e21_23, e21_24, e21_24u, e21_25, e21_25u, e21_26, e21_29, e21_32, e21_33n, e21_33i, e21_33r, e21_33v, e21_34n, e21_34i, e21_34r, e21_34v, e21_37, e21_37u, e21_38, e21_38i, e21_39, e21_42, e21_43, e21_44, e21_47, e21_51, e21_54, e21_54u, e21_55, e21_58, e21_61, e21_61u, e21_62, e21_65, e21_65u, e21_66, e21_69, e21_70, e21_73, e21_74, e21_75, e21_75u, e21_76, e21_79, e21_79u, e21_80, e21_83, e21_84, e21_85, e21_85u, e21_86, e21_86i, e21_87, e21_90, e21_91, e21_92, e21_95, e21_96, e1, if_true, fldC4, np_b_s, np_rF4, isoC, List.length_cons, List.length_nil, Nat.reduceLeDiff, Nat.reduceAdd, m24 (show e < 1000 by omega) hn (np_rF2 (F := F) (p := p) (e := e) (q := q)), np_len0, hd, np_aft_v, np_i0, l21z hq, rd_dn, Bool.false_eq_true, if_false]
    | true =>
      simp only [e21_0, e21_1n, e21_1i, e21_1r, e21_1v, e21_2, e21_3n, e21_3i, e21_3r, e21_3v, e21_4, e21_5, e21_6, e21_9, e21_9u, e21_10, e21_10u, e21_11, e21_14, e21_17, e21_20, e21_22, e21_23, e21_24, e21_24u, e21_25, e21_25u, e21_26, e21_29, e21_32, e21_33n, e21_33i, e21_33r, e21_33v, e21_34n, e21_34i, e21_34r, e21_34v, e21_37, e21_37u, e21_38, e21_38i, e21_39, e21_42, e21_43, e21_44, e21_47, e21_51, e21_54, e21_54u, e21_55, e21_58, e21_61, e21_61u, e21_62, e21_65, e21_65u, e21_66, e21_69, e21_70, e21_73, e21_74, e21_75, e21_75u, e21_76, e21_79, e21_79u, e21_80, e21_83, e21_84, e21_85, e21_85u, e21_86, e21_86i, e21_87, e21_90, e21_91, e21_92, e21_95, e21_96, e1, if_true, fldC4, np_b_s, np_rF4, isoC, List.length_cons, List.length_nil, Nat.reduceLeDiff, Nat.reduceAdd, m24 (show e < 1000 by omega) hn (np_rF2 (F := F) (p := p) (e := e) (q := q)), m25 (show e < 1000 by omega) hn (np_rF2 (F := F) (p := p) (e := e) (q := q)), np_len0, hd, np_aft_v, np_i0, et, if_false, nI_1, stoC4, np_rFu4, e3, l21d d1 hq, rd_dn, rd_v, show ¬ 1 = 2 by decide, show ¬ 1 = 0 by decide]
  · cases hd : sp_dig C n e with
    | false =>
      simp only [e21_0, e21_1n, e21_1i, e21_1r, e21_1v, e21_2, e21_3n, e21_3i, e21_3r, e21_3v, e21_4, e21_5, e21_6, e21_9, e21_9u, e21_10, e21_10u, e21_11, e21_14, e21_17, e21_20, e21_22, e21_23, e21_24, e21_24u, e21_25, e21_25u, e21_26, e21_29, e21_32, e21_33n, e21_33i, e21_33r, e21_33v, e21_34n, e21_34i, e21_34r, e21_34v, e21_37, e21_37u, e21_38, e21_38i, e21_39, e21_42, e21_43, e21_44, e21_47, e21_51, e21_54, e21_54u, e21_55, e21_58, e21_61, e21_61u, e21_62, e21_65, e21_65u, e21_66, e21_69, e21_70, e21_73, e21_74, e21_75, e21_75u, e21_76, e21_79, e21_79u, e21_80, e21_83, e21_84, e21_85, e21_85u, e21_86, e21_86i, e21_87, e21_90, e21_91, e21_92, e21_95, e21_96, e2, if_true, fldC4, np_b_s, np_rF4, isoC, List.length_cons, List.length_nil, Nat.reduceLeDiff, Nat.reduceAdd, m24 (show e < 1000 by omega) hn (np_rF2 (F := F) (p := p) (e := e) (q := q)), np_len0, hd, np_aft_v, np_i0, l21z hq, rd_dn, Bool.false_eq_true, if_false]
    | true =>
      cases hd2 : sp_dig C n (e + 1) with
      | false =>
        simp only [e21_0, e21_1n, e21_1i, e21_1r, e21_1v, e21_2, e21_3n, e21_3i, e21_3r, e21_3v, e21_4, e21_5, e21_6, e21_9, e21_9u, e21_10, e21_10u, e21_11, e21_14, e21_17, e21_20, e21_22, e21_23, e21_24, e21_24u, e21_25, e21_25u, e21_26, e21_29, e21_32, e21_33n, e21_33i, e21_33r, e21_33v, e21_34n, e21_34i, e21_34r, e21_34v, e21_37, e21_37u, e21_38, e21_38i, e21_39, e21_42, e21_43, e21_44, e21_47, e21_51, e21_54, e21_54u, e21_55, e21_58, e21_61, e21_61u, e21_62, e21_65, e21_65u, e21_66, e21_69, e21_70, e21_73, e21_74, e21_75, e21_75u, e21_76, e21_79, e21_79u, e21_80, e21_83, e21_84, e21_85, e21_85u, e21_86, e21_86i, e21_87, e21_90, e21_91, e21_92, e21_95, e21_96, e2, e4, if_true, fldC4, np_b_s, np_rF4, isoC, List.length_cons, List.length_nil, Nat.reduceLeDiff, Nat.reduceAdd, m24 (show e < 1000 by omega) hn (np_rF2 (F := F) (p := p) (e := e) (q := q)), m25 (show e < 1000 by omega) hn (np_rF2 (F := F) (p := p) (e := e) (q := q)), m24 (show e + 1 < 1000 by omega) hn (np_rF2 (F := F) (p := p) (e := e + 1) (q := q)), np_len0, hd, hd2, np_aft_v, np_i0, et, if_false, nI_1, stoC4, np_rFu4, l21d d1 hq, rd_dn, rd_v, Bool.false_eq_true, show ¬ 1 = 2 by decide, show ¬ 1 = 0 by decide]
      | true =>
        simp only [e21_0, e21_1n, e21_1i, e21_1r, e21_1v, e21_2, e21_3n, e21_3i, e21_3r, e21_3v, e21_4, e21_5, e21_6, e21_9, e21_9u, e21_10, e21_10u, e21_11, e21_14, e21_17, e21_20, e21_22, e21_23, e21_24, e21_24u, e21_25, e21_25u, e21_26, e21_29, e21_32, e21_33n, e21_33i, e21_33r, e21_33v, e21_34n, e21_34i, e21_34r, e21_34v, e21_37, e21_37u, e21_38, e21_38i, e21_39, e21_42, e21_43, e21_44, e21_47, e21_51, e21_54, e21_54u, e21_55, e21_58, e21_61, e21_61u, e21_62, e21_65, e21_65u, e21_66, e21_69, e21_70, e21_73, e21_74, e21_75, e21_75u, e21_76, e21_79, e21_79u, e21_80, e21_83, e21_84, e21_85, e21_85u, e21_86, e21_86i, e21_87, e21_90, e21_91, e21_92, e21_95, e21_96, e2, e4, e5, if_true, fldC4, np_b_s, np_rF4, isoC, List.length_cons, List.length_nil, Nat.reduceLeDiff, Nat.reduceAdd, m24 (show e < 1000 by omega) hn (np_rF2 (F := F) (p := p) (e := e) (q := q)), m25 (show e < 1000 by omega) hn (np_rF2 (F := F) (p := p) (e := e) (q := q)), m24 (show e + 1 < 1000 by omega) hn (np_rF2 (F := F) (p := p) (e := e + 1) (q := q)), m25 (show e + 1 < 1000 by omega) hn (np_rF2 (F := F) (p := p) (e := e + 1) (q := q)), np_len0, hd, hd2, np_aft_v, np_i0, et, if_false, nI_1, stoC4, np_rFu4, l21d d2 hq, rd_dn, rd_v, show ¬ 2 = 0 by decide, show e + 1 + 1 = e + 2 from rfl]
end
