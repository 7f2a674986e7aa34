/-! THE PURE PART, 52: the spoons of a new game; the history. -/
section
variable {P : List nv_Ob} {scr : nv_Scr}
theorem z_arr_s {b i : Nat} (hi : i < 12) : va_up (fun q => if q < i then some (b + 4 + q) else none) i (some (b + (4 + i))) = fun q => if q < i + 1 then some (b + 4 + q) else none := by
  funext q
  unfold va_up
  by_cases h : q = i
  · subst h
    simp
    omega
  · by_cases h2 : q < i
    · simp [h, h2, show q < i + 1 by omega]
    · simp [h, h2, show ¬ q < i + 1 by omega]
theorem b26 {sl i : Nat} (hP : P.length + 16 < 1000000) (hi : i < 12) : np_X 26 82 [some (.ref P.length), some (.int (nI i))] [] (cs_S P (z_Q P.length i) sl scr) = np_X 26 82 [some (.ref P.length), some (.int (nI (i + 1)))] [] (cs_S P (z_Q P.length (i + 1)) (sl + 9) scr) := by
  have a4 : P.length + (4 + i) < 1000000 := by omega
  have lt := np_lt12 hi
  have f0' : ∀ (s : Nat), nv_fld (cs_S P (z_Q P.length i) s scr) 2 0 P.length = some (.ref (P.length + 1)) := fun s => (cs_fld (P := P) (Q := z_Q P.length i) (sl := s) (scr := scr) (r := 0) (ci := 2) (k := 0) rfl).trans rfl
  have ln : ∀ (s : Nat), nv_len (cs_S P (z_Q P.length i) s scr) 2 (P.length + 1) = some 12 := fun s => cs_len (r := 1) rfl
  have atn : ∀ (o : nv_Ob), (z_Q P.length i ++ [o])[4 + i]? = some o := fun o => by
    rw [List.getElem?_append_right (by rw [z_Q_len]; omega), z_Q_len, Nat.sub_self]
    rfl
  have st : ∀ (o o' : nv_Ob), (z_Q P.length i ++ [o]).set (4 + i) o' = z_Q P.length i ++ [o'] := fun o o' => by
    rw [List.set_append_right _ _ (by rw [z_Q_len]; omega), z_Q_len, Nat.sub_self]
    rfl
  have z9 : np_z9 = [.int 0, .int 0, .int 0, .int 0, .int 0, .int 0, .int 0, .int 0, .int 0] := rfl
  have e60 := n60 (P := P) (Q := z_Q P.length i ++ [.inr (4, np_z9)]) (sl := sl + 9) (scr := scr) (r := 4 + i) (i := i) (atn _) a4
  rw [st] at e60
  have i4 : nv_isO (cs_S P (z_Q P.length i ++ [.inr (4, np_z9)]) (sl + 9) scr) 4 (P.length + (4 + i)) = true := cs_iso (atn _)
  have i5 : nv_isO (cs_S P (z_Q P.length i ++ [z_sp i]) (sl + 9) scr) 4 (P.length + (4 + i)) = true := cs_iso (fs := np_z9.set 0 (.int (nI i))) (atn _)
  have wq : nv_wrq (cs_S P (z_Q P.length i ++ [z_sp i]) (sl + 9) scr) 2 (P.length + 1) (nI i) (P.length + (4 + i)) = some (cs_S P (z_Q P.length (i + 1)) (sl + 9) scr) := by
    have hc : (nI i).toNatClampNeg = i := nI_clamp (by omega)
    rw [cs_wrq (r := 1) (m := 12) (f := fun q => if q < i then some (P.length + 4 + q) else none) rfl (nI_pos (by omega)) (by rw [hc]; exact hi), hc, z_arr_s hi]
    unfold z_Q
    rw [List.range_succ, List.map_append]
    rfl
  rw [z9] at e60 i4
  rw [e26_82]
  simp only [e26_0, e26_0u, e26_1, e26_4, e26_4u, e26_5, e26_7, e26_10, e26_13, e26_13u, e26_14, e26_17, e26_17i, e26_18, e26_21, e26_24, e26_24u, e26_25, e26_28, e26_28i, e26_29, e26_32, e26_35, e26_35u, e26_36, e26_37, e26_40, e26_40u, e26_41, e26_42, e26_45, e26_45u, e26_46, e26_47, e26_50, e26_50u, e26_51, e26_52, e26_55, e26_55u, e26_56, e26_57, e26_60, e26_60u, e26_61, e26_62, e26_65, e26_65u, e26_66, e26_67, e26_70, e26_70u, e26_71, e26_72, e26_75, e26_75u, e26_76, e26_77, e26_80, e26_81n, e26_81i, e26_81r, e26_81v, e26_83, e26_83u, e26_84, e26_87, e26_88, e26_91, e26_91u, e26_92, e26_95, e26_96, e26_99, e26_99i, e26_100, e26_101, e26_104, e26_105n, e26_105i, e26_105r, e26_105v, e26_108, e26_111, lt, if_true, f0', ln, np_of12, np_b_s, cs_21, cs_221, cs_new, z_Q_len, a4, np_len0, List.length_cons, List.length_nil, Nat.reduceLeDiff, Nat.reduceAdd, i4, e60, np_aft_u, i5, wq, nI_1]
theorem l26 (hP : P.length + 16 < 1000000) : ∀ (n i : Nat), i + n = 12 → ∀ (sl : Nat), np_X 26 82 [some (.ref P.length), some (.int (nI i))] [] (cs_S P (z_Q P.length i) sl scr) = some (.inl none, cs_S P (z_Q P.length 12) (sl + 9 * n) scr)
  | 0, i, h, sl => by
    obtain rfl : i = 12 := by omega
    have f0' : ∀ (s : Nat), nv_fld (cs_S P (z_Q P.length 12) s scr) 2 0 P.length = some (.ref (P.length + 1)) := fun s => (cs_fld (P := P) (Q := z_Q P.length 12) (sl := s) (scr := scr) (r := 0) (ci := 2) (k := 0) rfl).trans rfl
    have ln : ∀ (s : Nat), nv_len (cs_S P (z_Q P.length 12) s scr) 2 (P.length + 1) = some 12 := fun s => cs_len (r := 1) rfl
    rw [e26_82]
    simp only [e26_0, e26_0u, e26_1, e26_4, e26_4u, e26_5, e26_7, e26_10, e26_13, e26_13u, e26_14, e26_17, e26_17i, e26_18, e26_21, e26_24, e26_24u, e26_25, e26_28, e26_28i, e26_29, e26_32, e26_35, e26_35u, e26_36, e26_37, e26_40, e26_40u, e26_41, e26_42, e26_45, e26_45u, e26_46, e26_47, e26_50, e26_50u, e26_51, e26_52, e26_55, e26_55u, e26_56, e26_57, e26_60, e26_60u, e26_61, e26_62, e26_65, e26_65u, e26_66, e26_67, e26_70, e26_70u, e26_71, e26_72, e26_75, e26_75u, e26_76, e26_77, e26_80, e26_81n, e26_81i, e26_81r, e26_81v, e26_83, e26_83u, e26_84, e26_87, e26_88, e26_91, e26_91u, e26_92, e26_95, e26_96, e26_99, e26_99i, e26_100, e26_101, e26_104, e26_105n, e26_105i, e26_105r, e26_105v, e26_108, e26_111, np_nlt12, if_false, f0', ln, np_of12, np_b_s, Nat.mul_zero, Nat.add_zero]
  | n + 1, i, h, sl => by
    rw [b26 hP (by omega), l26 hP n (i + 1) (by omega), show sl + 9 + 9 * n = sl + 9 * (n + 1) by omega]
/-- a game is made -/
theorem n26 {sl : Nat} (hP : P.length + 16 < 1000000) : np_X 26 0 [some (.ref P.length), none] [] (cs_S P [z_new] sl scr) = some (.inl none, cs_S P (z_Q P.length 12) (sl + 136) scr) := by
  rw [n26a hP, l26 hP 12 0 rfl]
/-- behind what has been made already -/
theorem n26' {Q : List nv_Ob} {sl : Nat} (hP : P.length + Q.length + 16 < 1000000) : np_X 26 0 [some (.ref (P.length + Q.length)), none] [] (cs_S P (Q ++ [z_new]) sl scr) = some (.inl none, cs_S P (Q ++ z_Q (P.length + Q.length) 12) (sl + 136) scr) := by
  have e := n26 (P := P ++ Q) (sl := sl) (scr := scr) (by rw [List.length_append]; exact hP)
  rw [List.length_append, cs_sh, cs_sh] at e
  exact e
-- the history
def z_har (b i : Nat) : nv_Ob := .inl (3, 8, .inr (fun q => if q < i then some (b + 2 + 16 * q) else none))
def z_his (b : Nat) : nv_Ob := .inr (3, [.ref (b + 1), .int 0, .int 0])
def z_gms (b : Nat) : Nat → List nv_Ob
  | 0 => []
  | n + 1 => z_gms b n ++ z_Q (b + 2 + 16 * n) 12
theorem z_Q12 {b : Nat} : (z_Q b 12).length = 16 := z_Q_len
theorem z_gms_len {b : Nat} : ∀ n, (z_gms b n).length = 16 * n
  | 0 => rfl
  | n + 1 => by
    show (z_gms b n ++ z_Q (b + 2 + 16 * n) 12).length = _
    rw [List.length_append, z_gms_len n, z_Q12]
    omega
def z_H (b i : Nat) : List nv_Ob := z_his b :: z_har b i :: z_gms b i
theorem z_H_len {b i : Nat} : (z_H b i).length = 2 + 16 * i := by
  unfold z_H
  rw [List.length_cons, List.length_cons, z_gms_len]
  omega
theorem z_har_s {b i : Nat} (hi : i < 8) : va_up (fun q => if q < i then some (b + 2 + 16 * q) else none) i (some (b + (2 + 16 * i))) = fun q => if q < i + 1 then some (b + 2 + 16 * q) else none := by
  funext q
  unfold va_up
  by_cases h : q = i
  · subst h
    simp
    omega
  · by_cases h2 : q < i
    · simp [h, h2, show q < i + 1 by omega]
    · simp [h, h2, show ¬ q < i + 1 by omega]
theorem b56 {sl i : Nat} (hP : P.length + 200 < 1000000) (hi : i < 8) : np_X 56 25 [some (.ref P.length), some (.int (nI i))] [] (cs_S P (z_H P.length i) sl scr) = np_X 56 25 [some (.ref P.length), some (.int (nI (i + 1)))] [] (cs_S P (z_H P.length (i + 1)) (sl + 148) scr) := by
  have a4 : P.length + (2 + 16 * i) < 1000000 := by omega
  have lt := np_lt8 hi
  have f0' : ∀ (s : Nat), nv_fld (cs_S P (z_H P.length i) s scr) 3 0 P.length = some (.ref (P.length + 1)) := fun s => (cs_fld (P := P) (Q := z_H P.length i) (sl := s) (scr := scr) (r := 0) (ci := 3) (k := 0) rfl).trans rfl
  have ln : ∀ (s : Nat), nv_len (cs_S P (z_H P.length i) s scr) 3 (P.length + 1) = some 8 := fun s => cs_len (r := 1) rfl
  have zn : z_new = .inr (2, [.null, .null, .null, .int 0, .int 0, .int 0, .int 0, .int 0, .int 0, .int 0, .long 0, .int 0]) := rfl
  have e26 := n26' (P := P) (Q := z_H P.length i) (sl := sl + 12) (scr := scr) (by rw [z_H_len]; omega)
  rw [z_H_len] at e26
  have atn : (z_H P.length i ++ [z_new])[2 + 16 * i]? = some z_new := by
    rw [List.getElem?_append_right (by rw [z_H_len]; omega), z_H_len, Nat.sub_self]
    rfl
  have atg : (z_H P.length i ++ z_Q (P.length + (2 + 16 * i)) 12)[2 + 16 * i]? = some (z_game (P.length + (2 + 16 * i))) := by
    rw [List.getElem?_append_right (by rw [z_H_len]; omega), z_H_len, Nat.sub_self]
    rfl
  have i4 : nv_isO (cs_S P (z_H P.length i ++ [z_new]) (sl + 12) scr) 2 (P.length + (2 + 16 * i)) = true := cs_iso atn
  have i5 : nv_isO (cs_S P (z_H P.length i ++ z_Q (P.length + (2 + 16 * i)) 12) (sl + 12 + 136) scr) 2 (P.length + (2 + 16 * i)) = true := cs_iso atg
  have wq : nv_wrq (cs_S P (z_H P.length i ++ z_Q (P.length + (2 + 16 * i)) 12) (sl + 12 + 136) scr) 3 (P.length + 1) (nI i) (P.length + (2 + 16 * i)) = some (cs_S P (z_H P.length (i + 1)) (sl + 148) scr) := by
    have hc : (nI i).toNatClampNeg = i := nI_clamp (by omega)
    rw [cs_wrq (r := 1) (m := 8) (f := fun q => if q < i then some (P.length + 2 + 16 * q) else none) rfl (nI_pos (by omega)) (by rw [hc]; exact hi), hc, z_har_s hi]
    unfold z_H
    rw [show P.length + (2 + 16 * i) = P.length + 2 + 16 * i by omega]
    rfl
  rw [zn] at e26 i4
  rw [e56_25]
  simp only [e56_0, e56_0u, e56_1, e56_4, e56_4u, e56_5, e56_7, e56_10, e56_13, e56_13u, e56_14, e56_15, e56_18, e56_18u, e56_19, e56_20, e56_23, e56_24n, e56_24i, e56_24r, e56_24v, e56_26, e56_26u, e56_27, e56_30, e56_31, e56_34, e56_34u, e56_35, e56_38, e56_39, e56_42, e56_42i, e56_43, e56_46, e56_47n, e56_47i, e56_47r, e56_47v, e56_50, e56_53, lt, if_true, f0', ln, np_of8, np_b_s, cs_21, cs_221, cs_new, z_H_len, a4, np_len0, List.length_cons, List.length_nil, Nat.reduceLeDiff, Nat.reduceAdd, i4, e26, np_aft_u, i5, wq, nI_1]
theorem l56 (hP : P.length + 200 < 1000000) : ∀ (n i : Nat), i + n = 8 → ∀ (sl : Nat), np_X 56 25 [some (.ref P.length), some (.int (nI i))] [] (cs_S P (z_H P.length i) sl scr) = some (.inl none, cs_S P (z_H P.length 8) (sl + 148 * n) scr)
  | 0, i, h, sl => by
    obtain rfl : i = 8 := by omega
    have f0' : ∀ (s : Nat), nv_fld (cs_S P (z_H P.length 8) s scr) 3 0 P.length = some (.ref (P.length + 1)) := fun s => (cs_fld (P := P) (Q := z_H P.length 8) (sl := s) (scr := scr) (r := 0) (ci := 3) (k := 0) rfl).trans rfl
    have ln : ∀ (s : Nat), nv_len (cs_S P (z_H P.length 8) s scr) 3 (P.length + 1) = some 8 := fun s => cs_len (r := 1) rfl
    have lt : (nI 8 < 8) = False := np_nlt8 (Nat.le_refl 8) (by decide)
    rw [e56_25]
    simp only [e56_0, e56_0u, e56_1, e56_4, e56_4u, e56_5, e56_7, e56_10, e56_13, e56_13u, e56_14, e56_15, e56_18, e56_18u, e56_19, e56_20, e56_23, e56_24n, e56_24i, e56_24r, e56_24v, e56_26, e56_26u, e56_27, e56_30, e56_31, e56_34, e56_34u, e56_35, e56_38, e56_39, e56_42, e56_42i, e56_43, e56_46, e56_47n, e56_47i, e56_47r, e56_47v, e56_50, e56_53, lt, if_false, f0', ln, np_of8, np_b_s, Nat.mul_zero, Nat.add_zero]
  | n + 1, i, h, sl => by
    rw [b56 hP (by omega), l56 hP n (i + 1) (by omega), show sl + 148 + 148 * n = sl + 148 * (n + 1) by omega]
def z_hnew : nv_Ob := .inr (3, [.null, .int 0, .int 0])
theorem n56 {sl : Nat} (hP : P.length + 200 < 1000000) : np_X 56 0 [some (.ref P.length), none] [] (cs_S P [z_hnew] sl scr) = some (.inl none, cs_S P (z_H P.length 8) (sl + 1192) scr) := by
  have a0 : P.length < 1000000 := by omega
  have a1 : P.length + 1 < 1000000 := by omega
  have c0 : ¬ (8 : Int32) < 0 := by decide
  have c1 : (8 : Int32).toNatClampNeg = 8 := by decide
  have c2 : (8 : Nat) ≤ 1000 := by decide
  have z0 : nI 0 = 0 := rfl
  have s1 : ∀ (g : List Value) (v : Value) (ty : FieldType) (k : Nat) (Q : List nv_Ob), narrow ty v = v → fits ty v = true → k < g.length → nv_sto (cs_S P (.inr (3, g) :: Q) (sl + 8) scr) 3 k ty P.length v = some (cs_S P (.inr (3, g.set k v) :: Q) (sl + 8) scr) := fun g v ty k Q h1 h2 h3 => cs_sto (r := 0) h1 h2 rfl h3
  have e := l56 (P := P) (scr := scr) hP 8 0 rfl (sl + 8)
  have hz : z_H P.length 0 = [.inr (3, [.ref (P.length + 1), .int 0, .int 0]), .inl (3, 8, .inr (fun _ => none))] := by
    unfold z_H z_his z_har z_gms
    congr 3
  rw [hz, z0] at e
  rw [show sl + 1192 = sl + 8 + 148 * 8 by omega, ← e]
  unfold z_hnew
  simp only [e56_0, e56_0u, e56_1, e56_4, e56_4u, e56_5, e56_7, e56_10, e56_13, e56_13u, e56_14, e56_15, e56_18, e56_18u, e56_19, e56_20, e56_23, e56_24n, e56_24i, e56_24r, e56_24v, e56_26, e56_26u, e56_27, e56_30, e56_31, e56_34, e56_34u, e56_35, e56_38, e56_39, e56_42, e56_42i, e56_43, e56_46, e56_47n, e56_47i, e56_47r, e56_47v, e56_50, e56_53, a0, a1, np_len0, List.length_cons, List.length_nil, Nat.reduceLeDiff, Nat.reduceAdd, Nat.reduceLT, Nat.zero_add, Nat.zero_lt_succ, c0, c1, c2, not_false_eq_true, cs_21, cs_221, cs_new, List.cons_append, List.nil_append, s1, nr_a, ft_a, np_b_s, np_ni, ft_i, List.set_cons_zero, List.set_cons_succ]
end
