/-! THE PURE PART, 53: the constructor of the class. -/
def z_cnew : nv_Ob := .inr (1, [.null, .null, .int 0, .int 0, .int 0, .int 0, .null])
def z_cmd (b : Nat) : nv_Ob := .inr (1, [.ref (b + 1), .ref (b + 2), .int 0, .int 0, .int 0, .int 0, .ref 1000207])
def z_row (t n : Nat) : nv_Ob := .inl (t, n, .inl (fun _ => 0))
theorem n11 {P : List nv_Ob} {sl : Nat} {scr : nv_Scr} (hP : P.length + 10 < 1000000) : np_X 11 0 [some (.ref P.length)] [] (cs_S P [z_cnew] sl scr) = some (.inl none, cs_S P [z_cmd P.length, z_row 0 60, z_row 1 5] (sl + 65) scr) := by
  have a0 : P.length < 1000000 := by omega
  have a1 : P.length + 1 < 1000000 := by omega
  have a2 : P.length + 2 < 1000000 := by omega
  have c0 : ¬ (60 : Int32) < 0 := by decide
  have c1 : (60 : Int32).toNatClampNeg = 60 := by decide
  have c2 : (60 : Nat) ≤ 1000 := by decide
  have d0 : ¬ (5 : Int32) < 0 := by decide
  have d1 : (5 : Int32).toNatClampNeg = 5 := by decide
  have d2 : (5 : Nat) ≤ 1000 := by decide
  have s1 : ∀ (g : List Value) (v : Value) (ty : FieldType) (k : Nat) (Q : List nv_Ob), narrow ty v = v → fits ty v = true → k < g.length → nv_sto (cs_S P (.inr (1, g) :: Q) (sl + 60) scr) 1 k ty P.length v = some (cs_S P (.inr (1, g.set k v) :: Q) (sl + 60) scr) := fun g v ty k Q h1 h2 h3 => cs_sto (r := 0) h1 h2 rfl h3
  have s2 : ∀ (g : List Value) (v : Value) (ty : FieldType) (k : Nat) (Q : List nv_Ob), narrow ty v = v → fits ty v = true → k < g.length → nv_sto (cs_S P (.inr (1, g) :: Q) (sl + 60 + 5) scr) 1 k ty P.length v = some (cs_S P (.inr (1, g.set k v) :: Q) (sl + 60 + 5) scr) := fun g v ty k Q h1 h2 h3 => cs_sto (r := 0) h1 h2 rfl h3
  unfold z_cnew z_cmd z_row
  simp only [e11_0, e11_0u, e11_1, e11_4, e11_4u, e11_5, e11_7, e11_9, e11_12, e11_12u, e11_13, e11_14, e11_16, e11_19, e11_19u, e11_20, e11_21, e11_24, e11_24u, e11_25, e11_26, e11_29, e11_29u, e11_30, e11_31, e11_34, e11_34u, e11_35, e11_36, e11_39, e11_39u, e11_40, e11_43, e11_46, a0, a1, a2, np_len0, List.length_cons, List.length_nil, Nat.reduceLeDiff, Nat.reduceAdd, Nat.reduceLT, Nat.zero_add, Nat.zero_lt_succ, c0, c1, c2, d0, d1, d2, not_false_eq_true, cs_21, cs_221, cs_new, List.cons_append, List.nil_append, s1, s2, nr_a, ft_a, nr_o, ft_o, np_b_s, np_ni, ft_i, List.set_cons_zero, List.set_cons_succ]
def z_T1 : List nv_Ob := z_Q 1 12
def z_T2 : List nv_Ob := z_T1 ++ z_Q 17 12
def z_T3 : List nv_Ob := z_T2 ++ z_Q 33 12
def z_T4 : List nv_Ob := z_T3 ++ z_H 49 8
def z_T5 : List nv_Ob := z_T4 ++ [z_cmd 179, z_row 0 60, z_row 1 5]
def z_T6 : List nv_Ob := z_T5 ++ [z_row 0 10]
theorem z_L1 : z_T1.length = 16 := z_Q12
theorem z_L2 : z_T2.length = 32 := by
  unfold z_T2
  rw [List.length_append, z_L1, z_Q12]
theorem z_L3 : z_T3.length = 48 := by
  unfold z_T3
  rw [List.length_append, z_L2, z_Q12]
theorem z_L4 : z_T4.length = 178 := by
  unfold z_T4
  rw [List.length_append, z_L3, z_H_len]
theorem z_L5 : z_T5.length = 181 := by
  unfold z_T5
  rw [List.length_append, z_L4]
  rfl
theorem z_L6 : z_T6.length = 182 := by
  unfold z_T6
  rw [List.length_append, z_L5]
  rfl
def z_nnew : nv_Ob := .inr (5, [.null, .null, .null, .null, .null, .null, .int 0, .int 0, .int 0, .int 0, .int 0])
def z_nav : nv_Ob := .inr (5, [.ref 1, .ref 17, .ref 33, .ref 49, .ref 179, .ref 182, .int 0, .int 0, .int 0, .int (-1), .int (-1)])
section
variable {scr : nv_Scr}
theorem c_iso {x : nv_Ob} {T : List nv_Ob} {n ci : Nat} {fs : List Value} {s : Nat} (hT : T.length + 1 = n) : nv_isO (cs_S [] (x :: (T ++ [.inr (ci, fs)])) s scr) ci n = true := by
  have h : (x :: (T ++ [.inr (ci, fs)]))[n]? = some (.inr (ci, fs)) := by
    rw [← hT, List.getElem?_cons_succ, List.getElem?_append_right (Nat.le_refl _), Nat.sub_self]
    rfl
  have e := cs_iso (P := []) (Q := x :: (T ++ [.inr (ci, fs)])) (sl := s) (scr := scr) h
  rw [List.length_nil, Nat.zero_add] at e
  exact e
theorem c_26 {x : nv_Ob} {T : List nv_Ob} {n s : Nat} (hT : T.length + 1 = n) (hn : n + 16 < 1000000) : np_X 26 0 [some (.ref n), none] [] (cs_S [] (x :: (T ++ [z_new])) s scr) = some (.inl none, cs_S [] (x :: (T ++ z_Q n 12)) (s + 136) scr) := by
  have e := n26' (P := []) (Q := x :: T) (sl := s) (scr := scr) (by rw [List.length_nil, List.length_cons]; omega)
  rw [List.length_nil, List.length_cons, Nat.zero_add, hT, List.cons_append, List.cons_append] at e
  exact e
theorem c_56 {x : nv_Ob} {T : List nv_Ob} {n s : Nat} (hT : T.length + 1 = n) (hn : n + 200 < 1000000) : np_X 56 0 [some (.ref n), none] [] (cs_S [] (x :: (T ++ [z_hnew])) s scr) = some (.inl none, cs_S [] (x :: (T ++ z_H n 8)) (s + 1192) scr) := by
  have e := n56 (P := x :: T) (sl := s) (scr := scr) (by rw [List.length_cons]; omega)
  rw [List.length_cons, hT] at e
  have h1 := cs_sh (P := []) (Q := x :: T) (R := [z_hnew]) (sl := s) (scr := scr)
  have h2 := cs_sh (P := []) (Q := x :: T) (R := z_H n 8) (sl := s + 1192) (scr := scr)
  rw [List.nil_append] at h1 h2
  rw [h1, h2] at e
  exact e
theorem c_11 {x : nv_Ob} {T : List nv_Ob} {n s : Nat} (hT : T.length + 1 = n) (hn : n + 10 < 1000000) : np_X 11 0 [some (.ref n)] [] (cs_S [] (x :: (T ++ [z_cnew])) s scr) = some (.inl none, cs_S [] (x :: (T ++ [z_cmd n, z_row 0 60, z_row 1 5])) (s + 65) scr) := by
  have e := n11 (P := x :: T) (sl := s) (scr := scr) (by rw [List.length_cons]; omega)
  rw [List.length_cons, hT] at e
  have h1 := cs_sh (P := []) (Q := x :: T) (R := [z_cnew]) (sl := s) (scr := scr)
  have h2 := cs_sh (P := []) (Q := x :: T) (R := [z_cmd n, z_row 0 60, z_row 1 5]) (sl := s + 65) (scr := scr)
  rw [List.nil_append] at h1 h2
  rw [h1, h2] at e
  exact e
theorem c_sto {g : List Value} {v : Value} {ty : FieldType} {k s : Nat} {T : List nv_Ob} (h1 : narrow ty v = v) (h2 : fits ty v = true) (h3 : k < g.length) : nv_sto (cs_S [] (.inr (5, g) :: T) s scr) 5 k ty 0 v = some (cs_S [] (.inr (5, g.set k v) :: T) s scr) := cs_sto (P := []) (r := 0) h1 h2 rfl h3
theorem c_21 {x : nv_Ob} {T : List nv_Ob} {s : Nat} : (cs_S [] (x :: T) s scr).2.1 = T.length + 1 := by
  show 0 + (T.length + 1) = T.length + 1
  exact Nat.zero_add _
theorem n71 : np_X 71 0 [some (.ref 0)] [] (cs_S [] [z_nnew] 11 scr) = some (.inl none, cs_S [] (z_nav :: z_T6) 1732 scr) := by
  have c0 : ¬ (10 : Int32) < 0 := by decide
  have c1 : (10 : Int32).toNatClampNeg = 10 := by decide
  have c2 : (10 : Nat) ≤ 1000 := by decide
  have zn : z_new = .inr (2, [.null, .null, .null, .int 0, .int 0, .int 0, .int 0, .int 0, .int 0, .int 0, .long 0, .int 0]) := rfl
  have zh : z_hnew = .inr (3, [.null, .int 0, .int 0]) := rfl
  have zc : z_cnew = .inr (1, [.null, .null, .int 0, .int 0, .int 0, .int 0, .null]) := rfl
  have g1 : ∀ x s, np_X 26 0 [some (.ref 1), none] [] (cs_S [] [x, z_new] s scr) = some (.inl none, cs_S [] (x :: z_T1) (s + 136) scr) := fun x s => c_26 (T := []) (n := 1) rfl (by decide)
  have g2 : ∀ x s, np_X 26 0 [some (.ref 17), none] [] (cs_S [] (x :: (z_T1 ++ [z_new])) s scr) = some (.inl none, cs_S [] (x :: z_T2) (s + 136) scr) := fun x s => c_26 (n := 17) (by rw [z_L1]) (by decide)
  have g3 : ∀ x s, np_X 26 0 [some (.ref 33), none] [] (cs_S [] (x :: (z_T2 ++ [z_new])) s scr) = some (.inl none, cs_S [] (x :: z_T3) (s + 136) scr) := fun x s => c_26 (n := 33) (by rw [z_L2]) (by decide)
  have g4 : ∀ x s, np_X 56 0 [some (.ref 49), none] [] (cs_S [] (x :: (z_T3 ++ [z_hnew])) s scr) = some (.inl none, cs_S [] (x :: z_T4) (s + 1192) scr) := fun x s => c_56 (n := 49) (by rw [z_L3]) (by decide)
  have g5 : ∀ x s, np_X 11 0 [some (.ref 179)] [] (cs_S [] (x :: (z_T4 ++ [z_cnew])) s scr) = some (.inl none, cs_S [] (x :: z_T5) (s + 65) scr) := fun x s => c_11 (n := 179) (by rw [z_L4]) (by decide)
  have i1 : ∀ (x : nv_Ob) (fs : List Value) s, nv_isO (cs_S [] [x, .inr (2, fs)] s scr) 2 1 = true := fun x fs s => c_iso (T := []) rfl
  have i2 : ∀ (x : nv_Ob) (fs : List Value) s, nv_isO (cs_S [] (x :: (z_T1 ++ [.inr (2, fs)])) s scr) 2 17 = true := fun x fs s => c_iso (by rw [z_L1])
  have i3 : ∀ (x : nv_Ob) (fs : List Value) s, nv_isO (cs_S [] (x :: (z_T2 ++ [.inr (2, fs)])) s scr) 2 33 = true := fun x fs s => c_iso (by rw [z_L2])
  have i4 : ∀ (x : nv_Ob) (fs : List Value) s, nv_isO (cs_S [] (x :: (z_T3 ++ [.inr (3, fs)])) s scr) 3 49 = true := fun x fs s => c_iso (by rw [z_L3])
  have i5 : ∀ (x : nv_Ob) (fs : List Value) s, nv_isO (cs_S [] (x :: (z_T4 ++ [.inr (1, fs)])) s scr) 1 179 = true := fun x fs s => c_iso (by rw [z_L4])
  have t6 : z_T5 ++ [Sum.inl (0, 10, .inl (fun _ => 0))] = z_T6 := rfl
  rw [zn] at g1 g2 g3
  rw [zh] at g4
  rw [zc] at g5
  unfold z_nnew z_nav
  simp only [e71_0, e71_0u, e71_1, e71_4, e71_4u, e71_5, e71_8, e71_8i, e71_9, e71_12, e71_15, e71_15u, e71_16, e71_19, e71_19i, e71_20, e71_23, e71_26, e71_26u, e71_27, e71_30, e71_30i, e71_31, e71_34, e71_37, e71_37u, e71_38, e71_41, e71_41i, e71_42, e71_45, e71_48, e71_48u, e71_49, e71_52, e71_52i, e71_53, e71_56, e71_59, e71_59u, e71_60, e71_62, e71_64, e71_67, e71_67u, e71_68, e71_69, e71_72, e71_72u, e71_73, e71_74, e71_77, e71_77u, e71_78, e71_79, e71_82, e71_82u, e71_83, e71_84, e71_87, e71_87u, e71_88, e71_89, e71_92, np_len0, List.length_cons, List.length_nil, Nat.reduceLeDiff, Nat.reduceAdd, Nat.reduceLT, Nat.zero_add, Nat.zero_lt_succ, c0, c1, c2, not_false_eq_true, c_21, cs_221, cs_new, List.cons_append, List.nil_append, c_sto, nr_a, ft_a, nr_o, ft_o, np_b_s, np_ni, ft_i, np_nb0, ft_b, List.set_cons_zero, List.set_cons_succ, z_L1, z_L2, z_L3, z_L4, z_L5, i1, i2, i3, i4, i5, g1, g2, g3, g4, g5, np_aft_u, t6]
end
