/-! THE PURE PART, 51: the constructor of a game. -/
def z_arr (b i : Nat) : nv_Ob := .inl (2, 12, .inr (fun q => if q < i then some (b + 4 + q) else none))
def z_game (b : Nat) : nv_Ob := .inr (2, [.ref (b + 1), .ref (b + 2), .ref (b + 3), .int 0, .int 0, .int 0, .int 0, .int 0, .int 0, .int 0, .long 0, .int 0])
def z_new : nv_Ob := .inr (2, [.null, .null, .null, .int 0, .int 0, .int 0, .int 0, .int 0, .int 0, .int 0, .long 0, .int 0])
/-- a game with i spoons made -/
def z_Q (b i : Nat) : List nv_Ob := z_game b :: z_arr b i :: z_acc :: z_acc :: (List.range i).map z_sp
theorem z_Q_len {b i : Nat} : (z_Q b i).length = 4 + i := by
  unfold z_Q
  simp
  omega
section
variable {P : List nv_Ob} {sl : Nat} {scr : nv_Scr}
theorem np_of12' : Int32.ofNat 12 = 12 := id rfl
theorem n26a (hP : P.length + 16 < 1000000) : np_X 26 0 [some (.ref P.length), none] [] (cs_S P [z_new] sl scr) = np_X 26 82 [some (.ref P.length), some (.int (nI 0))] [] (cs_S P (z_Q P.length 0) (sl + 28) scr) := by
  have a0 : P.length < 1000000 := by omega
  have a1 : P.length + 1 < 1000000 := by omega
  have a2 : P.length + 2 < 1000000 := by omega
  have a3 : P.length + 3 < 1000000 := by omega
  have c0 : ¬ (12 : Int32) < 0 := by decide
  have c1 : (12 : Int32).toNatClampNeg = 12 := by decide
  have c2 : (12 : Nat) ≤ 1000 := by decide
  have z0 : nI 0 = 0 := rfl
  -- the row
  have s1 : ∀ (g : List Value) (v : Value) (ty : FieldType) (k : Nat) (Q : List nv_Ob), narrow ty v = v → fits ty v = true → k < g.length → nv_sto (cs_S P (.inr (2, g) :: Q) (sl + 12) scr) 2 k ty P.length v = some (cs_S P (.inr (2, g.set k v) :: Q) (sl + 12) scr) := fun g v ty k Q h1 h2 h3 => cs_sto (r := 0) h1 h2 rfl h3
  have s2 : ∀ (g : List Value) (v : Value) (ty : FieldType) (k : Nat) (Q : List nv_Ob), narrow ty v = v → fits ty v = true → k < g.length → nv_sto (cs_S P (.inr (2, g) :: Q) (sl + 12 + 8) scr) 2 k ty P.length v = some (cs_S P (.inr (2, g.set k v) :: Q) (sl + 12 + 8) scr) := fun g v ty k Q h1 h2 h3 => cs_sto (r := 0) h1 h2 rfl h3
  have s3 : ∀ (g : List Value) (v : Value) (ty : FieldType) (k : Nat) (Q : List nv_Ob), narrow ty v = v → fits ty v = true → k < g.length → nv_sto (cs_S P (.inr (2, g) :: Q) (sl + 12 + 8 + 8) scr) 2 k ty P.length v = some (cs_S P (.inr (2, g.set k v) :: Q) (sl + 12 + 8 + 8) scr) := fun g v ty k Q h1 h2 h3 => cs_sto (r := 0) h1 h2 rfl h3
  have e8a : ∀ (x y : nv_Ob), np_X 8 0 [some (.ref (P.length + 2))] [] (cs_S P [x, y, .inr (0, np_z8)] (sl + 12 + 8) scr) = some (.inl none, cs_S P [x, y, z_acc] (sl + 12 + 8) scr) := fun x y => n8 (r := 2) rfl a2
  have e8b : ∀ (x y z : nv_Ob), np_X 8 0 [some (.ref (P.length + 3))] [] (cs_S P [x, y, z, .inr (0, np_z8)] (sl + 12 + 8 + 8) scr) = some (.inl none, cs_S P [x, y, z, z_acc] (sl + 12 + 8 + 8) scr) := fun x y z => n8 (r := 3) rfl a3
  have i2 : ∀ (x y : nv_Ob) (f : List Value), nv_isO (cs_S P [x, y, .inr (0, f)] (sl + 12 + 8) scr) 0 (P.length + 2) = true := fun x y f => cs_iso (r := 2) rfl
  have i3 : ∀ (x y z : nv_Ob) (f : List Value), nv_isO (cs_S P [x, y, z, .inr (0, f)] (sl + 12 + 8 + 8) scr) 0 (P.length + 3) = true := fun x y z f => cs_iso (r := 3) rfl
  have z8 : np_z8 = [.int 0, .int 0, .int 0, .int 0, .int 0, .int 0, .int 0, .int 0] := rfl
  rw [z8] at e8a e8b
  have ar : z_arr P.length 0 = .inl (2, 12, .inr (fun _ => none)) := by
    unfold z_arr
    congr 3
  have l1 : ∀ (x : nv_Ob), ([x] : List nv_Ob).length = 1 := fun _ => rfl
  have l2 : ∀ (x y : nv_Ob), ([x, y] : List nv_Ob).length = 2 := fun _ _ => rfl
  have l3 : ∀ (x y z : nv_Ob), ([x, y, z] : List nv_Ob).length = 3 := fun _ _ _ => rfl
  unfold z_Q z_game z_new
  rw [ar, z0]
  simp only [e26_0, e26_0u, e26_1, e26_4, e26_4u, e26_5, e26_7, e26_10, e26_13, e26_13u, e26_14, e26_17, e26_17i, e26_18, e26_21, e26_24, e26_24u, e26_25, e26_28, e26_28i, e26_29, e26_32, e26_35, e26_35u, e26_36, e26_37, e26_40, e26_40u, e26_41, e26_42, e26_45, e26_45u, e26_46, e26_47, e26_50, e26_50u, e26_51, e26_52, e26_55, e26_55u, e26_56, e26_57, e26_60, e26_60u, e26_61, e26_62, e26_65, e26_65u, e26_66, e26_67, e26_70, e26_70u, e26_71, e26_72, e26_75, e26_75u, e26_76, e26_77, e26_80, e26_81n, e26_81i, e26_81r, e26_81v, e26_83, e26_83u, e26_84, e26_87, e26_88, e26_91, e26_91u, e26_92, e26_95, e26_96, e26_99, e26_99i, e26_100, e26_101, e26_104, e26_105n, e26_105i, e26_105r, e26_105v, e26_108, e26_111, a0, a1, a2, a3, np_len0, List.length_cons, List.length_nil, Nat.reduceLeDiff, Nat.reduceAdd, Nat.reduceLT, Nat.zero_add, Nat.zero_lt_succ, c0, c1, c2, not_false_eq_true, cs_21, cs_221, cs_new, List.cons_append, List.nil_append, s1, s2, s3, nr_a, nr_o, ft_a, ft_o, np_b_s, i2, i3, e8a, e8b, np_aft_u, np_ni, ft_i, np_nb0, ft_b, nr_l, ft_l, List.set_cons_zero, List.set_cons_succ, List.range_zero, List.map_nil]
end
