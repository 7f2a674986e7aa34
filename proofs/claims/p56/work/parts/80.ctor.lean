/-! THE PURE PART, 50: the constructors: the heap as a list, P what stands, Q what is being made. -/
def cs_S (P Q : List nv_Ob) (sl : Nat) (scr : nv_Scr) : nv_St := (fun q => (P ++ Q)[q]?, P.length + Q.length, 0, sl, scr)
section
variable {P Q R : List nv_Ob} {sl : Nat} {scr : nv_Scr} {r ci k : Nat} {ty : FieldType} {v : Value} {o o' : nv_Ob}
theorem cs_21 : (cs_S P Q sl scr).2.1 = P.length + Q.length := id rfl
theorem cs_221 : (cs_S P Q sl scr).2.2.1 = 0 := id rfl
theorem cs_sh : cs_S (P ++ Q) R sl scr = cs_S P (Q ++ R) sl scr := by
  unfold cs_S
  rw [List.append_assoc, List.length_append, List.length_append, Nat.add_assoc]
theorem cs_at : (cs_S P Q sl scr).1 (P.length + r) = Q[r]? := by
  show (P ++ Q)[P.length + r]? = Q[r]?
  rw [List.getElem?_append_right (by omega), Nat.add_sub_cancel_left]
theorem cs_at0 : (cs_S P Q sl scr).1 P.length = Q[0]? := cs_at (r := 0)
theorem cs_new {m : Nat} : nv_mk (cs_S P Q sl scr) o m = cs_S P (Q ++ [o]) (sl + m) scr := by
  unfold nv_mk cs_S
  refine Prod.ext ?_ (Prod.ext ?_ (Prod.ext rfl (Prod.ext rfl rfl)))
  · funext q
    show (if q = P.length + Q.length then some o else (P ++ Q)[q]?) = (P ++ (Q ++ [o]))[q]?
    rw [← List.append_assoc]
    have hM : (P ++ Q).length = P.length + Q.length := List.length_append
    generalize P ++ Q = M at hM ⊢
    by_cases h : q < M.length
    · rw [if_neg (by omega), List.getElem?_append_left h]
    · rw [List.getElem?_append_right (by omega)]
      by_cases e : q = P.length + Q.length
      · rw [if_pos e, show q - M.length = 0 by omega]
        rfl
      · rw [if_neg e, List.getElem?_eq_none (by omega), List.getElem?_eq_none (by rw [List.length_singleton]; omega)]
  · show P.length + Q.length + 1 = P.length + (Q ++ [o]).length
    rw [List.length_append, List.length_singleton]
    omega
theorem cs_wr (h : Q[r]? = some o) : nv_wr (cs_S P Q sl scr) (P.length + r) o' = cs_S P (Q.set r o') sl scr := by
  have hr : r < Q.length := (List.getElem?_eq_some_iff.mp h).1
  unfold nv_wr
  refine Prod.ext ?_ (Prod.ext ?_ rfl)
  · funext q
    show (if q = P.length + r then some o' else (P ++ Q)[q]?) = (P ++ Q.set r o')[q]?
    by_cases h1 : q < P.length
    · rw [if_neg (by omega), List.getElem?_append_left h1, List.getElem?_append_left h1]
    · rw [List.getElem?_append_right (by omega), List.getElem?_append_right (by omega), List.getElem?_set]
      by_cases e : q = P.length + r
      · subst e
        rw [if_pos rfl, if_pos (by omega), if_pos (by omega)]
      · rw [if_neg e, if_neg (by omega)]
  · show P.length + Q.length = P.length + (Q.set r o').length
    rw [List.length_set]
theorem cs_sto (hn : narrow ty v = v) (hf : fits ty v = true) {fs : List Value} (h : Q[r]? = some (.inr (ci, fs))) (hk : k < fs.length) : nv_sto (cs_S P Q sl scr) ci k ty (P.length + r) v = some (cs_S P (Q.set r (.inr (ci, fs.set k v))) sl scr) := by
  unfold nv_sto
  rw [cs_at, h]
  simp only
  rw [if_pos ⟨trivial, hk, hn, hf⟩, cs_wr h]
theorem cs_fld {fs : List Value} (h : Q[r]? = some (.inr (ci, fs))) : nv_fld (cs_S P Q sl scr) ci k (P.length + r) = fs[k]? := by
  unfold nv_fld
  rw [cs_at, h]
  simp
theorem cs_iso {fs : List Value} (h : Q[r]? = some (.inr (ci, fs))) : nv_isO (cs_S P Q sl scr) ci (P.length + r) = true := by
  unfold nv_isO
  rw [cs_at, h]
  simp
theorem cs_len {t m : Nat} {f : (Nat → Int32) ⊕ (Nat → Option Nat)} (h : Q[r]? = some (.inl (t, m, f))) : nv_len (cs_S P Q sl scr) t (P.length + r) = some m := by
  unfold nv_len
  rw [cs_at, h]
  simp
theorem cs_wrq {t m : Nat} {f : Nat → Option Nat} {x : Int32} {w : Nat} (h : Q[r]? = some (.inl (t, m, .inr f))) (h0 : ¬ x < 0) (h1 : x.toNatClampNeg < m) : nv_wrq (cs_S P Q sl scr) t (P.length + r) x w = some (cs_S P (Q.set r (.inl (t, m, .inr (va_up f x.toNatClampNeg (some w))))) sl scr) := by
  unfold nv_wrq
  rw [cs_at, h]
  simp only
  rw [if_pos ⟨trivial, h0, h1⟩, cs_wr h]
theorem cs_id (h : Q[r]? = some o) : nv_wr (cs_S P Q sl scr) (P.length + r) o = cs_S P Q sl scr := by
  rw [cs_wr h]
  congr 1
  exact List.ext_getElem? fun i => by
    rw [List.getElem?_set]
    by_cases e : r = i
    · subst e
      have hr : r < Q.length := (List.getElem?_eq_some_iff.mp h).1
      rw [if_pos rfl, if_pos hr, h]
    · rw [if_neg e]
def z_acc : nv_Ob := .inr (0, [.int 0, .int 0, .int 20, .int 0, .int 0, .int 0, .int 0, .int 0])
def z_sp (i : Nat) : nv_Ob := .inr (4, np_z9.set 0 (.int (nI i)))
theorem n8 (h : Q[r]? = some (.inr (0, np_z8))) (ha : P.length + r < 1000000) : np_X 8 0 [some (.ref (P.length + r))] [] (cs_S P Q sl scr) = some (.inl none, cs_S P (Q.set r z_acc) sl scr) := by
  have e := m8 (σ := cs_S P Q sl scr) ha
  rw [cs_id h, cs_wr h] at e
  exact e
theorem n60 {i : Nat} (h : Q[r]? = some (.inr (4, np_z9))) (ha : P.length + r < 1000000) : np_X 60 0 [some (.ref (P.length + r)), some (.int (nI i))] [] (cs_S P Q sl scr) = some (.inl none, cs_S P (Q.set r (z_sp i)) sl scr) := by
  have e := m60 (σ := cs_S P Q sl scr) (i := nI i) ha
  rw [cs_id h, cs_wr h] at e
  exact e
end
theorem nr_o {s : String} {a : Nat} : narrow (.object s) (.ref a) = .ref a := id rfl
theorem nr_a {t : FieldType} {a : Nat} : narrow (.array t) (.ref a) = .ref a := id rfl
theorem nr_l {x : Int64} : narrow .long (.long x) = .long x := id rfl
theorem ft_o {s : String} {a : Nat} : fits (.object s) (.ref a) = true := id rfl
theorem ft_a {t : FieldType} {a : Nat} : fits (.array t) (.ref a) = true := id rfl
theorem ft_l {x : Int64} : fits .long (.long x) = true := id rfl
theorem ft_i {x : Int32} : fits .int (.int x) = true := id rfl
theorem ft_b : fits .boolean (.int 0) = true := id rfl
