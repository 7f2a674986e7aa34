/-! SOUNDNESS OF THE ABSTRACT MACHINE, 1: what it means that a state of the real machine holds an abstract one. -/
/-- the first own address; the static addresses; numbers of kinds and of their fields; kinds of rows -/
abbrev nv_X : Type := Nat × (Nat → Value) × va_G × (Nat → ClassId)
def nv_rv (X : nv_X) : Value → Value
  | .ref a => if a < nv_off then .ref (X.1 + a) else X.2.1 (a - nv_off)
  | v => v
def nv_ob (X : nv_X) : nv_Ob → va_E
  | .inl (t, n, .inl f) => .inl (X.2.2.2 t, n, .inl f)
  | .inl (t, n, .inr f) => .inl (X.2.2.2 t, n, .inr (.inr (.inr (.inr (fun j => (f j).map (fun a => X.1 + a))))))
  | .inr (ci, fs) => .inr (ci, fs.map (nv_rv X))
abbrev nv_cl : List vw_C := [(RX1, TX1, 8), (RX2, TX2, 7), (RX4, TX4, 12), (RX5, TX5, 3), (RX6, TX6, 9), (RX7, TX7, 11)]
abbrev nv_tys (X : nv_X) : List (ClassId × FieldType) := [(X.2.2.2 0, .char), (X.2.2.2 1, .int), (X.2.2.2 2, .object RX6), (X.2.2.2 3, .object RX4)]
abbrev nv_A (X : nv_X) : Nat → Prop := fun q => X.1 ≤ q
def nv_HR (X : nv_X) (h : Nat → Option nv_Ob) (H : Heap) : Prop := ∀ (a : Nat) (o : nv_Ob), h a = some o → a < nv_off ∧ va_at X.2.2.1 nv_cl (X.1 + a, nv_ob X o) H
def nv_big : List Cond := lw_tbl.filter goodWord
theorem nv_bigT {args : Array Value} {s : State} (h : ∀ w ∈ lw_tbl, w.before args s = true) : ∀ w ∈ nv_big, w.before args s = true := fun w hw => h w (List.mem_filter.mp hw).1
theorem nv_bigGood : ∀ w ∈ nv_big, goodWord w = true := fun w hw => (List.mem_filter.mp hw).2
theorem nv_in {w : Cond} (i : Nat) (h : lw_tbl[i]? = some w) (hg : goodWord w = true) : w ∈ nv_big := List.mem_filter.mpr ⟨List.mem_of_getElem? h, hg⟩
-- locals
def nv_LH (X : nv_X) (lA : Array Slot) (nL : Nat) (L : nv_Ls) : Prop := L.length = nL ∧ lA.size = nL ∧ lv_wf lA ∧ ∀ (i : Nat) (v : Value), L[i]? = some (some v) → lA[i]? = some (.val (nv_rv X v))
def nv_lq (X : nv_X) : Nat → nv_Ls → List (Nat × Value)
  | _, [] => []
  | i, none :: r => nv_lq X (i + 1) r
  | i, some v :: r => (i, nv_rv X v) :: nv_lq X (i + 1) r
theorem nv_lq_mem {X : nv_X} : ∀ (L : nv_Ls) (i : Nat) (q : Nat × Value), q ∈ nv_lq X i L ↔ ∃ (j : Nat) (v : Value), L[j]? = some (some v) ∧ q = (i + j, nv_rv X v)
  | [], i, q => by simp [nv_lq]
  | none :: r, i, q => by
    rw [nv_lq, nv_lq_mem r (i + 1) q]
    constructor
    · rintro ⟨j, v, h1, h2⟩
      exact ⟨j + 1, v, by simpa using h1, by rw [h2]; congr 1; omega⟩
    · rintro ⟨j, v, h1, h2⟩
      cases j with
      | zero => simp at h1
      | succ j => exact ⟨j, v, by simpa using h1, by rw [h2]; congr 1; omega⟩
  | some w :: r, i, q => by
    rw [nv_lq, List.mem_cons, nv_lq_mem r (i + 1) q]
    constructor
    · rintro (h | ⟨j, v, h1, h2⟩)
      · exact ⟨0, w, by simp, by rw [h]; simp⟩
      · exact ⟨j + 1, v, by simpa using h1, by rw [h2]; congr 1; omega⟩
    · rintro ⟨j, v, h1, h2⟩
      cases j with
      | zero =>
        simp at h1
        subst h1
        exact Or.inl (by simpa using h2)
      | succ j => exact Or.inr ⟨j, v, by simpa using h1, by rw [h2]; congr 1; omega⟩
theorem nv_LH.has {X : nv_X} {lA : Array Slot} {nL : Nat} {L : nv_Ls} (h : nv_LH X lA nL L) : lv_has lA nL (nv_lq X 0 L) := by
  refine ⟨h.2.1, h.2.2.1, fun q hq => ?_⟩
  obtain ⟨j, v, h1, rfl⟩ := (nv_lq_mem L 0 q).mp hq
  simpa using h.2.2.2 j v h1
theorem nv_LH.at {X : nv_X} {lA : Array Slot} {nL : Nat} {L : nv_Ls} (h : nv_LH X lA nL L) {i : Nat} {v : Value} (hi : L[i]? = some (some v)) : lA[i]? = some (.val (nv_rv X v)) := h.2.2.2 i v hi
/-- static values are references or null -/
def nv_sv (X : nv_X) : Prop := ∀ k, ∃ r : Option Nat, X.2.1 k = va_rf r
theorem nv_rv_ref {X : nv_X} (hX : nv_sv X) (a : Nat) : ∃ r : Option Nat, nv_rv X (.ref a) = va_rf r := by
  show ∃ r : Option Nat, (if a < nv_off then Value.ref (X.1 + a) else X.2.1 (a - nv_off)) = va_rf r
  by_cases h : a < nv_off
  · rw [if_pos h]; exact ⟨some (X.1 + a), rfl⟩
  · rw [if_neg h]; exact hX _
theorem nv_rv_cat {X : nv_X} (hX : nv_sv X) (v : Value) : (nv_rv X v).category = v.category := by
  cases v with
  | ref a =>
    obtain ⟨r, h⟩ := nv_rv_ref hX a
    rw [h]
    cases r <;> rfl
  | _ => rfl
theorem nv_rv_own {X : nv_X} {a : Nat} (h : a < nv_off) : nv_rv X (.ref a) = .ref (X.1 + a) := by
  show (if a < nv_off then Value.ref (X.1 + a) else X.2.1 (a - nv_off)) = _
  rw [if_pos h]
theorem nv_drop2_at {ls : nv_Ls} {i j : Nat} {v : Value} (h : (nv_drop2 ls i)[j]? = some (some v)) : ls[j]? = some (some v) ∧ (j = i → v.category = 1) := by
  unfold nv_drop2 at h
  have key : ∀ w, ls[i]? = some (some w) → w.category = 2 → (ls.set i none)[j]? = some (some v) → ls[j]? = some (some v) ∧ (j = i → v.category = 1) := by
    intro w hw hc hs
    by_cases hj : j = i
    · subst hj
      have hl : j < ls.length := (List.getElem?_eq_some_iff.mp hw).1
      rw [List.getElem?_set_self hl] at hs
      cases hs
    · rw [List.getElem?_set_ne (Ne.symm hj)] at hs
      exact ⟨hs, fun e => absurd e hj⟩
  split at h
  · rename_i x hw
    exact key _ hw rfl h
  · rename_i x hw
    exact key _ hw rfl h
  · rename_i h1 h2
    refine ⟨h, fun e => ?_⟩
    subst e
    cases v with
    | long x => exact absurd h (h1 x)
    | double x => exact absurd h (h2 x)
    | _ => rfl
theorem nv_drop2_len {ls : nv_Ls} {i : Nat} : (nv_drop2 ls i).length = ls.length := by
  unfold nv_drop2
  split <;> simp
theorem nv_setL_len {ls : nv_Ls} {i : Nat} {v : Value} : (nv_setL ls i v).length = ls.length := by
  unfold nv_setL
  split <;> simp [nv_drop2_len]
theorem nv_setL_at {ls : nv_Ls} {i j : Nat} {v w : Value} (hi : i < ls.length) (h : (nv_setL ls i v)[j]? = some (some w)) : (j = i ∧ w = v) ∨ (j ≠ i ∧ ls[j]? = some (some w) ∧ ¬ (j + 1 = i ∧ w.category = 2)) := by
  unfold nv_setL at h
  split at h
  · by_cases hj : j = 0
    · subst hj
      rw [List.getElem?_set_self hi] at h
      cases h
      exact Or.inl ⟨rfl, rfl⟩
    · rw [List.getElem?_set_ne (Ne.symm hj)] at h
      exact Or.inr ⟨hj, h, fun e => by omega⟩
  · rename_i k
    by_cases hj : j = k + 1
    · subst hj
      rw [List.getElem?_set_self (by rw [nv_drop2_len]; exact hi)] at h
      cases h
      exact Or.inl ⟨rfl, rfl⟩
    · rw [List.getElem?_set_ne (Ne.symm hj)] at h
      obtain ⟨h1, h2⟩ := nv_drop2_at h
      refine Or.inr ⟨hj, h1, fun e => ?_⟩
      have := h2 (by omega)
      omega
theorem nv_LH.set {X : nv_X} (hX : nv_sv X) {lA lA' : Array Slot} {nL i : Nat} {L : nv_Ls} {v w : Value} (h : nv_LH X lA nL L) (hi : i < nL) (hw : nv_rv X v = w)
    (h' : lv_has lA' nL ((i, w) :: (nv_lq X 0 L).filter (fun q => !(q.1 == i) && !(q.1 + 1 == i && q.2.category == 2)))) : nv_LH X lA' nL (nv_setL L i v) := by
  subst hw
  refine ⟨by rw [nv_setL_len]; exact h.1, h'.1, h'.2.1, fun j u hu => ?_⟩
  rcases nv_setL_at (by rw [h.1]; exact hi) hu with ⟨rfl, rfl⟩ | ⟨h1, h2, h3⟩
  · exact h'.2.2 _ List.mem_cons_self
  · refine h'.2.2 (j, nv_rv X u) (List.mem_cons_of_mem _ (List.mem_filter.mpr ⟨(nv_lq_mem L 0 _).mpr ⟨j, u, h2, by simp⟩, ?_⟩))
    simp only [nv_rv_cat hX]
    simp
    exact ⟨h1, Classical.not_and_iff_not_or_not.mp h3⟩
theorem nv_LH.set2 {X : nv_X} (hX : nv_sv X) {lA lA' : Array Slot} {nL i : Nat} {L : nv_Ls} {v w : Value} (h : nv_LH X lA nL L) (hi : i + 1 < nL) (hw : nv_rv X v = w)
    (h' : lv_has lA' nL ((i, w) :: (nv_lq X 0 L).filter (fun q => !(q.1 == i) && (!(q.1 == i + 1) && !(q.1 + 1 == i && q.2.category == 2))))) : nv_LH X lA' nL (nv_setL2 L i v) := by
  subst hw
  refine ⟨by rw [nv_setL2, List.length_set, nv_setL_len]; exact h.1, h'.1, h'.2.1, fun j u hu => ?_⟩
  unfold nv_setL2 at hu
  by_cases hj : j = i + 1
  · subst hj
    rw [List.getElem?_set_self (by rw [nv_setL_len, h.1]; exact hi)] at hu
    cases hu
  · rw [List.getElem?_set_ne (Ne.symm hj)] at hu
    rcases nv_setL_at (by rw [h.1]; omega) hu with ⟨rfl, rfl⟩ | ⟨h1, h2, h3⟩
    · exact h'.2.2 _ List.mem_cons_self
    · refine h'.2.2 (j, nv_rv X u) (List.mem_cons_of_mem _ (List.mem_filter.mpr ⟨(nv_lq_mem L 0 _).mpr ⟨j, u, h2, by simp⟩, ?_⟩))
      simp only [nv_rv_cat hX]
      simp
      exact ⟨h1, hj, Classical.not_and_iff_not_or_not.mp h3⟩
