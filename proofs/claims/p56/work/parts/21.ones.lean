/-! SOUNDNESS OF THE ABSTRACT CODE, 2: each deed (written by wip/p56/gen20.py). -/
/-- what is owed of one deed: y its method -/
def nv_one (y : Nat) (pc : Nat) : nv_Ins → Prop
  | .inl op => nv_ok (np_M y) pc op
  | .inr (.inl (y', k, nx, o)) => nx = pc + 3 ∧ nv_SC (np_M y) (np_M y') pc k o ∧ (∀ E, np_hd y pc E = none → ∀ x ∈ tableOf (np_M y).2.2.2.2.1, covers x pc = false) ∧ (∀ E t i, np_hd y pc E = some (t, i) → (∀ op, (np_P.1 y)[t]? ≠ some (some op)) ∨ nv_SK (np_M y) pc E t i)
  | .inr (.inr E) => nv_ST (np_M y) pc E
def nv_all (y : Nat) : Nat → List (Option nv_Ins) → Prop
  | _, [] => True
  | pc, none :: r => nv_all y (pc + 1) r
  | pc, some i :: r => nv_one y pc i ∧ nv_all y (pc + 1) r
theorem nv_all_at {y : Nat} : ∀ (l : List (Option nv_Ins)) (pc : Nat), nv_all y pc l → ∀ (k : Nat) (i : nv_Ins), l[k]? = some (some i) → nv_one y (pc + k) i
  | [], pc, _, k, i, h => by simp at h
  | none :: r, pc, ha, k, i, h => by
    cases k with
    | zero => simp at h
    | succ k =>
      have := nv_all_at r (pc + 1) ha k i (by simpa using h)
      rw [show pc + (k + 1) = pc + 1 + k by omega]
      exact this
  | some j :: r, pc, ha, k, i, h => by
    cases k with
    | zero =>
      simp at h
      subst h
      exact ha.1
    | succ k =>
      have := nv_all_at r (pc + 1) ha.2 k i (by simpa using h)
      rw [show pc + (k + 1) = pc + 1 + k by omega]
      exact this
theorem na_z {y pc : Nat} : nv_all y pc [] := trivial
theorem na_n {y pc q : Nat} {r : List (Option nv_Ins)} (hq : pc + 1 = q) (h : nv_all y q r) : nv_all y pc (none :: r) := by subst hq; exact h
theorem na_1 {y pc q : Nat} {i : nv_Ins} {r : List (Option nv_Ins)} (hi : nv_one y pc i) (hq : pc + 1 = q) (h : nv_all y q r) : nv_all y pc (some i :: r) := by subst hq; exact ⟨hi, h⟩
theorem na_2 {y pc q : Nat} {i : nv_Ins} {r : List (Option nv_Ins)} (hi : nv_one y pc i) (hq : pc + 2 = q) (h : nv_all y q r) : nv_all y pc (some i :: none :: r) := by subst hq; exact ⟨hi, h⟩
theorem na_3 {y pc q : Nat} {i : nv_Ins} {r : List (Option nv_Ins)} (hi : nv_one y pc i) (hq : pc + 3 = q) (h : nv_all y q r) : nv_all y pc (some i :: none :: none :: r) := by subst hq; exact ⟨hi, h⟩
/-- a call in a method without handlers -/
theorem one_c {y pc y' k : Nat} {o : Option Nat} (h0 : np_hls.getD y [] = []) (h1 : (np_M y).2.2.2.2.1 = []) (hs : nv_SC (np_M y) (np_M y') pc k o) : nv_one y pc (.inr (.inl (y', k, pc + 3, o))) := by
  refine ⟨rfl, hs, fun E _ x hx => ?_, fun E t i h => ?_⟩
  · rw [h1] at hx; cases hx
  · unfold np_hd at h
    rw [h0] at h
    cases h
/-- a call in a method with handlers, within their reach -/
theorem one_h {y pc y' k : Nat} {o : Option Nat} (hs : nv_SC (np_M y) (np_M y') pc k o) (hin : (np_hls.getD y []).any (fun q => decide (q.1 ≤ pc) && decide (pc < q.2.1)) = true)
    (hst : ∀ op, (np_P.1 y)[9999]? ≠ some (some op)) (hk : ∀ q ∈ np_hls.getD y [], q.1 ≤ pc → pc < q.2.1 → nv_SK (np_M y) pc q.2.2.1 q.2.2.2.1 q.2.2.2.2) : nv_one y pc (.inr (.inl (y', k, pc + 3, o))) := by
  refine ⟨rfl, hs, fun E h => ?_, fun E t i h => ?_⟩
  · unfold np_hd at h
    rw [if_pos hin] at h
    cases h
  · unfold np_hd at h
    rw [if_pos hin] at h
    split at h
    · rename_i q hq
      cases h
      have h1 := List.mem_of_find?_eq_some hq
      have h2 := List.find?_some hq
      simp only [Bool.and_eq_true, decide_eq_true_eq, beq_iff_eq] at h2
      obtain ⟨⟨g1, g2⟩, g3⟩ := h2
      rw [← g3]
      exact Or.inr (hk q h1 g1 g2)
    · cases h
      exact Or.inl hst
/-- a call in a method with handlers, beyond their reach -/
theorem one_o {y pc y' k : Nat} {o : Option Nat} (hs : nv_SC (np_M y) (np_M y') pc k o) (hin : (np_hls.getD y []).any (fun q => decide (q.1 ≤ pc) && decide (pc < q.2.1)) = false) (hc : ∀ x ∈ tableOf (np_M y).2.2.2.2.1, covers x pc = false) : nv_one y pc (.inr (.inl (y', k, pc + 3, o))) := by
  refine ⟨rfl, hs, fun E _ => hc, fun E t i h => ?_⟩
  unfold np_hd at h
  rw [if_neg (by rw [hin]; decide)] at h
  cases h
