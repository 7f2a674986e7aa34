/-! THE PURE PART, 23: a game in whole numbers: V. What always holds of it, and what keeps that. -/
abbrev gm_V : Type := Nat → Nat → Nat
def vu (V : gm_V) (a k n : Nat) : gm_V := fun b j => if b = a ∧ j = k then n else V b j
def sn (h : Nat → Nat) : Nat → Nat → Nat
  | _, 0 => 0
  | i, n + 1 => h i + sn h (i + 1) n
theorem sn_s {h : Nat → Nat} {i n : Nat} : sn h i (n + 1) = h i + sn h (i + 1) n := rfl
theorem sn_congr {h g : Nat → Nat} : ∀ (n i : Nat), (∀ q, i ≤ q → q < i + n → h q = g q) → sn h i n = sn g i n
  | 0, _, _ => rfl
  | n + 1, i, e => by
    rw [sn_s, sn_s, e i (Nat.le_refl _) (by omega), sn_congr n (i + 1) (fun q h1 h2 => e q (by omega) (by omega))]
theorem sn_upd {h g : Nat → Nat} {j : Nat} : ∀ (n i : Nat), i ≤ j → j < i + n → (∀ q, i ≤ q → q < i + n → ¬ q = j → h q = g q) → sn h i n + g j = sn g i n + h j
  | 0, i, h1, h2, _ => by omega
  | n + 1, i, h1, h2, e => by
    rw [sn_s, sn_s]
    by_cases hj : i = j
    · subst hj
      rw [sn_congr n (i + 1) (fun q h3 h4 => e q (by omega) (by omega) (by omega))]
      omega
    · have := sn_upd n (i + 1) (by omega) (by omega) (fun q h3 h4 => e q (by omega) (by omega))
      have := e i (Nat.le_refl _) (by omega) hj
      omega
theorem sn_le {h : Nat → Nat} {j : Nat} : ∀ (n i : Nat), i ≤ j → j < i + n → h j ≤ sn h i n
  | 0, i, h1, h2 => by omega
  | n + 1, i, h1, h2 => by
    rw [sn_s]
    by_cases hj : i = j
    · subst hj; omega
    · have := sn_le (h := h) (j := j) n (i + 1) (by omega) (by omega)
      omega
theorem sn_zero {h : Nat → Nat} : ∀ (n i : Nat), sn h i n = 0 → ∀ q, i ≤ q → q < i + n → h q = 0 := fun n i e q h1 h2 => by
  have := sn_le (h := h) (j := q) n i h1 h2
  omega
def gm_rep (F : Nat → Nat → Int32) (V : gm_V) : Prop := (∀ i, i < 12 → ∀ j, j < 9 → F (5 + i) j = nI (V (5 + i) j)) ∧ (∀ j, j < 8 → F 3 j = nI (V 3 j) ∧ F 4 j = nI (V 4 j)) ∧ (∀ j, j = 3 ∨ j = 4 ∨ j = 5 ∨ j = 6 ∨ j = 8 ∨ j = 9 → F 1 j = nI (V 1 j))
def gm_ct (V : gm_V) (f i : Nat) : Nat := if V (5 + i) 5 = 0 then 0 else if V (5 + i) 1 = f then 1 else 0
def gm_cu (V : gm_V) (f i : Nat) : Nat := if V (5 + i) 1 = f then V (5 + i) 6 else 0
def gm_cnt (V : gm_V) (f : Nat) : Nat := sn (gm_ct V f) 0 12
def gm_cub (V : gm_V) (f : Nat) : Nat := sn (gm_cu V f) 0 12
/-- bounds of a spoon -/
def gmA (V : gm_V) : Prop := ∀ i, i < 12 → V (5 + i) 0 = i ∧ V (5 + i) 1 < 2 ∧ V (5 + i) 2 < 10 ∧ V (5 + i) 3 < 10 ∧ V (5 + i) 4 < 8 ∧ V (5 + i) 5 < 3 ∧ V (5 + i) 6 < 10 ∧ V (5 + i) 7 < 10 ∧ V (5 + i) 8 < 10 ∧ (V (5 + i) 5 = 0 → V (5 + i) 6 = 0)
def gmC (V : gm_V) : Prop := V 1 3 ≤ 12 ∧ ∀ i, i < 12 → V 1 3 ≤ i → V (5 + i) 5 = 0
def gmD (V : gm_V) : Prop := ∀ i j, i < 12 → j < 12 → ¬ V (5 + i) 5 = 0 → ¬ V (5 + j) 5 = 0 → V (5 + i) 2 = V (5 + j) 2 → V (5 + i) 3 = V (5 + j) 3 → i = j
def gmB (V : gm_V) : Prop := V 1 4 < 2 ∧ V 1 5 < 2 ∧ V 1 6 < 4
def gmX (V : gm_V) (a f : Nat) : Prop := V a 1 = gm_cnt V f ∧ V a 3 + V a 4 = V a 5 + V a 6 + V a 7 + gm_cub V f ∧ V a 2 + V a 4 = 20 ∧ V a 3 ≤ 9 * V a 0 ∧ V a 0 < 7
def gmH (V : gm_V) : Prop := (V 1 4 = 0 → V 3 0 = V 3 1 ∧ V 4 0 = V 4 1) ∧ (V 1 4 = 1 → ¬ (V 3 1 = 0 ∧ V 4 1 = 0))
def gmT (V : gm_V) : Prop := V 1 8 = V 3 5 + V 4 5 ∧ V 1 9 ≤ V 1 8
def gm_ok (V : gm_V) : Prop := gmA V ∧ gmC V ∧ gmD V ∧ gmB V ∧ gmX V 3 0 ∧ gmX V 4 1 ∧ gmH V ∧ gmT V
def GI (F : Nat → Nat → Int32) : Prop := ∃ V, gm_rep F V ∧ gm_ok V
section
variable {F : Nat → Nat → Int32} {V : gm_V}
theorem rep_u {a k n : Nat} (h : gm_rep F V) : gm_rep (np_u F a k (nI n)) (vu V a k n) := by
  obtain ⟨h1, h2, h3⟩ := h
  refine ⟨fun i hi j hj => ?_, fun j hj => ⟨?_, ?_⟩, fun j hj => ?_⟩
  · unfold np_u vu; split
    · rfl
    · exact h1 i hi j hj
  · unfold np_u vu; split
    · rfl
    · exact (h2 j hj).1
  · unfold np_u vu; split
    · rfl
    · exact (h2 j hj).2
  · unfold np_u vu; split
    · rfl
    · exact h3 j hj
theorem rep_x {k : Nat} {v : Int32} (h : gm_rep F V) (hk : k = 7 ∨ k = 11) : gm_rep (np_u F 1 k v) V := by
  obtain ⟨h1, h2, h3⟩ := h
  refine ⟨fun i hi j hj => ?_, fun j hj => ⟨?_, ?_⟩, fun j hj => ?_⟩
  · rw [np_u_a (by omega)]; exact h1 i hi j hj
  · rw [np_u_a (by omega)]; exact (h2 j hj).1
  · rw [np_u_a (by omega)]; exact (h2 j hj).2
  · rw [np_u_k (by omega)]; exact h3 j hj
-- the parts under one update
theorem okA {a k n : Nat} (h : gmA V) (ha : a < 5) : gmA (vu V a k n) := fun i hi => by
  have := h i hi
  have e : ∀ q, vu V a k n (5 + i) q = V (5 + i) q := fun q => by unfold vu; rw [if_neg (by omega)]
  simp only [e]
  exact this
theorem cnt_a {a k n f : Nat} (h : ¬ (5 ≤ a ∧ (k = 1 ∨ k = 5))) : gm_cnt (vu V a k n) f = gm_cnt V f := by
  unfold gm_cnt
  refine sn_congr 12 0 fun q _ _ => ?_
  have e1 : vu V a k n (5 + q) 5 = V (5 + q) 5 := by unfold vu; rw [if_neg (by omega)]
  have e2 : vu V a k n (5 + q) 1 = V (5 + q) 1 := by unfold vu; rw [if_neg (by omega)]
  unfold gm_ct
  rw [e1, e2]
theorem cub_a {a k n f : Nat} (h : ¬ (5 ≤ a ∧ (k = 1 ∨ k = 6))) : gm_cub (vu V a k n) f = gm_cub V f := by
  unfold gm_cub
  refine sn_congr 12 0 fun q _ _ => ?_
  have e1 : vu V a k n (5 + q) 6 = V (5 + q) 6 := by unfold vu; rw [if_neg (by omega)]
  have e2 : vu V a k n (5 + q) 1 = V (5 + q) 1 := by unfold vu; rw [if_neg (by omega)]
  unfold gm_cu
  rw [e1, e2]
theorem cub_6 {j n f : Nat} (hj : j < 12) : gm_cub (vu V (5 + j) 6 n) f + (if V (5 + j) 1 = f then V (5 + j) 6 else 0) = gm_cub V f + (if V (5 + j) 1 = f then n else 0) := by
  have key := sn_upd (h := gm_cu (vu V (5 + j) 6 n) f) (g := gm_cu V f) (j := j) 12 0 (by omega) (by omega) (fun q _ _ hq => by
    have e1 : vu V (5 + j) 6 n (5 + q) 6 = V (5 + q) 6 := by unfold vu; rw [if_neg (by omega)]
    have e2 : vu V (5 + j) 6 n (5 + q) 1 = V (5 + q) 1 := by unfold vu; rw [if_neg (by omega)]
    unfold gm_cu
    rw [e1, e2])
  have e1 : vu V (5 + j) 6 n (5 + j) 6 = n := by unfold vu; rw [if_pos ⟨rfl, rfl⟩]
  have e2 : vu V (5 + j) 6 n (5 + j) 1 = V (5 + j) 1 := by unfold vu; rw [if_neg (by omega)]
  unfold gm_cub
  have a1 : gm_cu V f j = if V (5 + j) 1 = f then V (5 + j) 6 else 0 := rfl
  have a2 : gm_cu (vu V (5 + j) 6 n) f j = if V (5 + j) 1 = f then n else 0 := by unfold gm_cu; rw [e1, e2]
  rw [a1, a2] at key
  exact key
theorem cnt_5 {j n f : Nat} (hj : j < 12) : gm_cnt (vu V (5 + j) 5 n) f + gm_ct V f j = gm_cnt V f + (if n = 0 then 0 else if V (5 + j) 1 = f then 1 else 0) := by
  have key := sn_upd (h := gm_ct (vu V (5 + j) 5 n) f) (g := gm_ct V f) (j := j) 12 0 (by omega) (by omega) (fun q _ _ hq => by
    have e1 : vu V (5 + j) 5 n (5 + q) 5 = V (5 + q) 5 := by unfold vu; rw [if_neg (by omega)]
    have e2 : vu V (5 + j) 5 n (5 + q) 1 = V (5 + q) 1 := by unfold vu; rw [if_neg (by omega)]
    unfold gm_ct
    rw [e1, e2])
  have e1 : vu V (5 + j) 5 n (5 + j) 5 = n := by unfold vu; rw [if_pos ⟨rfl, rfl⟩]
  have e2 : vu V (5 + j) 5 n (5 + j) 1 = V (5 + j) 1 := by unfold vu; rw [if_neg (by omega)]
  unfold gm_cnt
  have a2 : gm_ct (vu V (5 + j) 5 n) f j = if n = 0 then 0 else if V (5 + j) 1 = f then 1 else 0 := by unfold gm_ct; rw [e1, e2]
  rw [a2] at key
  exact key
theorem ct_le {j f : Nat} (hj : j < 12) : gm_ct V f j ≤ gm_cnt V f := sn_le 12 0 (by omega) (by omega)
theorem cu_le {j f : Nat} (hj : j < 12) : gm_cu V f j ≤ gm_cub V f := sn_le 12 0 (by omega) (by omega)
end
