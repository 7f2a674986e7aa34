/-! THE PURE PART, 24: what keeps a game in order (written by wip/p56/gen54.py). -/
theorem vu_s {V : gm_V} {a k n b j : Nat} : vu V a k n b j = if b = a ∧ j = k then n else V b j := rfl
section
variable {V : gm_V}
theorem np_5 {i : Nat} {a : Nat} (h : a < 5) : (5 + i = a) = False := eq_false (by omega)
theorem np_5' {i : Nat} {a : Nat} (h : a < 5) : (a = 5 + i) = False := eq_false (by omega)
theorem np_55 {i j : Nat} : (5 + i = 5 + j) = (i = j) := propext (by omega)
theorem ok_act {n : Nat} (h : gm_ok V) (hn : n < 4) : gm_ok (vu V 1 6 n) := by
  obtain ⟨hA, hC, hD, hB, hX, hY, hH, hT⟩ := h
  refine ⟨okA hA (by decide), by simpa [gmC, vu_s, np_55, np_5 (show 1 < 5 by decide), np_5 (show 3 < 5 by decide), np_5 (show 4 < 5 by decide), np_5' (show 1 < 5 by decide), np_5' (show 3 < 5 by decide), np_5' (show 4 < 5 by decide)] using hC, by simpa [gmD, vu_s, np_55, np_5 (show 1 < 5 by decide), np_5 (show 3 < 5 by decide), np_5 (show 4 < 5 by decide), np_5' (show 1 < 5 by decide), np_5' (show 3 < 5 by decide), np_5' (show 4 < 5 by decide)] using hD, ?_, by simpa [gmX, vu_s, np_55, np_5 (show 1 < 5 by decide), np_5 (show 3 < 5 by decide), np_5 (show 4 < 5 by decide), np_5' (show 1 < 5 by decide), np_5' (show 3 < 5 by decide), np_5' (show 4 < 5 by decide), cnt_a, cub_a] using hX, by simpa [gmX, vu_s, np_55, np_5 (show 1 < 5 by decide), np_5 (show 3 < 5 by decide), np_5 (show 4 < 5 by decide), np_5' (show 1 < 5 by decide), np_5' (show 3 < 5 by decide), np_5' (show 4 < 5 by decide), cnt_a, cub_a] using hY, by simpa [gmH, vu_s, np_55, np_5 (show 1 < 5 by decide), np_5 (show 3 < 5 by decide), np_5 (show 4 < 5 by decide), np_5' (show 1 < 5 by decide), np_5' (show 3 < 5 by decide), np_5' (show 4 < 5 by decide)] using hH, by simpa [gmT, vu_s, np_55, np_5 (show 1 < 5 by decide), np_5 (show 3 < 5 by decide), np_5 (show 4 < 5 by decide), np_5' (show 1 < 5 by decide), np_5' (show 3 < 5 by decide), np_5' (show 4 < 5 by decide)] using hT⟩
  have := hB
  unfold gmB at *
  simp [vu_s]
  omega
theorem ok_bgn (h : gm_ok V) (h4 : V 1 4 = 0) (h3 : ¬ V 3 0 = 0) : gm_ok (vu (vu (vu V 1 4 1) 1 5 0) 1 6 3) := by
  obtain ⟨hA, hC, hD, hB, hX, hY, hH, hT⟩ := h
  refine ⟨okA (okA (okA hA (by decide)) (by decide)) (by decide), by simpa [gmC, vu_s, np_55, np_5 (show 1 < 5 by decide), np_5 (show 3 < 5 by decide), np_5 (show 4 < 5 by decide), np_5' (show 1 < 5 by decide), np_5' (show 3 < 5 by decide), np_5' (show 4 < 5 by decide)] using hC, by simpa [gmD, vu_s, np_55, np_5 (show 1 < 5 by decide), np_5 (show 3 < 5 by decide), np_5 (show 4 < 5 by decide), np_5' (show 1 < 5 by decide), np_5' (show 3 < 5 by decide), np_5' (show 4 < 5 by decide)] using hD, ?_, by simpa [gmX, vu_s, np_55, np_5 (show 1 < 5 by decide), np_5 (show 3 < 5 by decide), np_5 (show 4 < 5 by decide), np_5' (show 1 < 5 by decide), np_5' (show 3 < 5 by decide), np_5' (show 4 < 5 by decide), cnt_a, cub_a] using hX, by simpa [gmX, vu_s, np_55, np_5 (show 1 < 5 by decide), np_5 (show 3 < 5 by decide), np_5 (show 4 < 5 by decide), np_5' (show 1 < 5 by decide), np_5' (show 3 < 5 by decide), np_5' (show 4 < 5 by decide), cnt_a, cub_a] using hY, ?_, by simpa [gmT, vu_s, np_55, np_5 (show 1 < 5 by decide), np_5 (show 3 < 5 by decide), np_5 (show 4 < 5 by decide), np_5' (show 1 < 5 by decide), np_5' (show 3 < 5 by decide), np_5' (show 4 < 5 by decide)] using hT⟩
  · unfold gmB at *
    simp [vu_s]
  · have := hH.1 h4
    unfold gmH
    simp [vu_s]
    omega
theorem ok_pass (h : gm_ok V) : gm_ok (vu (vu V 1 5 (1 - V 1 5)) 1 6 3) := by
  obtain ⟨hA, hC, hD, hB, hX, hY, hH, hT⟩ := h
  refine ⟨okA (okA hA (by decide)) (by decide), by simpa [gmC, vu_s, np_55, np_5 (show 1 < 5 by decide), np_5 (show 3 < 5 by decide), np_5 (show 4 < 5 by decide), np_5' (show 1 < 5 by decide), np_5' (show 3 < 5 by decide), np_5' (show 4 < 5 by decide)] using hC, by simpa [gmD, vu_s, np_55, np_5 (show 1 < 5 by decide), np_5 (show 3 < 5 by decide), np_5 (show 4 < 5 by decide), np_5' (show 1 < 5 by decide), np_5' (show 3 < 5 by decide), np_5' (show 4 < 5 by decide)] using hD, ?_, by simpa [gmX, vu_s, np_55, np_5 (show 1 < 5 by decide), np_5 (show 3 < 5 by decide), np_5 (show 4 < 5 by decide), np_5' (show 1 < 5 by decide), np_5' (show 3 < 5 by decide), np_5' (show 4 < 5 by decide), cnt_a, cub_a] using hX, by simpa [gmX, vu_s, np_55, np_5 (show 1 < 5 by decide), np_5 (show 3 < 5 by decide), np_5 (show 4 < 5 by decide), np_5' (show 1 < 5 by decide), np_5' (show 3 < 5 by decide), np_5' (show 4 < 5 by decide), cnt_a, cub_a] using hY, by simpa [gmH, vu_s, np_55, np_5 (show 1 < 5 by decide), np_5 (show 3 < 5 by decide), np_5 (show 4 < 5 by decide), np_5' (show 1 < 5 by decide), np_5' (show 3 < 5 by decide), np_5' (show 4 < 5 by decide)] using hH, by simpa [gmT, vu_s, np_55, np_5 (show 1 < 5 by decide), np_5 (show 3 < 5 by decide), np_5 (show 4 < 5 by decide), np_5' (show 1 < 5 by decide), np_5' (show 3 < 5 by decide), np_5' (show 4 < 5 by decide)] using hT⟩
  · have := hB
    unfold gmB at *
    simp [vu_s]
    omega
theorem ok_kn {j : Nat} (hj : j < 12) (h : gm_ok V) : gm_ok (vu (vu V (5 + j) 7 (V (5 + j) 2)) (5 + j) 8 (V (5 + j) 3)) := by
  obtain ⟨hA, hC, hD, hB, hX, hY, hH, hT⟩ := h
  have hA' : gmA (vu (vu V (5 + j) 7 (V (5 + j) 2)) (5 + j) 8 (V (5 + j) 3)) := fun i hi => by
      have := hA i hi
      by_cases e : i = j
      · subst e
        simp only [vu_s, np_55, np_5 (show 1 < 5 by decide), np_5 (show 3 < 5 by decide), np_5 (show 4 < 5 by decide), np_5' (show 1 < 5 by decide), np_5' (show 3 < 5 by decide), np_5' (show 4 < 5 by decide), true_and, and_true, if_true, if_false, Nat.reduceEqDiff, false_and, and_false]
        omega
      · simp only [vu_s, np_55, np_5 (show 1 < 5 by decide), np_5 (show 3 < 5 by decide), np_5 (show 4 < 5 by decide), np_5' (show 1 < 5 by decide), np_5' (show 3 < 5 by decide), np_5' (show 4 < 5 by decide), e, true_and, and_true, if_true, if_false, Nat.reduceEqDiff, false_and, and_false]
        exact this
  exact ⟨hA', by simpa [gmC, vu_s, np_55, np_5 (show 1 < 5 by decide), np_5 (show 3 < 5 by decide), np_5 (show 4 < 5 by decide), np_5' (show 1 < 5 by decide), np_5' (show 3 < 5 by decide), np_5' (show 4 < 5 by decide)] using hC, by simpa [gmD, vu_s, np_55, np_5 (show 1 < 5 by decide), np_5 (show 3 < 5 by decide), np_5 (show 4 < 5 by decide), np_5' (show 1 < 5 by decide), np_5' (show 3 < 5 by decide), np_5' (show 4 < 5 by decide)] using hD, by simpa [gmB, vu_s, np_55, np_5 (show 1 < 5 by decide), np_5 (show 3 < 5 by decide), np_5 (show 4 < 5 by decide), np_5' (show 1 < 5 by decide), np_5' (show 3 < 5 by decide), np_5' (show 4 < 5 by decide)] using hB, by simpa [gmX, vu_s, np_55, np_5 (show 1 < 5 by decide), np_5 (show 3 < 5 by decide), np_5 (show 4 < 5 by decide), np_5' (show 1 < 5 by decide), np_5' (show 3 < 5 by decide), np_5' (show 4 < 5 by decide), cnt_a, cub_a] using hX, by simpa [gmX, vu_s, np_55, np_5 (show 1 < 5 by decide), np_5 (show 3 < 5 by decide), np_5 (show 4 < 5 by decide), np_5' (show 1 < 5 by decide), np_5' (show 3 < 5 by decide), np_5' (show 4 < 5 by decide), cnt_a, cub_a] using hY, by simpa [gmH, vu_s, np_55, np_5 (show 1 < 5 by decide), np_5 (show 3 < 5 by decide), np_5 (show 4 < 5 by decide), np_5' (show 1 < 5 by decide), np_5' (show 3 < 5 by decide), np_5' (show 4 < 5 by decide)] using hH, by simpa [gmT, vu_s, np_55, np_5 (show 1 < 5 by decide), np_5 (show 3 < 5 by decide), np_5 (show 4 < 5 by decide), np_5' (show 1 < 5 by decide), np_5' (show 3 < 5 by decide), np_5' (show 4 < 5 by decide)] using hT⟩
theorem ok_bear {j b : Nat} (hj : j < 12) (hb : b < 8) (h : gm_ok V) : gm_ok (vu V (5 + j) 4 b) := by
  obtain ⟨hA, hC, hD, hB, hX, hY, hH, hT⟩ := h
  have hA' : gmA (vu V (5 + j) 4 b) := fun i hi => by
      have := hA i hi
      by_cases e : i = j
      · subst e
        simp only [vu_s, np_55, np_5 (show 1 < 5 by decide), np_5 (show 3 < 5 by decide), np_5 (show 4 < 5 by decide), np_5' (show 1 < 5 by decide), np_5' (show 3 < 5 by decide), np_5' (show 4 < 5 by decide), true_and, and_true, if_true, if_false, Nat.reduceEqDiff, false_and, and_false]
        omega
      · simp only [vu_s, np_55, np_5 (show 1 < 5 by decide), np_5 (show 3 < 5 by decide), np_5 (show 4 < 5 by decide), np_5' (show 1 < 5 by decide), np_5' (show 3 < 5 by decide), np_5' (show 4 < 5 by decide), e, true_and, and_true, if_true, if_false, Nat.reduceEqDiff, false_and, and_false]
        exact this
  exact ⟨hA', by simpa [gmC, vu_s, np_55, np_5 (show 1 < 5 by decide), np_5 (show 3 < 5 by decide), np_5 (show 4 < 5 by decide), np_5' (show 1 < 5 by decide), np_5' (show 3 < 5 by decide), np_5' (show 4 < 5 by decide)] using hC, by simpa [gmD, vu_s, np_55, np_5 (show 1 < 5 by decide), np_5 (show 3 < 5 by decide), np_5 (show 4 < 5 by decide), np_5' (show 1 < 5 by decide), np_5' (show 3 < 5 by decide), np_5' (show 4 < 5 by decide)] using hD, by simpa [gmB, vu_s, np_55, np_5 (show 1 < 5 by decide), np_5 (show 3 < 5 by decide), np_5 (show 4 < 5 by decide), np_5' (show 1 < 5 by decide), np_5' (show 3 < 5 by decide), np_5' (show 4 < 5 by decide)] using hB, by simpa [gmX, vu_s, np_55, np_5 (show 1 < 5 by decide), np_5 (show 3 < 5 by decide), np_5 (show 4 < 5 by decide), np_5' (show 1 < 5 by decide), np_5' (show 3 < 5 by decide), np_5' (show 4 < 5 by decide), cnt_a, cub_a] using hX, by simpa [gmX, vu_s, np_55, np_5 (show 1 < 5 by decide), np_5 (show 3 < 5 by decide), np_5 (show 4 < 5 by decide), np_5' (show 1 < 5 by decide), np_5' (show 3 < 5 by decide), np_5' (show 4 < 5 by decide), cnt_a, cub_a] using hY, by simpa [gmH, vu_s, np_55, np_5 (show 1 < 5 by decide), np_5 (show 3 < 5 by decide), np_5 (show 4 < 5 by decide), np_5' (show 1 < 5 by decide), np_5' (show 3 < 5 by decide), np_5' (show 4 < 5 by decide)] using hH, by simpa [gmT, vu_s, np_55, np_5 (show 1 < 5 by decide), np_5 (show 3 < 5 by decide), np_5 (show 4 < 5 by decide), np_5' (show 1 < 5 by decide), np_5' (show 3 < 5 by decide), np_5' (show 4 < 5 by decide)] using hT⟩
theorem ok_pos {j x y : Nat} (hj : j < 12) (hx : x < 10) (hy : y < 10) (hf : ∀ i, i < 12 → ¬ V (5 + i) 5 = 0 → V (5 + i) 2 = x → V (5 + i) 3 = y → i = j) (h : gm_ok V) : gm_ok (vu (vu V (5 + j) 2 x) (5 + j) 3 y) := by
  obtain ⟨hA, hC, hD, hB, hX, hY, hH, hT⟩ := h
  have hA' : gmA (vu (vu V (5 + j) 2 x) (5 + j) 3 y) := fun i hi => by
      have := hA i hi
      by_cases e : i = j
      · subst e
        simp only [vu_s, np_55, np_5 (show 1 < 5 by decide), np_5 (show 3 < 5 by decide), np_5 (show 4 < 5 by decide), np_5' (show 1 < 5 by decide), np_5' (show 3 < 5 by decide), np_5' (show 4 < 5 by decide), true_and, and_true, if_true, if_false, Nat.reduceEqDiff, false_and, and_false]
        omega
      · simp only [vu_s, np_55, np_5 (show 1 < 5 by decide), np_5 (show 3 < 5 by decide), np_5 (show 4 < 5 by decide), np_5' (show 1 < 5 by decide), np_5' (show 3 < 5 by decide), np_5' (show 4 < 5 by decide), e, true_and, and_true, if_true, if_false, Nat.reduceEqDiff, false_and, and_false]
        exact this
  have hD' : gmD (vu (vu V (5 + j) 2 x) (5 + j) 3 y) := fun a b ha hb => by
    have := hD a b ha hb
    have fa := hf a ha
    have fb := hf b hb
    by_cases e1 : a = j <;> by_cases e2 : b = j
    · intros; omega
    · simp only [vu_s, np_55, np_5 (show 1 < 5 by decide), np_5 (show 3 < 5 by decide), np_5 (show 4 < 5 by decide), np_5' (show 1 < 5 by decide), np_5' (show 3 < 5 by decide), np_5' (show 4 < 5 by decide), e1, e2, true_and, and_true, if_true, if_false, Nat.reduceEqDiff, false_and, and_false]
      intro p q r s
      exact (fb q r.symm s.symm).symm
    · simp only [vu_s, np_55, np_5 (show 1 < 5 by decide), np_5 (show 3 < 5 by decide), np_5 (show 4 < 5 by decide), np_5' (show 1 < 5 by decide), np_5' (show 3 < 5 by decide), np_5' (show 4 < 5 by decide), e1, e2, true_and, and_true, if_true, if_false, Nat.reduceEqDiff, false_and, and_false]
      intro p q r s
      exact e1 (fa p r s)
    · simp only [vu_s, np_55, np_5 (show 1 < 5 by decide), np_5 (show 3 < 5 by decide), np_5 (show 4 < 5 by decide), np_5' (show 1 < 5 by decide), np_5' (show 3 < 5 by decide), np_5' (show 4 < 5 by decide), e1, e2, true_and, and_true, if_true, if_false, Nat.reduceEqDiff, false_and, and_false]
      exact this
  exact ⟨hA', by simpa [gmC, vu_s, np_55, np_5 (show 1 < 5 by decide), np_5 (show 3 < 5 by decide), np_5 (show 4 < 5 by decide), np_5' (show 1 < 5 by decide), np_5' (show 3 < 5 by decide), np_5' (show 4 < 5 by decide)] using hC, hD', by simpa [gmB, vu_s, np_55, np_5 (show 1 < 5 by decide), np_5 (show 3 < 5 by decide), np_5 (show 4 < 5 by decide), np_5' (show 1 < 5 by decide), np_5' (show 3 < 5 by decide), np_5' (show 4 < 5 by decide)] using hB, by simpa [gmX, vu_s, np_55, np_5 (show 1 < 5 by decide), np_5 (show 3 < 5 by decide), np_5 (show 4 < 5 by decide), np_5' (show 1 < 5 by decide), np_5' (show 3 < 5 by decide), np_5' (show 4 < 5 by decide), cnt_a, cub_a] using hX, by simpa [gmX, vu_s, np_55, np_5 (show 1 < 5 by decide), np_5 (show 3 < 5 by decide), np_5 (show 4 < 5 by decide), np_5' (show 1 < 5 by decide), np_5' (show 3 < 5 by decide), np_5' (show 4 < 5 by decide), cnt_a, cub_a] using hY, by simpa [gmH, vu_s, np_55, np_5 (show 1 < 5 by decide), np_5 (show 3 < 5 by decide), np_5 (show 4 < 5 by decide), np_5' (show 1 < 5 by decide), np_5' (show 3 < 5 by decide), np_5' (show 4 < 5 by decide)] using hH, by simpa [gmT, vu_s, np_55, np_5 (show 1 < 5 by decide), np_5 (show 3 < 5 by decide), np_5 (show 4 < 5 by decide), np_5' (show 1 < 5 by decide), np_5' (show 3 < 5 by decide), np_5' (show 4 < 5 by decide)] using hT⟩
theorem ok_sneak0 {j : Nat} (hj : j < 12) (hf : V (5 + j) 1 = 0) (h6 : ¬ V (5 + j) 6 = 0) (h : gm_ok V) : gm_ok (vu (vu V (5 + j) 6 (V (5 + j) 6 - 1)) 3 6 (V 3 6 + 1)) := by
  obtain ⟨hA, hC, hD, hB, hX, hY, hH, hT⟩ := h
  have hA' : gmA (vu (vu V (5 + j) 6 (V (5 + j) 6 - 1)) 3 6 (V 3 6 + 1)) := fun i hi => by
      have := hA i hi
      by_cases e : i = j
      · subst e
        simp only [vu_s, np_55, np_5 (show 1 < 5 by decide), np_5 (show 3 < 5 by decide), np_5 (show 4 < 5 by decide), np_5' (show 1 < 5 by decide), np_5' (show 3 < 5 by decide), np_5' (show 4 < 5 by decide), true_and, and_true, if_true, if_false, Nat.reduceEqDiff, false_and, and_false]
        omega
      · simp only [vu_s, np_55, np_5 (show 1 < 5 by decide), np_5 (show 3 < 5 by decide), np_5 (show 4 < 5 by decide), np_5' (show 1 < 5 by decide), np_5' (show 3 < 5 by decide), np_5' (show 4 < 5 by decide), e, true_and, and_true, if_true, if_false, Nat.reduceEqDiff, false_and, and_false]
        exact this
  have k0 := cub_6 (V := V) (n := V (5 + j) 6 - 1) (f := 0) hj
  have k1 := cub_6 (V := V) (n := V (5 + j) 6 - 1) (f := 1) hj
  rw [if_pos hf, if_pos hf] at k0
  rw [if_neg (by omega), if_neg (by omega)] at k1
  have hM : gmX (vu (vu V (5 + j) 6 (V (5 + j) 6 - 1)) 3 6 (V 3 6 + 1)) 3 0 := by
    have := hX
    unfold gmX at *
    rw [cnt_a (by omega), cnt_a (by omega), cub_a (by omega)]
    simp only [vu_s, np_55, np_5 (show 1 < 5 by decide), np_5 (show 3 < 5 by decide), np_5 (show 4 < 5 by decide), np_5' (show 1 < 5 by decide), np_5' (show 3 < 5 by decide), np_5' (show 4 < 5 by decide), true_and, and_true, if_true, if_false, Nat.reduceEqDiff, false_and, and_false]
    omega
  have hN : gmX (vu (vu V (5 + j) 6 (V (5 + j) 6 - 1)) 3 6 (V 3 6 + 1)) 4 1 := by
    have := hY
    unfold gmX at *
    rw [cnt_a (by omega), cnt_a (by omega), cub_a (by omega)]
    simp only [vu_s, np_55, np_5 (show 1 < 5 by decide), np_5 (show 3 < 5 by decide), np_5 (show 4 < 5 by decide), np_5' (show 1 < 5 by decide), np_5' (show 3 < 5 by decide), np_5' (show 4 < 5 by decide), true_and, and_true, if_true, if_false, Nat.reduceEqDiff, false_and, and_false]
    omega
  exact ⟨hA', by simpa [gmC, vu_s, np_55, np_5 (show 1 < 5 by decide), np_5 (show 3 < 5 by decide), np_5 (show 4 < 5 by decide), np_5' (show 1 < 5 by decide), np_5' (show 3 < 5 by decide), np_5' (show 4 < 5 by decide)] using hC, by simpa [gmD, vu_s, np_55, np_5 (show 1 < 5 by decide), np_5 (show 3 < 5 by decide), np_5 (show 4 < 5 by decide), np_5' (show 1 < 5 by decide), np_5' (show 3 < 5 by decide), np_5' (show 4 < 5 by decide)] using hD, by simpa [gmB, vu_s, np_55, np_5 (show 1 < 5 by decide), np_5 (show 3 < 5 by decide), np_5 (show 4 < 5 by decide), np_5' (show 1 < 5 by decide), np_5' (show 3 < 5 by decide), np_5' (show 4 < 5 by decide)] using hB, hM, hN, by simpa [gmH, vu_s, np_55, np_5 (show 1 < 5 by decide), np_5 (show 3 < 5 by decide), np_5 (show 4 < 5 by decide), np_5' (show 1 < 5 by decide), np_5' (show 3 < 5 by decide), np_5' (show 4 < 5 by decide)] using hH, by simpa [gmT, vu_s, np_55, np_5 (show 1 < 5 by decide), np_5 (show 3 < 5 by decide), np_5 (show 4 < 5 by decide), np_5' (show 1 < 5 by decide), np_5' (show 3 < 5 by decide), np_5' (show 4 < 5 by decide)] using hT⟩
theorem ok_fire0 {j : Nat} (hj : j < 12) (hf : V (5 + j) 1 = 0) (h6 : ¬ V (5 + j) 6 = 0) (h : gm_ok V) : gm_ok (vu (vu (vu V (5 + j) 6 (V (5 + j) 6 - 1)) 3 5 (V 3 5 + 1)) 1 8 (V 1 8 + 1)) := by
  obtain ⟨hA, hC, hD, hB, hX, hY, hH, hT⟩ := h
  have hA' : gmA (vu (vu (vu V (5 + j) 6 (V (5 + j) 6 - 1)) 3 5 (V 3 5 + 1)) 1 8 (V 1 8 + 1)) := fun i hi => by
      have := hA i hi
      by_cases e : i = j
      · subst e
        simp only [vu_s, np_55, np_5 (show 1 < 5 by decide), np_5 (show 3 < 5 by decide), np_5 (show 4 < 5 by decide), np_5' (show 1 < 5 by decide), np_5' (show 3 < 5 by decide), np_5' (show 4 < 5 by decide), true_and, and_true, if_true, if_false, Nat.reduceEqDiff, false_and, and_false]
        omega
      · simp only [vu_s, np_55, np_5 (show 1 < 5 by decide), np_5 (show 3 < 5 by decide), np_5 (show 4 < 5 by decide), np_5' (show 1 < 5 by decide), np_5' (show 3 < 5 by decide), np_5' (show 4 < 5 by decide), e, true_and, and_true, if_true, if_false, Nat.reduceEqDiff, false_and, and_false]
        exact this
  have k0 := cub_6 (V := V) (n := V (5 + j) 6 - 1) (f := 0) hj
  have k1 := cub_6 (V := V) (n := V (5 + j) 6 - 1) (f := 1) hj
  rw [if_pos hf, if_pos hf] at k0
  rw [if_neg (by omega), if_neg (by omega)] at k1
  have hM : gmX (vu (vu (vu V (5 + j) 6 (V (5 + j) 6 - 1)) 3 5 (V 3 5 + 1)) 1 8 (V 1 8 + 1)) 3 0 := by
    have := hX
    unfold gmX at *
    rw [cnt_a (by omega), cnt_a (by omega), cnt_a (by omega), cub_a (by omega), cub_a (by omega)]
    simp only [vu_s, np_55, np_5 (show 1 < 5 by decide), np_5 (show 3 < 5 by decide), np_5 (show 4 < 5 by decide), np_5' (show 1 < 5 by decide), np_5' (show 3 < 5 by decide), np_5' (show 4 < 5 by decide), true_and, and_true, if_true, if_false, Nat.reduceEqDiff, false_and, and_false]
    omega
  have hN : gmX (vu (vu (vu V (5 + j) 6 (V (5 + j) 6 - 1)) 3 5 (V 3 5 + 1)) 1 8 (V 1 8 + 1)) 4 1 := by
    have := hY
    unfold gmX at *
    rw [cnt_a (by omega), cnt_a (by omega), cnt_a (by omega), cub_a (by omega), cub_a (by omega)]
    simp only [vu_s, np_55, np_5 (show 1 < 5 by decide), np_5 (show 3 < 5 by decide), np_5 (show 4 < 5 by decide), np_5' (show 1 < 5 by decide), np_5' (show 3 < 5 by decide), np_5' (show 4 < 5 by decide), true_and, and_true, if_true, if_false, Nat.reduceEqDiff, false_and, and_false]
    omega
  have hT' : gmT (vu (vu (vu V (5 + j) 6 (V (5 + j) 6 - 1)) 3 5 (V 3 5 + 1)) 1 8 (V 1 8 + 1)) := by
    have := hT
    unfold gmT at *
    simp only [vu_s, np_55, np_5 (show 1 < 5 by decide), np_5 (show 3 < 5 by decide), np_5 (show 4 < 5 by decide), np_5' (show 1 < 5 by decide), np_5' (show 3 < 5 by decide), np_5' (show 4 < 5 by decide), true_and, and_true, if_true, if_false, Nat.reduceEqDiff, false_and, and_false]
    omega
  exact ⟨hA', by simpa [gmC, vu_s, np_55, np_5 (show 1 < 5 by decide), np_5 (show 3 < 5 by decide), np_5 (show 4 < 5 by decide), np_5' (show 1 < 5 by decide), np_5' (show 3 < 5 by decide), np_5' (show 4 < 5 by decide)] using hC, by simpa [gmD, vu_s, np_55, np_5 (show 1 < 5 by decide), np_5 (show 3 < 5 by decide), np_5 (show 4 < 5 by decide), np_5' (show 1 < 5 by decide), np_5' (show 3 < 5 by decide), np_5' (show 4 < 5 by decide)] using hD, by simpa [gmB, vu_s, np_55, np_5 (show 1 < 5 by decide), np_5 (show 3 < 5 by decide), np_5 (show 4 < 5 by decide), np_5' (show 1 < 5 by decide), np_5' (show 3 < 5 by decide), np_5' (show 4 < 5 by decide)] using hB, hM, hN, by simpa [gmH, vu_s, np_55, np_5 (show 1 < 5 by decide), np_5 (show 3 < 5 by decide), np_5 (show 4 < 5 by decide), np_5' (show 1 < 5 by decide), np_5' (show 3 < 5 by decide), np_5' (show 4 < 5 by decide)] using hH, hT'⟩
theorem ok_load0 {j c : Nat} (hj : j < 12) (hf : V (5 + j) 1 = 0) (h5 : ¬ V (5 + j) 5 = 0) (hp : c ≤ V 3 2) (h9 : V (5 + j) 6 + c < 10) (h : gm_ok V) : gm_ok (vu (vu (vu V 3 2 (V 3 2 - c)) 3 4 (V 3 4 + c)) (5 + j) 6 (V (5 + j) 6 + c)) := by
  obtain ⟨hA, hC, hD, hB, hX, hY, hH, hT⟩ := h
  have hA' : gmA (vu (vu (vu V 3 2 (V 3 2 - c)) 3 4 (V 3 4 + c)) (5 + j) 6 (V (5 + j) 6 + c)) := fun i hi => by
      have := hA i hi
      by_cases e : i = j
      · subst e
        simp only [vu_s, np_55, np_5 (show 1 < 5 by decide), np_5 (show 3 < 5 by decide), np_5 (show 4 < 5 by decide), np_5' (show 1 < 5 by decide), np_5' (show 3 < 5 by decide), np_5' (show 4 < 5 by decide), true_and, and_true, if_true, if_false, Nat.reduceEqDiff, false_and, and_false]
        omega
      · simp only [vu_s, np_55, np_5 (show 1 < 5 by decide), np_5 (show 3 < 5 by decide), np_5 (show 4 < 5 by decide), np_5' (show 1 < 5 by decide), np_5' (show 3 < 5 by decide), np_5' (show 4 < 5 by decide), e, true_and, and_true, if_true, if_false, Nat.reduceEqDiff, false_and, and_false]
        exact this
  have k0 := cub_6 (V := vu (vu V 3 2 (V 3 2 - c)) 3 4 (V 3 4 + c)) (n := V (5 + j) 6 + c) (f := 0) hj
  have k1 := cub_6 (V := vu (vu V 3 2 (V 3 2 - c)) 3 4 (V 3 4 + c)) (n := V (5 + j) 6 + c) (f := 1) hj
  have ku : ∀ f, gm_cub (vu (vu V 3 2 (V 3 2 - c)) 3 4 (V 3 4 + c)) f = gm_cub V f := fun f => by rw [cub_a (by omega), cub_a (by omega)]
  rw [ku] at k0 k1
  simp only [vu_s, np_55, np_5 (show 1 < 5 by decide), np_5 (show 3 < 5 by decide), np_5 (show 4 < 5 by decide), np_5' (show 1 < 5 by decide), np_5' (show 3 < 5 by decide), np_5' (show 4 < 5 by decide), true_and, and_true, if_true, if_false, Nat.reduceEqDiff, false_and, and_false, hf] at k0 k1
  have hM : gmX (vu (vu (vu V 3 2 (V 3 2 - c)) 3 4 (V 3 4 + c)) (5 + j) 6 (V (5 + j) 6 + c)) 3 0 := by
    have := hX
    unfold gmX at *
    rw [cnt_a (by omega), cnt_a (by omega), cnt_a (by omega)]
    simp only [vu_s, np_55, np_5 (show 1 < 5 by decide), np_5 (show 3 < 5 by decide), np_5 (show 4 < 5 by decide), np_5' (show 1 < 5 by decide), np_5' (show 3 < 5 by decide), np_5' (show 4 < 5 by decide), true_and, and_true, if_true, if_false, Nat.reduceEqDiff, false_and, and_false]
    omega
  have hN : gmX (vu (vu (vu V 3 2 (V 3 2 - c)) 3 4 (V 3 4 + c)) (5 + j) 6 (V (5 + j) 6 + c)) 4 1 := by
    have := hY
    unfold gmX at *
    rw [cnt_a (by omega), cnt_a (by omega), cnt_a (by omega)]
    simp only [vu_s, np_55, np_5 (show 1 < 5 by decide), np_5 (show 3 < 5 by decide), np_5 (show 4 < 5 by decide), np_5' (show 1 < 5 by decide), np_5' (show 3 < 5 by decide), np_5' (show 4 < 5 by decide), true_and, and_true, if_true, if_false, Nat.reduceEqDiff, false_and, and_false]
    omega
  exact ⟨hA', by simpa [gmC, vu_s, np_55, np_5 (show 1 < 5 by decide), np_5 (show 3 < 5 by decide), np_5 (show 4 < 5 by decide), np_5' (show 1 < 5 by decide), np_5' (show 3 < 5 by decide), np_5' (show 4 < 5 by decide)] using hC, by simpa [gmD, vu_s, np_55, np_5 (show 1 < 5 by decide), np_5 (show 3 < 5 by decide), np_5 (show 4 < 5 by decide), np_5' (show 1 < 5 by decide), np_5' (show 3 < 5 by decide), np_5' (show 4 < 5 by decide)] using hD, by simpa [gmB, vu_s, np_55, np_5 (show 1 < 5 by decide), np_5 (show 3 < 5 by decide), np_5 (show 4 < 5 by decide), np_5' (show 1 < 5 by decide), np_5' (show 3 < 5 by decide), np_5' (show 4 < 5 by decide)] using hB, hM, hN, by simpa [gmH, vu_s, np_55, np_5 (show 1 < 5 by decide), np_5 (show 3 < 5 by decide), np_5 (show 4 < 5 by decide), np_5' (show 1 < 5 by decide), np_5' (show 3 < 5 by decide), np_5' (show 4 < 5 by decide)] using hH, by simpa [gmT, vu_s, np_55, np_5 (show 1 < 5 by decide), np_5 (show 3 < 5 by decide), np_5 (show 4 < 5 by decide), np_5' (show 1 < 5 by decide), np_5' (show 3 < 5 by decide), np_5' (show 4 < 5 by decide)] using hT⟩
theorem ok_sneak1 {j : Nat} (hj : j < 12) (hf : V (5 + j) 1 = 1) (h6 : ¬ V (5 + j) 6 = 0) (h : gm_ok V) : gm_ok (vu (vu V (5 + j) 6 (V (5 + j) 6 - 1)) 4 6 (V 4 6 + 1)) := by
  obtain ⟨hA, hC, hD, hB, hX, hY, hH, hT⟩ := h
  have hA' : gmA (vu (vu V (5 + j) 6 (V (5 + j) 6 - 1)) 4 6 (V 4 6 + 1)) := fun i hi => by
      have := hA i hi
      by_cases e : i = j
      · subst e
        simp only [vu_s, np_55, np_5 (show 1 < 5 by decide), np_5 (show 3 < 5 by decide), np_5 (show 4 < 5 by decide), np_5' (show 1 < 5 by decide), np_5' (show 3 < 5 by decide), np_5' (show 4 < 5 by decide), true_and, and_true, if_true, if_false, Nat.reduceEqDiff, false_and, and_false]
        omega
      · simp only [vu_s, np_55, np_5 (show 1 < 5 by decide), np_5 (show 3 < 5 by decide), np_5 (show 4 < 5 by decide), np_5' (show 1 < 5 by decide), np_5' (show 3 < 5 by decide), np_5' (show 4 < 5 by decide), e, true_and, and_true, if_true, if_false, Nat.reduceEqDiff, false_and, and_false]
        exact this
  have k0 := cub_6 (V := V) (n := V (5 + j) 6 - 1) (f := 1) hj
  have k1 := cub_6 (V := V) (n := V (5 + j) 6 - 1) (f := 0) hj
  rw [if_pos hf, if_pos hf] at k0
  rw [if_neg (by omega), if_neg (by omega)] at k1
  have hM : gmX (vu (vu V (5 + j) 6 (V (5 + j) 6 - 1)) 4 6 (V 4 6 + 1)) 4 1 := by
    have := hY
    unfold gmX at *
    rw [cnt_a (by omega), cnt_a (by omega), cub_a (by omega)]
    simp only [vu_s, np_55, np_5 (show 1 < 5 by decide), np_5 (show 3 < 5 by decide), np_5 (show 4 < 5 by decide), np_5' (show 1 < 5 by decide), np_5' (show 3 < 5 by decide), np_5' (show 4 < 5 by decide), true_and, and_true, if_true, if_false, Nat.reduceEqDiff, false_and, and_false]
    omega
  have hN : gmX (vu (vu V (5 + j) 6 (V (5 + j) 6 - 1)) 4 6 (V 4 6 + 1)) 3 0 := by
    have := hX
    unfold gmX at *
    rw [cnt_a (by omega), cnt_a (by omega), cub_a (by omega)]
    simp only [vu_s, np_55, np_5 (show 1 < 5 by decide), np_5 (show 3 < 5 by decide), np_5 (show 4 < 5 by decide), np_5' (show 1 < 5 by decide), np_5' (show 3 < 5 by decide), np_5' (show 4 < 5 by decide), true_and, and_true, if_true, if_false, Nat.reduceEqDiff, false_and, and_false]
    omega
  exact ⟨hA', by simpa [gmC, vu_s, np_55, np_5 (show 1 < 5 by decide), np_5 (show 3 < 5 by decide), np_5 (show 4 < 5 by decide), np_5' (show 1 < 5 by decide), np_5' (show 3 < 5 by decide), np_5' (show 4 < 5 by decide)] using hC, by simpa [gmD, vu_s, np_55, np_5 (show 1 < 5 by decide), np_5 (show 3 < 5 by decide), np_5 (show 4 < 5 by decide), np_5' (show 1 < 5 by decide), np_5' (show 3 < 5 by decide), np_5' (show 4 < 5 by decide)] using hD, by simpa [gmB, vu_s, np_55, np_5 (show 1 < 5 by decide), np_5 (show 3 < 5 by decide), np_5 (show 4 < 5 by decide), np_5' (show 1 < 5 by decide), np_5' (show 3 < 5 by decide), np_5' (show 4 < 5 by decide)] using hB, hN, hM, by simpa [gmH, vu_s, np_55, np_5 (show 1 < 5 by decide), np_5 (show 3 < 5 by decide), np_5 (show 4 < 5 by decide), np_5' (show 1 < 5 by decide), np_5' (show 3 < 5 by decide), np_5' (show 4 < 5 by decide)] using hH, by simpa [gmT, vu_s, np_55, np_5 (show 1 < 5 by decide), np_5 (show 3 < 5 by decide), np_5 (show 4 < 5 by decide), np_5' (show 1 < 5 by decide), np_5' (show 3 < 5 by decide), np_5' (show 4 < 5 by decide)] using hT⟩
theorem ok_fire1 {j : Nat} (hj : j < 12) (hf : V (5 + j) 1 = 1) (h6 : ¬ V (5 + j) 6 = 0) (h : gm_ok V) : gm_ok (vu (vu (vu V (5 + j) 6 (V (5 + j) 6 - 1)) 4 5 (V 4 5 + 1)) 1 8 (V 1 8 + 1)) := by
  obtain ⟨hA, hC, hD, hB, hX, hY, hH, hT⟩ := h
  have hA' : gmA (vu (vu (vu V (5 + j) 6 (V (5 + j) 6 - 1)) 4 5 (V 4 5 + 1)) 1 8 (V 1 8 + 1)) := fun i hi => by
      have := hA i hi
      by_cases e : i = j
      · subst e
        simp only [vu_s, np_55, np_5 (show 1 < 5 by decide), np_5 (show 3 < 5 by decide), np_5 (show 4 < 5 by decide), np_5' (show 1 < 5 by decide), np_5' (show 3 < 5 by decide), np_5' (show 4 < 5 by decide), true_and, and_true, if_true, if_false, Nat.reduceEqDiff, false_and, and_false]
        omega
      · simp only [vu_s, np_55, np_5 (show 1 < 5 by decide), np_5 (show 3 < 5 by decide), np_5 (show 4 < 5 by decide), np_5' (show 1 < 5 by decide), np_5' (show 3 < 5 by decide), np_5' (show 4 < 5 by decide), e, true_and, and_true, if_true, if_false, Nat.reduceEqDiff, false_and, and_false]
        exact this
  have k0 := cub_6 (V := V) (n := V (5 + j) 6 - 1) (f := 1) hj
  have k1 := cub_6 (V := V) (n := V (5 + j) 6 - 1) (f := 0) hj
  rw [if_pos hf, if_pos hf] at k0
  rw [if_neg (by omega), if_neg (by omega)] at k1
  have hM : gmX (vu (vu (vu V (5 + j) 6 (V (5 + j) 6 - 1)) 4 5 (V 4 5 + 1)) 1 8 (V 1 8 + 1)) 4 1 := by
    have := hY
    unfold gmX at *
    rw [cnt_a (by omega), cnt_a (by omega), cnt_a (by omega), cub_a (by omega), cub_a (by omega)]
    simp only [vu_s, np_55, np_5 (show 1 < 5 by decide), np_5 (show 3 < 5 by decide), np_5 (show 4 < 5 by decide), np_5' (show 1 < 5 by decide), np_5' (show 3 < 5 by decide), np_5' (show 4 < 5 by decide), true_and, and_true, if_true, if_false, Nat.reduceEqDiff, false_and, and_false]
    omega
  have hN : gmX (vu (vu (vu V (5 + j) 6 (V (5 + j) 6 - 1)) 4 5 (V 4 5 + 1)) 1 8 (V 1 8 + 1)) 3 0 := by
    have := hX
    unfold gmX at *
    rw [cnt_a (by omega), cnt_a (by omega), cnt_a (by omega), cub_a (by omega), cub_a (by omega)]
    simp only [vu_s, np_55, np_5 (show 1 < 5 by decide), np_5 (show 3 < 5 by decide), np_5 (show 4 < 5 by decide), np_5' (show 1 < 5 by decide), np_5' (show 3 < 5 by decide), np_5' (show 4 < 5 by decide), true_and, and_true, if_true, if_false, Nat.reduceEqDiff, false_and, and_false]
    omega
  have hT' : gmT (vu (vu (vu V (5 + j) 6 (V (5 + j) 6 - 1)) 4 5 (V 4 5 + 1)) 1 8 (V 1 8 + 1)) := by
    have := hT
    unfold gmT at *
    simp only [vu_s, np_55, np_5 (show 1 < 5 by decide), np_5 (show 3 < 5 by decide), np_5 (show 4 < 5 by decide), np_5' (show 1 < 5 by decide), np_5' (show 3 < 5 by decide), np_5' (show 4 < 5 by decide), true_and, and_true, if_true, if_false, Nat.reduceEqDiff, false_and, and_false]
    omega
  exact ⟨hA', by simpa [gmC, vu_s, np_55, np_5 (show 1 < 5 by decide), np_5 (show 3 < 5 by decide), np_5 (show 4 < 5 by decide), np_5' (show 1 < 5 by decide), np_5' (show 3 < 5 by decide), np_5' (show 4 < 5 by decide)] using hC, by simpa [gmD, vu_s, np_55, np_5 (show 1 < 5 by decide), np_5 (show 3 < 5 by decide), np_5 (show 4 < 5 by decide), np_5' (show 1 < 5 by decide), np_5' (show 3 < 5 by decide), np_5' (show 4 < 5 by decide)] using hD, by simpa [gmB, vu_s, np_55, np_5 (show 1 < 5 by decide), np_5 (show 3 < 5 by decide), np_5 (show 4 < 5 by decide), np_5' (show 1 < 5 by decide), np_5' (show 3 < 5 by decide), np_5' (show 4 < 5 by decide)] using hB, hN, hM, by simpa [gmH, vu_s, np_55, np_5 (show 1 < 5 by decide), np_5 (show 3 < 5 by decide), np_5 (show 4 < 5 by decide), np_5' (show 1 < 5 by decide), np_5' (show 3 < 5 by decide), np_5' (show 4 < 5 by decide)] using hH, hT'⟩
theorem ok_load1 {j c : Nat} (hj : j < 12) (hf : V (5 + j) 1 = 1) (h5 : ¬ V (5 + j) 5 = 0) (hp : c ≤ V 4 2) (h9 : V (5 + j) 6 + c < 10) (h : gm_ok V) : gm_ok (vu (vu (vu V 4 2 (V 4 2 - c)) 4 4 (V 4 4 + c)) (5 + j) 6 (V (5 + j) 6 + c)) := by
  obtain ⟨hA, hC, hD, hB, hX, hY, hH, hT⟩ := h
  have hA' : gmA (vu (vu (vu V 4 2 (V 4 2 - c)) 4 4 (V 4 4 + c)) (5 + j) 6 (V (5 + j) 6 + c)) := fun i hi => by
      have := hA i hi
      by_cases e : i = j
      · subst e
        simp only [vu_s, np_55, np_5 (show 1 < 5 by decide), np_5 (show 3 < 5 by decide), np_5 (show 4 < 5 by decide), np_5' (show 1 < 5 by decide), np_5' (show 3 < 5 by decide), np_5' (show 4 < 5 by decide), true_and, and_true, if_true, if_false, Nat.reduceEqDiff, false_and, and_false]
        omega
      · simp only [vu_s, np_55, np_5 (show 1 < 5 by decide), np_5 (show 3 < 5 by decide), np_5 (show 4 < 5 by decide), np_5' (show 1 < 5 by decide), np_5' (show 3 < 5 by decide), np_5' (show 4 < 5 by decide), e, true_and, and_true, if_true, if_false, Nat.reduceEqDiff, false_and, and_false]
        exact this
  have k0 := cub_6 (V := vu (vu V 4 2 (V 4 2 - c)) 4 4 (V 4 4 + c)) (n := V (5 + j) 6 + c) (f := 1) hj
  have k1 := cub_6 (V := vu (vu V 4 2 (V 4 2 - c)) 4 4 (V 4 4 + c)) (n := V (5 + j) 6 + c) (f := 0) hj
  have ku : ∀ f, gm_cub (vu (vu V 4 2 (V 4 2 - c)) 4 4 (V 4 4 + c)) f = gm_cub V f := fun f => by rw [cub_a (by omega), cub_a (by omega)]
  rw [ku] at k0 k1
  simp only [vu_s, np_55, np_5 (show 1 < 5 by decide), np_5 (show 3 < 5 by decide), np_5 (show 4 < 5 by decide), np_5' (show 1 < 5 by decide), np_5' (show 3 < 5 by decide), np_5' (show 4 < 5 by decide), true_and, and_true, if_true, if_false, Nat.reduceEqDiff, false_and, and_false, hf] at k0 k1
  have hM : gmX (vu (vu (vu V 4 2 (V 4 2 - c)) 4 4 (V 4 4 + c)) (5 + j) 6 (V (5 + j) 6 + c)) 4 1 := by
    have := hY
    unfold gmX at *
    rw [cnt_a (by omega), cnt_a (by omega), cnt_a (by omega)]
    simp only [vu_s, np_55, np_5 (show 1 < 5 by decide), np_5 (show 3 < 5 by decide), np_5 (show 4 < 5 by decide), np_5' (show 1 < 5 by decide), np_5' (show 3 < 5 by decide), np_5' (show 4 < 5 by decide), true_and, and_true, if_true, if_false, Nat.reduceEqDiff, false_and, and_false]
    omega
  have hN : gmX (vu (vu (vu V 4 2 (V 4 2 - c)) 4 4 (V 4 4 + c)) (5 + j) 6 (V (5 + j) 6 + c)) 3 0 := by
    have := hX
    unfold gmX at *
    rw [cnt_a (by omega), cnt_a (by omega), cnt_a (by omega)]
    simp only [vu_s, np_55, np_5 (show 1 < 5 by decide), np_5 (show 3 < 5 by decide), np_5 (show 4 < 5 by decide), np_5' (show 1 < 5 by decide), np_5' (show 3 < 5 by decide), np_5' (show 4 < 5 by decide), true_and, and_true, if_true, if_false, Nat.reduceEqDiff, false_and, and_false]
    omega
  exact ⟨hA', by simpa [gmC, vu_s, np_55, np_5 (show 1 < 5 by decide), np_5 (show 3 < 5 by decide), np_5 (show 4 < 5 by decide), np_5' (show 1 < 5 by decide), np_5' (show 3 < 5 by decide), np_5' (show 4 < 5 by decide)] using hC, by simpa [gmD, vu_s, np_55, np_5 (show 1 < 5 by decide), np_5 (show 3 < 5 by decide), np_5 (show 4 < 5 by decide), np_5' (show 1 < 5 by decide), np_5' (show 3 < 5 by decide), np_5' (show 4 < 5 by decide)] using hD, by simpa [gmB, vu_s, np_55, np_5 (show 1 < 5 by decide), np_5 (show 3 < 5 by decide), np_5 (show 4 < 5 by decide), np_5' (show 1 < 5 by decide), np_5' (show 3 < 5 by decide), np_5' (show 4 < 5 by decide)] using hB, hN, hM, by simpa [gmH, vu_s, np_55, np_5 (show 1 < 5 by decide), np_5 (show 3 < 5 by decide), np_5 (show 4 < 5 by decide), np_5' (show 1 < 5 by decide), np_5' (show 3 < 5 by decide), np_5' (show 4 < 5 by decide)] using hH, by simpa [gmT, vu_s, np_55, np_5 (show 1 < 5 by decide), np_5 (show 3 < 5 by decide), np_5 (show 4 < 5 by decide), np_5' (show 1 < 5 by decide), np_5' (show 3 < 5 by decide), np_5' (show 4 < 5 by decide)] using hT⟩
end
