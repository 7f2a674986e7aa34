/-! THE PURE PART, 25: a hit, a spoon that sinks, a spoon that is added (written by wip/p56/gen55.py). -/
section
variable {V V' : gm_V} {f j : Nat}
theorem cnt_gen (hj : j < 12) (h : ∀ q, q < 12 → ¬ q = j → V' (5 + q) 5 = V (5 + q) 5 ∧ V' (5 + q) 1 = V (5 + q) 1) : gm_cnt V' f + gm_ct V f j = gm_cnt V f + gm_ct V' f j :=
  sn_upd (h := gm_ct V' f) (g := gm_ct V f) (j := j) 12 0 (by omega) (by omega) (fun q _ h1 h2 => by
    obtain ⟨e1, e2⟩ := h q (by omega) h2
    unfold gm_ct
    rw [e1, e2])
theorem cub_gen (hj : j < 12) (h : ∀ q, q < 12 → ¬ q = j → V' (5 + q) 6 = V (5 + q) 6 ∧ V' (5 + q) 1 = V (5 + q) 1) : gm_cub V' f + gm_cu V f j = gm_cub V f + gm_cu V' f j :=
  sn_upd (h := gm_cu V' f) (g := gm_cu V f) (j := j) 12 0 (by omega) (by omega) (fun q _ h1 h2 => by
    obtain ⟨e1, e2⟩ := h q (by omega) h2
    unfold gm_cu
    rw [e1, e2])
end
section
variable {V : gm_V}
theorem ok_hit {j : Nat} (hj : j < 12) (h5 : V (5 + j) 5 = 2) (h9 : V 1 9 < V 1 8) (h : gm_ok V) : gm_ok (vu (vu V 1 9 (V 1 9 + 1)) (5 + j) 5 1) := by
  obtain ⟨hA, hC, hD, hB, hX, hY, hH, hT⟩ := h
  have hA' : gmA (vu (vu V 1 9 (V 1 9 + 1)) (5 + j) 5 1) := fun i hi => by
      have := hA i hi
      by_cases e : i = j
      · subst e
        simp only [vu_s, np_55, np_5 (show 1 < 5 by decide), np_5 (show 3 < 5 by decide), np_5 (show 4 < 5 by decide), np_5' (show 1 < 5 by decide), np_5' (show 3 < 5 by decide), np_5' (show 4 < 5 by decide), true_and, and_true, if_true, if_false, Nat.reduceEqDiff, false_and, and_false, ite_self]
        repeat' apply And.intro
        all_goals first | omega | (intro q; first | omega | exact q.elim)
      · simp only [vu_s, np_55, np_5 (show 1 < 5 by decide), np_5 (show 3 < 5 by decide), np_5 (show 4 < 5 by decide), np_5' (show 1 < 5 by decide), np_5' (show 3 < 5 by decide), np_5' (show 4 < 5 by decide), e, true_and, and_true, if_true, if_false, Nat.reduceEqDiff, false_and, and_false, ite_self]
        exact this
  have hC' : gmC (vu (vu V 1 9 (V 1 9 + 1)) (5 + j) 5 1) := by
    refine ⟨by simpa [vu_s, np_55, np_5 (show 1 < 5 by decide), np_5 (show 3 < 5 by decide), np_5 (show 4 < 5 by decide), np_5' (show 1 < 5 by decide), np_5' (show 3 < 5 by decide), np_5' (show 4 < 5 by decide)] using hC.1, fun i hi hc => ?_⟩
    have := hC.2 i hi
    by_cases e : i = j
    · simp only [vu_s, np_55, np_5 (show 1 < 5 by decide), np_5 (show 3 < 5 by decide), np_5 (show 4 < 5 by decide), np_5' (show 1 < 5 by decide), np_5' (show 3 < 5 by decide), np_5' (show 4 < 5 by decide), e, true_and, and_true, if_true, if_false, Nat.reduceEqDiff, false_and, and_false, ite_self] at hc this ⊢ <;> omega
    · simp only [vu_s, np_55, np_5 (show 1 < 5 by decide), np_5 (show 3 < 5 by decide), np_5 (show 4 < 5 by decide), np_5' (show 1 < 5 by decide), np_5' (show 3 < 5 by decide), np_5' (show 4 < 5 by decide), e, true_and, and_true, if_true, if_false, Nat.reduceEqDiff, false_and, and_false, ite_self] at hc this ⊢ <;> omega
  have hD' : gmD (vu (vu V 1 9 (V 1 9 + 1)) (5 + j) 5 1) := fun a b ha hb => by
    have := hD a b ha hb
    by_cases e1 : a = j <;> by_cases e2 : b = j
    · intros; omega
    · simp only [vu_s, np_55, np_5 (show 1 < 5 by decide), np_5 (show 3 < 5 by decide), np_5 (show 4 < 5 by decide), np_5' (show 1 < 5 by decide), np_5' (show 3 < 5 by decide), np_5' (show 4 < 5 by decide), e1, e2, true_and, and_true, if_true, if_false, Nat.reduceEqDiff, false_and, and_false, ite_self]
      rw [e1] at this
      omega
    · simp only [vu_s, np_55, np_5 (show 1 < 5 by decide), np_5 (show 3 < 5 by decide), np_5 (show 4 < 5 by decide), np_5' (show 1 < 5 by decide), np_5' (show 3 < 5 by decide), np_5' (show 4 < 5 by decide), e1, e2, true_and, and_true, if_true, if_false, Nat.reduceEqDiff, false_and, and_false, ite_self]
      rw [e2] at this
      omega
    · simp only [vu_s, np_55, np_5 (show 1 < 5 by decide), np_5 (show 3 < 5 by decide), np_5 (show 4 < 5 by decide), np_5' (show 1 < 5 by decide), np_5' (show 3 < 5 by decide), np_5' (show 4 < 5 by decide), e1, e2, true_and, and_true, if_true, if_false, Nat.reduceEqDiff, false_and, and_false, ite_self]
      exact this
  have hM : gmX (vu (vu V 1 9 (V 1 9 + 1)) (5 + j) 5 1) 3 0 := by
    have k1 := cnt_gen (V' := (vu (vu V 1 9 (V 1 9 + 1)) (5 + j) 5 1)) (f := 0) hj (V := V) (fun q _ hq => by
    constructor <;> simp only [vu_s, np_55, np_5 (show 1 < 5 by decide), np_5 (show 3 < 5 by decide), np_5 (show 4 < 5 by decide), np_5' (show 1 < 5 by decide), np_5' (show 3 < 5 by decide), np_5' (show 4 < 5 by decide), hq, true_and, and_true, if_true, if_false, Nat.reduceEqDiff, false_and, and_false, ite_self])
    have k2 := cub_gen (V' := (vu (vu V 1 9 (V 1 9 + 1)) (5 + j) 5 1)) (f := 0) hj (V := V) (fun q _ hq => by
    constructor <;> simp only [vu_s, np_55, np_5 (show 1 < 5 by decide), np_5 (show 3 < 5 by decide), np_5 (show 4 < 5 by decide), np_5' (show 1 < 5 by decide), np_5' (show 3 < 5 by decide), np_5' (show 4 < 5 by decide), hq, true_and, and_true, if_true, if_false, Nat.reduceEqDiff, false_and, and_false, ite_self])
    have := hX
    unfold gmX at *
    unfold gm_ct at k1
    unfold gm_cu at k2
    generalize gm_cnt (vu (vu V 1 9 (V 1 9 + 1)) (5 + j) 5 1) 0 = z1 at k1 ⊢
    generalize gm_cub (vu (vu V 1 9 (V 1 9 + 1)) (5 + j) 5 1) 0 = z2 at k2 ⊢
    simp only [vu_s, np_55, np_5 (show 1 < 5 by decide), np_5 (show 3 < 5 by decide), np_5 (show 4 < 5 by decide), np_5' (show 1 < 5 by decide), np_5' (show 3 < 5 by decide), np_5' (show 4 < 5 by decide), true_and, and_true, if_true, if_false, Nat.reduceEqDiff, false_and, and_false, ite_self, h5] at k1 k2 ⊢
    omega
  have hN : gmX (vu (vu V 1 9 (V 1 9 + 1)) (5 + j) 5 1) 4 1 := by
    have k1 := cnt_gen (V' := (vu (vu V 1 9 (V 1 9 + 1)) (5 + j) 5 1)) (f := 1) hj (V := V) (fun q _ hq => by
    constructor <;> simp only [vu_s, np_55, np_5 (show 1 < 5 by decide), np_5 (show 3 < 5 by decide), np_5 (show 4 < 5 by decide), np_5' (show 1 < 5 by decide), np_5' (show 3 < 5 by decide), np_5' (show 4 < 5 by decide), hq, true_and, and_true, if_true, if_false, Nat.reduceEqDiff, false_and, and_false, ite_self])
    have k2 := cub_gen (V' := (vu (vu V 1 9 (V 1 9 + 1)) (5 + j) 5 1)) (f := 1) hj (V := V) (fun q _ hq => by
    constructor <;> simp only [vu_s, np_55, np_5 (show 1 < 5 by decide), np_5 (show 3 < 5 by decide), np_5 (show 4 < 5 by decide), np_5' (show 1 < 5 by decide), np_5' (show 3 < 5 by decide), np_5' (show 4 < 5 by decide), hq, true_and, and_true, if_true, if_false, Nat.reduceEqDiff, false_and, and_false, ite_self])
    have := hY
    unfold gmX at *
    unfold gm_ct at k1
    unfold gm_cu at k2
    generalize gm_cnt (vu (vu V 1 9 (V 1 9 + 1)) (5 + j) 5 1) 1 = z1 at k1 ⊢
    generalize gm_cub (vu (vu V 1 9 (V 1 9 + 1)) (5 + j) 5 1) 1 = z2 at k2 ⊢
    simp only [vu_s, np_55, np_5 (show 1 < 5 by decide), np_5 (show 3 < 5 by decide), np_5 (show 4 < 5 by decide), np_5' (show 1 < 5 by decide), np_5' (show 3 < 5 by decide), np_5' (show 4 < 5 by decide), true_and, and_true, if_true, if_false, Nat.reduceEqDiff, false_and, and_false, ite_self, h5] at k1 k2 ⊢
    omega
  have hT' : gmT (vu (vu V 1 9 (V 1 9 + 1)) (5 + j) 5 1) := by
    have := hT
    unfold gmT at *
    simp only [vu_s, np_55, np_5 (show 1 < 5 by decide), np_5 (show 3 < 5 by decide), np_5 (show 4 < 5 by decide), np_5' (show 1 < 5 by decide), np_5' (show 3 < 5 by decide), np_5' (show 4 < 5 by decide), true_and, and_true, if_true, if_false, Nat.reduceEqDiff, false_and, and_false, ite_self]
    omega
  exact ⟨hA', hC', hD', by simpa [gmB, vu_s, np_55, np_5 (show 1 < 5 by decide), np_5 (show 3 < 5 by decide), np_5 (show 4 < 5 by decide), np_5' (show 1 < 5 by decide), np_5' (show 3 < 5 by decide), np_5' (show 4 < 5 by decide)] using hB, hM, hN, by simpa [gmH, vu_s, np_55, np_5 (show 1 < 5 by decide), np_5 (show 3 < 5 by decide), np_5 (show 4 < 5 by decide), np_5' (show 1 < 5 by decide), np_5' (show 3 < 5 by decide), np_5' (show 4 < 5 by decide)] using hH, hT'⟩
theorem ok_sink0 {j : Nat} (hj : j < 12) (hf : V (5 + j) 1 = 0) (h5 : V (5 + j) 5 = 1) (h9 : V 1 9 < V 1 8) (h4 : V 1 4 = 1) (ho : ¬ V 4 1 = 0) (h : gm_ok V) : gm_ok (vu (vu (vu (vu (vu V 1 9 (V 1 9 + 1)) (5 + j) 5 0) 3 1 (V 3 1 - 1)) 3 7 (V 3 7 + V (5 + j) 6)) (5 + j) 6 0) := by
  obtain ⟨hA, hC, hD, hB, hX, hY, hH, hT⟩ := h
  have hA' : gmA (vu (vu (vu (vu (vu V 1 9 (V 1 9 + 1)) (5 + j) 5 0) 3 1 (V 3 1 - 1)) 3 7 (V 3 7 + V (5 + j) 6)) (5 + j) 6 0) := fun i hi => by
      have := hA i hi
      by_cases e : i = j
      · subst e
        simp only [vu_s, np_55, np_5 (show 1 < 5 by decide), np_5 (show 3 < 5 by decide), np_5 (show 4 < 5 by decide), np_5' (show 1 < 5 by decide), np_5' (show 3 < 5 by decide), np_5' (show 4 < 5 by decide), true_and, and_true, if_true, if_false, Nat.reduceEqDiff, false_and, and_false, ite_self]
        repeat' apply And.intro
        all_goals first | omega | (intro q; first | omega | exact q.elim)
      · simp only [vu_s, np_55, np_5 (show 1 < 5 by decide), np_5 (show 3 < 5 by decide), np_5 (show 4 < 5 by decide), np_5' (show 1 < 5 by decide), np_5' (show 3 < 5 by decide), np_5' (show 4 < 5 by decide), e, true_and, and_true, if_true, if_false, Nat.reduceEqDiff, false_and, and_false, ite_self]
        exact this
  have hC' : gmC (vu (vu (vu (vu (vu V 1 9 (V 1 9 + 1)) (5 + j) 5 0) 3 1 (V 3 1 - 1)) 3 7 (V 3 7 + V (5 + j) 6)) (5 + j) 6 0) := by
    refine ⟨by simpa [vu_s, np_55, np_5 (show 1 < 5 by decide), np_5 (show 3 < 5 by decide), np_5 (show 4 < 5 by decide), np_5' (show 1 < 5 by decide), np_5' (show 3 < 5 by decide), np_5' (show 4 < 5 by decide)] using hC.1, fun i hi hc => ?_⟩
    have := hC.2 i hi
    by_cases e : i = j
    · simp only [vu_s, np_55, np_5 (show 1 < 5 by decide), np_5 (show 3 < 5 by decide), np_5 (show 4 < 5 by decide), np_5' (show 1 < 5 by decide), np_5' (show 3 < 5 by decide), np_5' (show 4 < 5 by decide), e, true_and, and_true, if_true, if_false, Nat.reduceEqDiff, false_and, and_false, ite_self] at hc this ⊢ <;> omega
    · simp only [vu_s, np_55, np_5 (show 1 < 5 by decide), np_5 (show 3 < 5 by decide), np_5 (show 4 < 5 by decide), np_5' (show 1 < 5 by decide), np_5' (show 3 < 5 by decide), np_5' (show 4 < 5 by decide), e, true_and, and_true, if_true, if_false, Nat.reduceEqDiff, false_and, and_false, ite_self] at hc this ⊢ <;> omega
  have hD' : gmD (vu (vu (vu (vu (vu V 1 9 (V 1 9 + 1)) (5 + j) 5 0) 3 1 (V 3 1 - 1)) 3 7 (V 3 7 + V (5 + j) 6)) (5 + j) 6 0) := fun a b ha hb => by
    have := hD a b ha hb
    by_cases e1 : a = j <;> by_cases e2 : b = j
    · intros; omega
    · simp only [vu_s, np_55, np_5 (show 1 < 5 by decide), np_5 (show 3 < 5 by decide), np_5 (show 4 < 5 by decide), np_5' (show 1 < 5 by decide), np_5' (show 3 < 5 by decide), np_5' (show 4 < 5 by decide), e1, e2, true_and, and_true, if_true, if_false, Nat.reduceEqDiff, false_and, and_false, ite_self]
      rw [e1] at this
      omega
    · simp only [vu_s, np_55, np_5 (show 1 < 5 by decide), np_5 (show 3 < 5 by decide), np_5 (show 4 < 5 by decide), np_5' (show 1 < 5 by decide), np_5' (show 3 < 5 by decide), np_5' (show 4 < 5 by decide), e1, e2, true_and, and_true, if_true, if_false, Nat.reduceEqDiff, false_and, and_false, ite_self]
      rw [e2] at this
      omega
    · simp only [vu_s, np_55, np_5 (show 1 < 5 by decide), np_5 (show 3 < 5 by decide), np_5 (show 4 < 5 by decide), np_5' (show 1 < 5 by decide), np_5' (show 3 < 5 by decide), np_5' (show 4 < 5 by decide), e1, e2, true_and, and_true, if_true, if_false, Nat.reduceEqDiff, false_and, and_false, ite_self]
      exact this
  have hM : gmX (vu (vu (vu (vu (vu V 1 9 (V 1 9 + 1)) (5 + j) 5 0) 3 1 (V 3 1 - 1)) 3 7 (V 3 7 + V (5 + j) 6)) (5 + j) 6 0) 3 0 := by
    have k1 := cnt_gen (V' := (vu (vu (vu (vu (vu V 1 9 (V 1 9 + 1)) (5 + j) 5 0) 3 1 (V 3 1 - 1)) 3 7 (V 3 7 + V (5 + j) 6)) (5 + j) 6 0)) (f := 0) hj (V := V) (fun q _ hq => by
    constructor <;> simp only [vu_s, np_55, np_5 (show 1 < 5 by decide), np_5 (show 3 < 5 by decide), np_5 (show 4 < 5 by decide), np_5' (show 1 < 5 by decide), np_5' (show 3 < 5 by decide), np_5' (show 4 < 5 by decide), hq, true_and, and_true, if_true, if_false, Nat.reduceEqDiff, false_and, and_false, ite_self])
    have k2 := cub_gen (V' := (vu (vu (vu (vu (vu V 1 9 (V 1 9 + 1)) (5 + j) 5 0) 3 1 (V 3 1 - 1)) 3 7 (V 3 7 + V (5 + j) 6)) (5 + j) 6 0)) (f := 0) hj (V := V) (fun q _ hq => by
    constructor <;> simp only [vu_s, np_55, np_5 (show 1 < 5 by decide), np_5 (show 3 < 5 by decide), np_5 (show 4 < 5 by decide), np_5' (show 1 < 5 by decide), np_5' (show 3 < 5 by decide), np_5' (show 4 < 5 by decide), hq, true_and, and_true, if_true, if_false, Nat.reduceEqDiff, false_and, and_false, ite_self])
    have := hX
    unfold gmX at *
    unfold gm_ct at k1
    unfold gm_cu at k2
    generalize gm_cnt (vu (vu (vu (vu (vu V 1 9 (V 1 9 + 1)) (5 + j) 5 0) 3 1 (V 3 1 - 1)) 3 7 (V 3 7 + V (5 + j) 6)) (5 + j) 6 0) 0 = z1 at k1 ⊢
    generalize gm_cub (vu (vu (vu (vu (vu V 1 9 (V 1 9 + 1)) (5 + j) 5 0) 3 1 (V 3 1 - 1)) 3 7 (V 3 7 + V (5 + j) 6)) (5 + j) 6 0) 0 = z2 at k2 ⊢
    simp only [vu_s, np_55, np_5 (show 1 < 5 by decide), np_5 (show 3 < 5 by decide), np_5 (show 4 < 5 by decide), np_5' (show 1 < 5 by decide), np_5' (show 3 < 5 by decide), np_5' (show 4 < 5 by decide), true_and, and_true, if_true, if_false, Nat.reduceEqDiff, false_and, and_false, ite_self, h5, hf, (show (1 : Nat) = 0 ↔ False by decide)] at k1 k2 ⊢
    omega
  have hN : gmX (vu (vu (vu (vu (vu V 1 9 (V 1 9 + 1)) (5 + j) 5 0) 3 1 (V 3 1 - 1)) 3 7 (V 3 7 + V (5 + j) 6)) (5 + j) 6 0) 4 1 := by
    have k1 := cnt_gen (V' := (vu (vu (vu (vu (vu V 1 9 (V 1 9 + 1)) (5 + j) 5 0) 3 1 (V 3 1 - 1)) 3 7 (V 3 7 + V (5 + j) 6)) (5 + j) 6 0)) (f := 1) hj (V := V) (fun q _ hq => by
    constructor <;> simp only [vu_s, np_55, np_5 (show 1 < 5 by decide), np_5 (show 3 < 5 by decide), np_5 (show 4 < 5 by decide), np_5' (show 1 < 5 by decide), np_5' (show 3 < 5 by decide), np_5' (show 4 < 5 by decide), hq, true_and, and_true, if_true, if_false, Nat.reduceEqDiff, false_and, and_false, ite_self])
    have k2 := cub_gen (V' := (vu (vu (vu (vu (vu V 1 9 (V 1 9 + 1)) (5 + j) 5 0) 3 1 (V 3 1 - 1)) 3 7 (V 3 7 + V (5 + j) 6)) (5 + j) 6 0)) (f := 1) hj (V := V) (fun q _ hq => by
    constructor <;> simp only [vu_s, np_55, np_5 (show 1 < 5 by decide), np_5 (show 3 < 5 by decide), np_5 (show 4 < 5 by decide), np_5' (show 1 < 5 by decide), np_5' (show 3 < 5 by decide), np_5' (show 4 < 5 by decide), hq, true_and, and_true, if_true, if_false, Nat.reduceEqDiff, false_and, and_false, ite_self])
    have := hY
    unfold gmX at *
    unfold gm_ct at k1
    unfold gm_cu at k2
    generalize gm_cnt (vu (vu (vu (vu (vu V 1 9 (V 1 9 + 1)) (5 + j) 5 0) 3 1 (V 3 1 - 1)) 3 7 (V 3 7 + V (5 + j) 6)) (5 + j) 6 0) 1 = z1 at k1 ⊢
    generalize gm_cub (vu (vu (vu (vu (vu V 1 9 (V 1 9 + 1)) (5 + j) 5 0) 3 1 (V 3 1 - 1)) 3 7 (V 3 7 + V (5 + j) 6)) (5 + j) 6 0) 1 = z2 at k2 ⊢
    simp only [vu_s, np_55, np_5 (show 1 < 5 by decide), np_5 (show 3 < 5 by decide), np_5 (show 4 < 5 by decide), np_5' (show 1 < 5 by decide), np_5' (show 3 < 5 by decide), np_5' (show 4 < 5 by decide), true_and, and_true, if_true, if_false, Nat.reduceEqDiff, false_and, and_false, ite_self, h5, hf] at k1 k2 ⊢
    omega
  have hT' : gmT (vu (vu (vu (vu (vu V 1 9 (V 1 9 + 1)) (5 + j) 5 0) 3 1 (V 3 1 - 1)) 3 7 (V 3 7 + V (5 + j) 6)) (5 + j) 6 0) := by
    have := hT
    unfold gmT at *
    simp only [vu_s, np_55, np_5 (show 1 < 5 by decide), np_5 (show 3 < 5 by decide), np_5 (show 4 < 5 by decide), np_5' (show 1 < 5 by decide), np_5' (show 3 < 5 by decide), np_5' (show 4 < 5 by decide), true_and, and_true, if_true, if_false, Nat.reduceEqDiff, false_and, and_false, ite_self]
    omega
  have hH' : gmH (vu (vu (vu (vu (vu V 1 9 (V 1 9 + 1)) (5 + j) 5 0) 3 1 (V 3 1 - 1)) 3 7 (V 3 7 + V (5 + j) 6)) (5 + j) 6 0) := by
    have := hH
    unfold gmH at *
    simp only [vu_s, np_55, np_5 (show 1 < 5 by decide), np_5 (show 3 < 5 by decide), np_5 (show 4 < 5 by decide), np_5' (show 1 < 5 by decide), np_5' (show 3 < 5 by decide), np_5' (show 4 < 5 by decide), true_and, and_true, if_true, if_false, Nat.reduceEqDiff, false_and, and_false, ite_self]
    omega
  exact ⟨hA', hC', hD', by simpa [gmB, vu_s, np_55, np_5 (show 1 < 5 by decide), np_5 (show 3 < 5 by decide), np_5 (show 4 < 5 by decide), np_5' (show 1 < 5 by decide), np_5' (show 3 < 5 by decide), np_5' (show 4 < 5 by decide)] using hB, hM, hN, hH', hT'⟩
theorem ok_place0 {j x y b c : Nat} (hj : j < 12) (h3 : V 1 3 = j) (h4 : V 1 4 = 0) (h0 : V 3 0 < 6) (hx : x < 10) (hy : y < 10) (hb : b < 8) (hc : c < 10) (hfr : ∀ i, i < 12 → ¬ V (5 + i) 5 = 0 → V (5 + i) 2 = x → V (5 + i) 3 = y → False) (h : gm_ok V) : gm_ok (vu (vu (vu (vu (vu (vu (vu (vu (vu (vu (vu (vu V (5 + j) 1 0) (5 + j) 2 x) (5 + j) 3 y) (5 + j) 4 b) (5 + j) 5 2) (5 + j) 6 c) (5 + j) 7 x) (5 + j) 8 y) 3 0 (V 3 0 + 1)) 3 1 (V 3 1 + 1)) 3 3 (V 3 3 + c)) 1 3 (V 1 3 + 1)) := by
  obtain ⟨hA, hC, hD, hB, hX, hY, hH, hT⟩ := h
  have h5 : V (5 + j) 5 = 0 := hC.2 j hj (by omega)
  have h6 : V (5 + j) 6 = 0 := (hA j hj).2.2.2.2.2.2.2.2.2 h5
  have hA' : gmA (vu (vu (vu (vu (vu (vu (vu (vu (vu (vu (vu (vu V (5 + j) 1 0) (5 + j) 2 x) (5 + j) 3 y) (5 + j) 4 b) (5 + j) 5 2) (5 + j) 6 c) (5 + j) 7 x) (5 + j) 8 y) 3 0 (V 3 0 + 1)) 3 1 (V 3 1 + 1)) 3 3 (V 3 3 + c)) 1 3 (V 1 3 + 1)) := fun i hi => by
      have := hA i hi
      by_cases e : i = j
      · subst e
        simp only [vu_s, np_55, np_5 (show 1 < 5 by decide), np_5 (show 3 < 5 by decide), np_5 (show 4 < 5 by decide), np_5' (show 1 < 5 by decide), np_5' (show 3 < 5 by decide), np_5' (show 4 < 5 by decide), true_and, and_true, if_true, if_false, Nat.reduceEqDiff, false_and, and_false, ite_self]
        repeat' apply And.intro
        all_goals first | omega | (intro q; first | omega | exact q.elim)
      · simp only [vu_s, np_55, np_5 (show 1 < 5 by decide), np_5 (show 3 < 5 by decide), np_5 (show 4 < 5 by decide), np_5' (show 1 < 5 by decide), np_5' (show 3 < 5 by decide), np_5' (show 4 < 5 by decide), e, true_and, and_true, if_true, if_false, Nat.reduceEqDiff, false_and, and_false, ite_self]
        exact this
  have hC' : gmC (vu (vu (vu (vu (vu (vu (vu (vu (vu (vu (vu (vu V (5 + j) 1 0) (5 + j) 2 x) (5 + j) 3 y) (5 + j) 4 b) (5 + j) 5 2) (5 + j) 6 c) (5 + j) 7 x) (5 + j) 8 y) 3 0 (V 3 0 + 1)) 3 1 (V 3 1 + 1)) 3 3 (V 3 3 + c)) 1 3 (V 1 3 + 1)) := by
    refine ⟨by simp only [vu_s, np_55, np_5 (show 1 < 5 by decide), np_5 (show 3 < 5 by decide), np_5 (show 4 < 5 by decide), np_5' (show 1 < 5 by decide), np_5' (show 3 < 5 by decide), np_5' (show 4 < 5 by decide), true_and, and_true, if_true, if_false, Nat.reduceEqDiff, false_and, and_false, ite_self]; omega, fun i hi hc => ?_⟩
    have := hC.2 i hi
    by_cases e : i = j
    · simp only [vu_s, np_55, np_5 (show 1 < 5 by decide), np_5 (show 3 < 5 by decide), np_5 (show 4 < 5 by decide), np_5' (show 1 < 5 by decide), np_5' (show 3 < 5 by decide), np_5' (show 4 < 5 by decide), e, true_and, and_true, if_true, if_false, Nat.reduceEqDiff, false_and, and_false, ite_self] at hc this ⊢ <;> omega
    · simp only [vu_s, np_55, np_5 (show 1 < 5 by decide), np_5 (show 3 < 5 by decide), np_5 (show 4 < 5 by decide), np_5' (show 1 < 5 by decide), np_5' (show 3 < 5 by decide), np_5' (show 4 < 5 by decide), e, true_and, and_true, if_true, if_false, Nat.reduceEqDiff, false_and, and_false, ite_self] at hc this ⊢ <;> omega
  have hD' : gmD (vu (vu (vu (vu (vu (vu (vu (vu (vu (vu (vu (vu V (5 + j) 1 0) (5 + j) 2 x) (5 + j) 3 y) (5 + j) 4 b) (5 + j) 5 2) (5 + j) 6 c) (5 + j) 7 x) (5 + j) 8 y) 3 0 (V 3 0 + 1)) 3 1 (V 3 1 + 1)) 3 3 (V 3 3 + c)) 1 3 (V 1 3 + 1)) := fun a b ha hb => by
    have := hD a b ha hb
    by_cases e1 : a = j <;> by_cases e2 : b = j
    · intros; omega
    · simp only [vu_s, np_55, np_5 (show 1 < 5 by decide), np_5 (show 3 < 5 by decide), np_5 (show 4 < 5 by decide), np_5' (show 1 < 5 by decide), np_5' (show 3 < 5 by decide), np_5' (show 4 < 5 by decide), e1, e2, true_and, and_true, if_true, if_false, Nat.reduceEqDiff, false_and, and_false, ite_self]
      rw [e1] at this
      intro p q r s; exact (hfr b hb q r.symm s.symm).elim
    · simp only [vu_s, np_55, np_5 (show 1 < 5 by decide), np_5 (show 3 < 5 by decide), np_5 (show 4 < 5 by decide), np_5' (show 1 < 5 by decide), np_5' (show 3 < 5 by decide), np_5' (show 4 < 5 by decide), e1, e2, true_and, and_true, if_true, if_false, Nat.reduceEqDiff, false_and, and_false, ite_self]
      rw [e2] at this
      intro p q r s; exact (hfr a ha p r s).elim
    · simp only [vu_s, np_55, np_5 (show 1 < 5 by decide), np_5 (show 3 < 5 by decide), np_5 (show 4 < 5 by decide), np_5' (show 1 < 5 by decide), np_5' (show 3 < 5 by decide), np_5' (show 4 < 5 by decide), e1, e2, true_and, and_true, if_true, if_false, Nat.reduceEqDiff, false_and, and_false, ite_self]
      exact this
  have hM : gmX (vu (vu (vu (vu (vu (vu (vu (vu (vu (vu (vu (vu V (5 + j) 1 0) (5 + j) 2 x) (5 + j) 3 y) (5 + j) 4 b) (5 + j) 5 2) (5 + j) 6 c) (5 + j) 7 x) (5 + j) 8 y) 3 0 (V 3 0 + 1)) 3 1 (V 3 1 + 1)) 3 3 (V 3 3 + c)) 1 3 (V 1 3 + 1)) 3 0 := by
    have k1 := cnt_gen (V' := (vu (vu (vu (vu (vu (vu (vu (vu (vu (vu (vu (vu V (5 + j) 1 0) (5 + j) 2 x) (5 + j) 3 y) (5 + j) 4 b) (5 + j) 5 2) (5 + j) 6 c) (5 + j) 7 x) (5 + j) 8 y) 3 0 (V 3 0 + 1)) 3 1 (V 3 1 + 1)) 3 3 (V 3 3 + c)) 1 3 (V 1 3 + 1))) (f := 0) hj (V := V) (fun q _ hq => by
    constructor <;> simp only [vu_s, np_55, np_5 (show 1 < 5 by decide), np_5 (show 3 < 5 by decide), np_5 (show 4 < 5 by decide), np_5' (show 1 < 5 by decide), np_5' (show 3 < 5 by decide), np_5' (show 4 < 5 by decide), hq, true_and, and_true, if_true, if_false, Nat.reduceEqDiff, false_and, and_false, ite_self])
    have k2 := cub_gen (V' := (vu (vu (vu (vu (vu (vu (vu (vu (vu (vu (vu (vu V (5 + j) 1 0) (5 + j) 2 x) (5 + j) 3 y) (5 + j) 4 b) (5 + j) 5 2) (5 + j) 6 c) (5 + j) 7 x) (5 + j) 8 y) 3 0 (V 3 0 + 1)) 3 1 (V 3 1 + 1)) 3 3 (V 3 3 + c)) 1 3 (V 1 3 + 1))) (f := 0) hj (V := V) (fun q _ hq => by
    constructor <;> simp only [vu_s, np_55, np_5 (show 1 < 5 by decide), np_5 (show 3 < 5 by decide), np_5 (show 4 < 5 by decide), np_5' (show 1 < 5 by decide), np_5' (show 3 < 5 by decide), np_5' (show 4 < 5 by decide), hq, true_and, and_true, if_true, if_false, Nat.reduceEqDiff, false_and, and_false, ite_self])
    have := hX
    unfold gmX at *
    unfold gm_ct at k1
    unfold gm_cu at k2
    generalize gm_cnt (vu (vu (vu (vu (vu (vu (vu (vu (vu (vu (vu (vu V (5 + j) 1 0) (5 + j) 2 x) (5 + j) 3 y) (5 + j) 4 b) (5 + j) 5 2) (5 + j) 6 c) (5 + j) 7 x) (5 + j) 8 y) 3 0 (V 3 0 + 1)) 3 1 (V 3 1 + 1)) 3 3 (V 3 3 + c)) 1 3 (V 1 3 + 1)) 0 = z1 at k1 ⊢
    generalize gm_cub (vu (vu (vu (vu (vu (vu (vu (vu (vu (vu (vu (vu V (5 + j) 1 0) (5 + j) 2 x) (5 + j) 3 y) (5 + j) 4 b) (5 + j) 5 2) (5 + j) 6 c) (5 + j) 7 x) (5 + j) 8 y) 3 0 (V 3 0 + 1)) 3 1 (V 3 1 + 1)) 3 3 (V 3 3 + c)) 1 3 (V 1 3 + 1)) 0 = z2 at k2 ⊢
    simp only [vu_s, np_55, np_5 (show 1 < 5 by decide), np_5 (show 3 < 5 by decide), np_5 (show 4 < 5 by decide), np_5' (show 1 < 5 by decide), np_5' (show 3 < 5 by decide), np_5' (show 4 < 5 by decide), true_and, and_true, if_true, if_false, Nat.reduceEqDiff, false_and, and_false, ite_self, h5, h6] at k1 k2 ⊢
    omega
  have hN : gmX (vu (vu (vu (vu (vu (vu (vu (vu (vu (vu (vu (vu V (5 + j) 1 0) (5 + j) 2 x) (5 + j) 3 y) (5 + j) 4 b) (5 + j) 5 2) (5 + j) 6 c) (5 + j) 7 x) (5 + j) 8 y) 3 0 (V 3 0 + 1)) 3 1 (V 3 1 + 1)) 3 3 (V 3 3 + c)) 1 3 (V 1 3 + 1)) 4 1 := by
    have k1 := cnt_gen (V' := (vu (vu (vu (vu (vu (vu (vu (vu (vu (vu (vu (vu V (5 + j) 1 0) (5 + j) 2 x) (5 + j) 3 y) (5 + j) 4 b) (5 + j) 5 2) (5 + j) 6 c) (5 + j) 7 x) (5 + j) 8 y) 3 0 (V 3 0 + 1)) 3 1 (V 3 1 + 1)) 3 3 (V 3 3 + c)) 1 3 (V 1 3 + 1))) (f := 1) hj (V := V) (fun q _ hq => by
    constructor <;> simp only [vu_s, np_55, np_5 (show 1 < 5 by decide), np_5 (show 3 < 5 by decide), np_5 (show 4 < 5 by decide), np_5' (show 1 < 5 by decide), np_5' (show 3 < 5 by decide), np_5' (show 4 < 5 by decide), hq, true_and, and_true, if_true, if_false, Nat.reduceEqDiff, false_and, and_false, ite_self])
    have k2 := cub_gen (V' := (vu (vu (vu (vu (vu (vu (vu (vu (vu (vu (vu (vu V (5 + j) 1 0) (5 + j) 2 x) (5 + j) 3 y) (5 + j) 4 b) (5 + j) 5 2) (5 + j) 6 c) (5 + j) 7 x) (5 + j) 8 y) 3 0 (V 3 0 + 1)) 3 1 (V 3 1 + 1)) 3 3 (V 3 3 + c)) 1 3 (V 1 3 + 1))) (f := 1) hj (V := V) (fun q _ hq => by
    constructor <;> simp only [vu_s, np_55, np_5 (show 1 < 5 by decide), np_5 (show 3 < 5 by decide), np_5 (show 4 < 5 by decide), np_5' (show 1 < 5 by decide), np_5' (show 3 < 5 by decide), np_5' (show 4 < 5 by decide), hq, true_and, and_true, if_true, if_false, Nat.reduceEqDiff, false_and, and_false, ite_self])
    have := hY
    unfold gmX at *
    unfold gm_ct at k1
    unfold gm_cu at k2
    generalize gm_cnt (vu (vu (vu (vu (vu (vu (vu (vu (vu (vu (vu (vu V (5 + j) 1 0) (5 + j) 2 x) (5 + j) 3 y) (5 + j) 4 b) (5 + j) 5 2) (5 + j) 6 c) (5 + j) 7 x) (5 + j) 8 y) 3 0 (V 3 0 + 1)) 3 1 (V 3 1 + 1)) 3 3 (V 3 3 + c)) 1 3 (V 1 3 + 1)) 1 = z1 at k1 ⊢
    generalize gm_cub (vu (vu (vu (vu (vu (vu (vu (vu (vu (vu (vu (vu V (5 + j) 1 0) (5 + j) 2 x) (5 + j) 3 y) (5 + j) 4 b) (5 + j) 5 2) (5 + j) 6 c) (5 + j) 7 x) (5 + j) 8 y) 3 0 (V 3 0 + 1)) 3 1 (V 3 1 + 1)) 3 3 (V 3 3 + c)) 1 3 (V 1 3 + 1)) 1 = z2 at k2 ⊢
    simp only [vu_s, np_55, np_5 (show 1 < 5 by decide), np_5 (show 3 < 5 by decide), np_5 (show 4 < 5 by decide), np_5' (show 1 < 5 by decide), np_5' (show 3 < 5 by decide), np_5' (show 4 < 5 by decide), true_and, and_true, if_true, if_false, Nat.reduceEqDiff, false_and, and_false, ite_self, h5, h6] at k1 k2 ⊢
    omega
  have hT' : gmT (vu (vu (vu (vu (vu (vu (vu (vu (vu (vu (vu (vu V (5 + j) 1 0) (5 + j) 2 x) (5 + j) 3 y) (5 + j) 4 b) (5 + j) 5 2) (5 + j) 6 c) (5 + j) 7 x) (5 + j) 8 y) 3 0 (V 3 0 + 1)) 3 1 (V 3 1 + 1)) 3 3 (V 3 3 + c)) 1 3 (V 1 3 + 1)) := by
    have := hT
    unfold gmT at *
    simp only [vu_s, np_55, np_5 (show 1 < 5 by decide), np_5 (show 3 < 5 by decide), np_5 (show 4 < 5 by decide), np_5' (show 1 < 5 by decide), np_5' (show 3 < 5 by decide), np_5' (show 4 < 5 by decide), true_and, and_true, if_true, if_false, Nat.reduceEqDiff, false_and, and_false, ite_self]
    omega
  have hH' : gmH (vu (vu (vu (vu (vu (vu (vu (vu (vu (vu (vu (vu V (5 + j) 1 0) (5 + j) 2 x) (5 + j) 3 y) (5 + j) 4 b) (5 + j) 5 2) (5 + j) 6 c) (5 + j) 7 x) (5 + j) 8 y) 3 0 (V 3 0 + 1)) 3 1 (V 3 1 + 1)) 3 3 (V 3 3 + c)) 1 3 (V 1 3 + 1)) := by
    have := hH
    unfold gmH at *
    simp only [vu_s, np_55, np_5 (show 1 < 5 by decide), np_5 (show 3 < 5 by decide), np_5 (show 4 < 5 by decide), np_5' (show 1 < 5 by decide), np_5' (show 3 < 5 by decide), np_5' (show 4 < 5 by decide), true_and, and_true, if_true, if_false, Nat.reduceEqDiff, false_and, and_false, ite_self]
    omega
  exact ⟨hA', hC', hD', by simpa [gmB, vu_s, np_55, np_5 (show 1 < 5 by decide), np_5 (show 3 < 5 by decide), np_5 (show 4 < 5 by decide), np_5' (show 1 < 5 by decide), np_5' (show 3 < 5 by decide), np_5' (show 4 < 5 by decide)] using hB, hM, hN, hH', hT'⟩
theorem ok_sink1 {j : Nat} (hj : j < 12) (hf : V (5 + j) 1 = 1) (h5 : V (5 + j) 5 = 1) (h9 : V 1 9 < V 1 8) (h4 : V 1 4 = 1) (ho : ¬ V 3 1 = 0) (h : gm_ok V) : gm_ok (vu (vu (vu (vu (vu V 1 9 (V 1 9 + 1)) (5 + j) 5 0) 4 1 (V 4 1 - 1)) 4 7 (V 4 7 + V (5 + j) 6)) (5 + j) 6 0) := by
  obtain ⟨hA, hC, hD, hB, hX, hY, hH, hT⟩ := h
  have hA' : gmA (vu (vu (vu (vu (vu V 1 9 (V 1 9 + 1)) (5 + j) 5 0) 4 1 (V 4 1 - 1)) 4 7 (V 4 7 + V (5 + j) 6)) (5 + j) 6 0) := fun i hi => by
      have := hA i hi
      by_cases e : i = j
      · subst e
        simp only [vu_s, np_55, np_5 (show 1 < 5 by decide), np_5 (show 3 < 5 by decide), np_5 (show 4 < 5 by decide), np_5' (show 1 < 5 by decide), np_5' (show 3 < 5 by decide), np_5' (show 4 < 5 by decide), true_and, and_true, if_true, if_false, Nat.reduceEqDiff, false_and, and_false, ite_self]
        repeat' apply And.intro
        all_goals first | omega | (intro q; first | omega | exact q.elim)
      · simp only [vu_s, np_55, np_5 (show 1 < 5 by decide), np_5 (show 3 < 5 by decide), np_5 (show 4 < 5 by decide), np_5' (show 1 < 5 by decide), np_5' (show 3 < 5 by decide), np_5' (show 4 < 5 by decide), e, true_and, and_true, if_true, if_false, Nat.reduceEqDiff, false_and, and_false, ite_self]
        exact this
  have hC' : gmC (vu (vu (vu (vu (vu V 1 9 (V 1 9 + 1)) (5 + j) 5 0) 4 1 (V 4 1 - 1)) 4 7 (V 4 7 + V (5 + j) 6)) (5 + j) 6 0) := by
    refine ⟨by simpa [vu_s, np_55, np_5 (show 1 < 5 by decide), np_5 (show 3 < 5 by decide), np_5 (show 4 < 5 by decide), np_5' (show 1 < 5 by decide), np_5' (show 3 < 5 by decide), np_5' (show 4 < 5 by decide)] using hC.1, fun i hi hc => ?_⟩
    have := hC.2 i hi
    by_cases e : i = j
    · simp only [vu_s, np_55, np_5 (show 1 < 5 by decide), np_5 (show 3 < 5 by decide), np_5 (show 4 < 5 by decide), np_5' (show 1 < 5 by decide), np_5' (show 3 < 5 by decide), np_5' (show 4 < 5 by decide), e, true_and, and_true, if_true, if_false, Nat.reduceEqDiff, false_and, and_false, ite_self] at hc this ⊢ <;> omega
    · simp only [vu_s, np_55, np_5 (show 1 < 5 by decide), np_5 (show 3 < 5 by decide), np_5 (show 4 < 5 by decide), np_5' (show 1 < 5 by decide), np_5' (show 3 < 5 by decide), np_5' (show 4 < 5 by decide), e, true_and, and_true, if_true, if_false, Nat.reduceEqDiff, false_and, and_false, ite_self] at hc this ⊢ <;> omega
  have hD' : gmD (vu (vu (vu (vu (vu V 1 9 (V 1 9 + 1)) (5 + j) 5 0) 4 1 (V 4 1 - 1)) 4 7 (V 4 7 + V (5 + j) 6)) (5 + j) 6 0) := fun a b ha hb => by
    have := hD a b ha hb
    by_cases e1 : a = j <;> by_cases e2 : b = j
    · intros; omega
    · simp only [vu_s, np_55, np_5 (show 1 < 5 by decide), np_5 (show 3 < 5 by decide), np_5 (show 4 < 5 by decide), np_5' (show 1 < 5 by decide), np_5' (show 3 < 5 by decide), np_5' (show 4 < 5 by decide), e1, e2, true_and, and_true, if_true, if_false, Nat.reduceEqDiff, false_and, and_false, ite_self]
      rw [e1] at this
      omega
    · simp only [vu_s, np_55, np_5 (show 1 < 5 by decide), np_5 (show 3 < 5 by decide), np_5 (show 4 < 5 by decide), np_5' (show 1 < 5 by decide), np_5' (show 3 < 5 by decide), np_5' (show 4 < 5 by decide), e1, e2, true_and, and_true, if_true, if_false, Nat.reduceEqDiff, false_and, and_false, ite_self]
      rw [e2] at this
      omega
    · simp only [vu_s, np_55, np_5 (show 1 < 5 by decide), np_5 (show 3 < 5 by decide), np_5 (show 4 < 5 by decide), np_5' (show 1 < 5 by decide), np_5' (show 3 < 5 by decide), np_5' (show 4 < 5 by decide), e1, e2, true_and, and_true, if_true, if_false, Nat.reduceEqDiff, false_and, and_false, ite_self]
      exact this
  have hM : gmX (vu (vu (vu (vu (vu V 1 9 (V 1 9 + 1)) (5 + j) 5 0) 4 1 (V 4 1 - 1)) 4 7 (V 4 7 + V (5 + j) 6)) (5 + j) 6 0) 3 0 := by
    have k1 := cnt_gen (V' := (vu (vu (vu (vu (vu V 1 9 (V 1 9 + 1)) (5 + j) 5 0) 4 1 (V 4 1 - 1)) 4 7 (V 4 7 + V (5 + j) 6)) (5 + j) 6 0)) (f := 0) hj (V := V) (fun q _ hq => by
    constructor <;> simp only [vu_s, np_55, np_5 (show 1 < 5 by decide), np_5 (show 3 < 5 by decide), np_5 (show 4 < 5 by decide), np_5' (show 1 < 5 by decide), np_5' (show 3 < 5 by decide), np_5' (show 4 < 5 by decide), hq, true_and, and_true, if_true, if_false, Nat.reduceEqDiff, false_and, and_false, ite_self])
    have k2 := cub_gen (V' := (vu (vu (vu (vu (vu V 1 9 (V 1 9 + 1)) (5 + j) 5 0) 4 1 (V 4 1 - 1)) 4 7 (V 4 7 + V (5 + j) 6)) (5 + j) 6 0)) (f := 0) hj (V := V) (fun q _ hq => by
    constructor <;> simp only [vu_s, np_55, np_5 (show 1 < 5 by decide), np_5 (show 3 < 5 by decide), np_5 (show 4 < 5 by decide), np_5' (show 1 < 5 by decide), np_5' (show 3 < 5 by decide), np_5' (show 4 < 5 by decide), hq, true_and, and_true, if_true, if_false, Nat.reduceEqDiff, false_and, and_false, ite_self])
    have := hX
    unfold gmX at *
    unfold gm_ct at k1
    unfold gm_cu at k2
    generalize gm_cnt (vu (vu (vu (vu (vu V 1 9 (V 1 9 + 1)) (5 + j) 5 0) 4 1 (V 4 1 - 1)) 4 7 (V 4 7 + V (5 + j) 6)) (5 + j) 6 0) 0 = z1 at k1 ⊢
    generalize gm_cub (vu (vu (vu (vu (vu V 1 9 (V 1 9 + 1)) (5 + j) 5 0) 4 1 (V 4 1 - 1)) 4 7 (V 4 7 + V (5 + j) 6)) (5 + j) 6 0) 0 = z2 at k2 ⊢
    simp only [vu_s, np_55, np_5 (show 1 < 5 by decide), np_5 (show 3 < 5 by decide), np_5 (show 4 < 5 by decide), np_5' (show 1 < 5 by decide), np_5' (show 3 < 5 by decide), np_5' (show 4 < 5 by decide), true_and, and_true, if_true, if_false, Nat.reduceEqDiff, false_and, and_false, ite_self, h5, hf, (show (1 : Nat) = 0 ↔ False by decide)] at k1 k2 ⊢
    omega
  have hN : gmX (vu (vu (vu (vu (vu V 1 9 (V 1 9 + 1)) (5 + j) 5 0) 4 1 (V 4 1 - 1)) 4 7 (V 4 7 + V (5 + j) 6)) (5 + j) 6 0) 4 1 := by
    have k1 := cnt_gen (V' := (vu (vu (vu (vu (vu V 1 9 (V 1 9 + 1)) (5 + j) 5 0) 4 1 (V 4 1 - 1)) 4 7 (V 4 7 + V (5 + j) 6)) (5 + j) 6 0)) (f := 1) hj (V := V) (fun q _ hq => by
    constructor <;> simp only [vu_s, np_55, np_5 (show 1 < 5 by decide), np_5 (show 3 < 5 by decide), np_5 (show 4 < 5 by decide), np_5' (show 1 < 5 by decide), np_5' (show 3 < 5 by decide), np_5' (show 4 < 5 by decide), hq, true_and, and_true, if_true, if_false, Nat.reduceEqDiff, false_and, and_false, ite_self])
    have k2 := cub_gen (V' := (vu (vu (vu (vu (vu V 1 9 (V 1 9 + 1)) (5 + j) 5 0) 4 1 (V 4 1 - 1)) 4 7 (V 4 7 + V (5 + j) 6)) (5 + j) 6 0)) (f := 1) hj (V := V) (fun q _ hq => by
    constructor <;> simp only [vu_s, np_55, np_5 (show 1 < 5 by decide), np_5 (show 3 < 5 by decide), np_5 (show 4 < 5 by decide), np_5' (show 1 < 5 by decide), np_5' (show 3 < 5 by decide), np_5' (show 4 < 5 by decide), hq, true_and, and_true, if_true, if_false, Nat.reduceEqDiff, false_and, and_false, ite_self])
    have := hY
    unfold gmX at *
    unfold gm_ct at k1
    unfold gm_cu at k2
    generalize gm_cnt (vu (vu (vu (vu (vu V 1 9 (V 1 9 + 1)) (5 + j) 5 0) 4 1 (V 4 1 - 1)) 4 7 (V 4 7 + V (5 + j) 6)) (5 + j) 6 0) 1 = z1 at k1 ⊢
    generalize gm_cub (vu (vu (vu (vu (vu V 1 9 (V 1 9 + 1)) (5 + j) 5 0) 4 1 (V 4 1 - 1)) 4 7 (V 4 7 + V (5 + j) 6)) (5 + j) 6 0) 1 = z2 at k2 ⊢
    simp only [vu_s, np_55, np_5 (show 1 < 5 by decide), np_5 (show 3 < 5 by decide), np_5 (show 4 < 5 by decide), np_5' (show 1 < 5 by decide), np_5' (show 3 < 5 by decide), np_5' (show 4 < 5 by decide), true_and, and_true, if_true, if_false, Nat.reduceEqDiff, false_and, and_false, ite_self, h5, hf] at k1 k2 ⊢
    omega
  have hT' : gmT (vu (vu (vu (vu (vu V 1 9 (V 1 9 + 1)) (5 + j) 5 0) 4 1 (V 4 1 - 1)) 4 7 (V 4 7 + V (5 + j) 6)) (5 + j) 6 0) := by
    have := hT
    unfold gmT at *
    simp only [vu_s, np_55, np_5 (show 1 < 5 by decide), np_5 (show 3 < 5 by decide), np_5 (show 4 < 5 by decide), np_5' (show 1 < 5 by decide), np_5' (show 3 < 5 by decide), np_5' (show 4 < 5 by decide), true_and, and_true, if_true, if_false, Nat.reduceEqDiff, false_and, and_false, ite_self]
    omega
  have hH' : gmH (vu (vu (vu (vu (vu V 1 9 (V 1 9 + 1)) (5 + j) 5 0) 4 1 (V 4 1 - 1)) 4 7 (V 4 7 + V (5 + j) 6)) (5 + j) 6 0) := by
    have := hH
    unfold gmH at *
    simp only [vu_s, np_55, np_5 (show 1 < 5 by decide), np_5 (show 3 < 5 by decide), np_5 (show 4 < 5 by decide), np_5' (show 1 < 5 by decide), np_5' (show 3 < 5 by decide), np_5' (show 4 < 5 by decide), true_and, and_true, if_true, if_false, Nat.reduceEqDiff, false_and, and_false, ite_self]
    omega
  exact ⟨hA', hC', hD', by simpa [gmB, vu_s, np_55, np_5 (show 1 < 5 by decide), np_5 (show 3 < 5 by decide), np_5 (show 4 < 5 by decide), np_5' (show 1 < 5 by decide), np_5' (show 3 < 5 by decide), np_5' (show 4 < 5 by decide)] using hB, hM, hN, hH', hT'⟩
theorem ok_place1 {j x y b c : Nat} (hj : j < 12) (h3 : V 1 3 = j) (h4 : V 1 4 = 0) (h0 : V 4 0 < 6) (hx : x < 10) (hy : y < 10) (hb : b < 8) (hc : c < 10) (hfr : ∀ i, i < 12 → ¬ V (5 + i) 5 = 0 → V (5 + i) 2 = x → V (5 + i) 3 = y → False) (h : gm_ok V) : gm_ok (vu (vu (vu (vu (vu (vu (vu (vu (vu (vu (vu (vu V (5 + j) 1 1) (5 + j) 2 x) (5 + j) 3 y) (5 + j) 4 b) (5 + j) 5 2) (5 + j) 6 c) (5 + j) 7 x) (5 + j) 8 y) 4 0 (V 4 0 + 1)) 4 1 (V 4 1 + 1)) 4 3 (V 4 3 + c)) 1 3 (V 1 3 + 1)) := by
  obtain ⟨hA, hC, hD, hB, hX, hY, hH, hT⟩ := h
  have h5 : V (5 + j) 5 = 0 := hC.2 j hj (by omega)
  have h6 : V (5 + j) 6 = 0 := (hA j hj).2.2.2.2.2.2.2.2.2 h5
  have hA' : gmA (vu (vu (vu (vu (vu (vu (vu (vu (vu (vu (vu (vu V (5 + j) 1 1) (5 + j) 2 x) (5 + j) 3 y) (5 + j) 4 b) (5 + j) 5 2) (5 + j) 6 c) (5 + j) 7 x) (5 + j) 8 y) 4 0 (V 4 0 + 1)) 4 1 (V 4 1 + 1)) 4 3 (V 4 3 + c)) 1 3 (V 1 3 + 1)) := fun i hi => by
      have := hA i hi
      by_cases e : i = j
      · subst e
        simp only [vu_s, np_55, np_5 (show 1 < 5 by decide), np_5 (show 3 < 5 by decide), np_5 (show 4 < 5 by decide), np_5' (show 1 < 5 by decide), np_5' (show 3 < 5 by decide), np_5' (show 4 < 5 by decide), true_and, and_true, if_true, if_false, Nat.reduceEqDiff, false_and, and_false, ite_self]
        repeat' apply And.intro
        all_goals first | omega | (intro q; first | omega | exact q.elim)
      · simp only [vu_s, np_55, np_5 (show 1 < 5 by decide), np_5 (show 3 < 5 by decide), np_5 (show 4 < 5 by decide), np_5' (show 1 < 5 by decide), np_5' (show 3 < 5 by decide), np_5' (show 4 < 5 by decide), e, true_and, and_true, if_true, if_false, Nat.reduceEqDiff, false_and, and_false, ite_self]
        exact this
  have hC' : gmC (vu (vu (vu (vu (vu (vu (vu (vu (vu (vu (vu (vu V (5 + j) 1 1) (5 + j) 2 x) (5 + j) 3 y) (5 + j) 4 b) (5 + j) 5 2) (5 + j) 6 c) (5 + j) 7 x) (5 + j) 8 y) 4 0 (V 4 0 + 1)) 4 1 (V 4 1 + 1)) 4 3 (V 4 3 + c)) 1 3 (V 1 3 + 1)) := by
    refine ⟨by simp only [vu_s, np_55, np_5 (show 1 < 5 by decide), np_5 (show 3 < 5 by decide), np_5 (show 4 < 5 by decide), np_5' (show 1 < 5 by decide), np_5' (show 3 < 5 by decide), np_5' (show 4 < 5 by decide), true_and, and_true, if_true, if_false, Nat.reduceEqDiff, false_and, and_false, ite_self]; omega, fun i hi hc => ?_⟩
    have := hC.2 i hi
    by_cases e : i = j
    · simp only [vu_s, np_55, np_5 (show 1 < 5 by decide), np_5 (show 3 < 5 by decide), np_5 (show 4 < 5 by decide), np_5' (show 1 < 5 by decide), np_5' (show 3 < 5 by decide), np_5' (show 4 < 5 by decide), e, true_and, and_true, if_true, if_false, Nat.reduceEqDiff, false_and, and_false, ite_self] at hc this ⊢ <;> omega
    · simp only [vu_s, np_55, np_5 (show 1 < 5 by decide), np_5 (show 3 < 5 by decide), np_5 (show 4 < 5 by decide), np_5' (show 1 < 5 by decide), np_5' (show 3 < 5 by decide), np_5' (show 4 < 5 by decide), e, true_and, and_true, if_true, if_false, Nat.reduceEqDiff, false_and, and_false, ite_self] at hc this ⊢ <;> omega
  have hD' : gmD (vu (vu (vu (vu (vu (vu (vu (vu (vu (vu (vu (vu V (5 + j) 1 1) (5 + j) 2 x) (5 + j) 3 y) (5 + j) 4 b) (5 + j) 5 2) (5 + j) 6 c) (5 + j) 7 x) (5 + j) 8 y) 4 0 (V 4 0 + 1)) 4 1 (V 4 1 + 1)) 4 3 (V 4 3 + c)) 1 3 (V 1 3 + 1)) := fun a b ha hb => by
    have := hD a b ha hb
    by_cases e1 : a = j <;> by_cases e2 : b = j
    · intros; omega
    · simp only [vu_s, np_55, np_5 (show 1 < 5 by decide), np_5 (show 3 < 5 by decide), np_5 (show 4 < 5 by decide), np_5' (show 1 < 5 by decide), np_5' (show 3 < 5 by decide), np_5' (show 4 < 5 by decide), e1, e2, true_and, and_true, if_true, if_false, Nat.reduceEqDiff, false_and, and_false, ite_self]
      rw [e1] at this
      intro p q r s; exact (hfr b hb q r.symm s.symm).elim
    · simp only [vu_s, np_55, np_5 (show 1 < 5 by decide), np_5 (show 3 < 5 by decide), np_5 (show 4 < 5 by decide), np_5' (show 1 < 5 by decide), np_5' (show 3 < 5 by decide), np_5' (show 4 < 5 by decide), e1, e2, true_and, and_true, if_true, if_false, Nat.reduceEqDiff, false_and, and_false, ite_self]
      rw [e2] at this
      intro p q r s; exact (hfr a ha p r s).elim
    · simp only [vu_s, np_55, np_5 (show 1 < 5 by decide), np_5 (show 3 < 5 by decide), np_5 (show 4 < 5 by decide), np_5' (show 1 < 5 by decide), np_5' (show 3 < 5 by decide), np_5' (show 4 < 5 by decide), e1, e2, true_and, and_true, if_true, if_false, Nat.reduceEqDiff, false_and, and_false, ite_self]
      exact this
  have hM : gmX (vu (vu (vu (vu (vu (vu (vu (vu (vu (vu (vu (vu V (5 + j) 1 1) (5 + j) 2 x) (5 + j) 3 y) (5 + j) 4 b) (5 + j) 5 2) (5 + j) 6 c) (5 + j) 7 x) (5 + j) 8 y) 4 0 (V 4 0 + 1)) 4 1 (V 4 1 + 1)) 4 3 (V 4 3 + c)) 1 3 (V 1 3 + 1)) 3 0 := by
    have k1 := cnt_gen (V' := (vu (vu (vu (vu (vu (vu (vu (vu (vu (vu (vu (vu V (5 + j) 1 1) (5 + j) 2 x) (5 + j) 3 y) (5 + j) 4 b) (5 + j) 5 2) (5 + j) 6 c) (5 + j) 7 x) (5 + j) 8 y) 4 0 (V 4 0 + 1)) 4 1 (V 4 1 + 1)) 4 3 (V 4 3 + c)) 1 3 (V 1 3 + 1))) (f := 0) hj (V := V) (fun q _ hq => by
    constructor <;> simp only [vu_s, np_55, np_5 (show 1 < 5 by decide), np_5 (show 3 < 5 by decide), np_5 (show 4 < 5 by decide), np_5' (show 1 < 5 by decide), np_5' (show 3 < 5 by decide), np_5' (show 4 < 5 by decide), hq, true_and, and_true, if_true, if_false, Nat.reduceEqDiff, false_and, and_false, ite_self])
    have k2 := cub_gen (V' := (vu (vu (vu (vu (vu (vu (vu (vu (vu (vu (vu (vu V (5 + j) 1 1) (5 + j) 2 x) (5 + j) 3 y) (5 + j) 4 b) (5 + j) 5 2) (5 + j) 6 c) (5 + j) 7 x) (5 + j) 8 y) 4 0 (V 4 0 + 1)) 4 1 (V 4 1 + 1)) 4 3 (V 4 3 + c)) 1 3 (V 1 3 + 1))) (f := 0) hj (V := V) (fun q _ hq => by
    constructor <;> simp only [vu_s, np_55, np_5 (show 1 < 5 by decide), np_5 (show 3 < 5 by decide), np_5 (show 4 < 5 by decide), np_5' (show 1 < 5 by decide), np_5' (show 3 < 5 by decide), np_5' (show 4 < 5 by decide), hq, true_and, and_true, if_true, if_false, Nat.reduceEqDiff, false_and, and_false, ite_self])
    have := hX
    unfold gmX at *
    unfold gm_ct at k1
    unfold gm_cu at k2
    generalize gm_cnt (vu (vu (vu (vu (vu (vu (vu (vu (vu (vu (vu (vu V (5 + j) 1 1) (5 + j) 2 x) (5 + j) 3 y) (5 + j) 4 b) (5 + j) 5 2) (5 + j) 6 c) (5 + j) 7 x) (5 + j) 8 y) 4 0 (V 4 0 + 1)) 4 1 (V 4 1 + 1)) 4 3 (V 4 3 + c)) 1 3 (V 1 3 + 1)) 0 = z1 at k1 ⊢
    generalize gm_cub (vu (vu (vu (vu (vu (vu (vu (vu (vu (vu (vu (vu V (5 + j) 1 1) (5 + j) 2 x) (5 + j) 3 y) (5 + j) 4 b) (5 + j) 5 2) (5 + j) 6 c) (5 + j) 7 x) (5 + j) 8 y) 4 0 (V 4 0 + 1)) 4 1 (V 4 1 + 1)) 4 3 (V 4 3 + c)) 1 3 (V 1 3 + 1)) 0 = z2 at k2 ⊢
    simp only [vu_s, np_55, np_5 (show 1 < 5 by decide), np_5 (show 3 < 5 by decide), np_5 (show 4 < 5 by decide), np_5' (show 1 < 5 by decide), np_5' (show 3 < 5 by decide), np_5' (show 4 < 5 by decide), true_and, and_true, if_true, if_false, Nat.reduceEqDiff, false_and, and_false, ite_self, h5, h6] at k1 k2 ⊢
    omega
  have hN : gmX (vu (vu (vu (vu (vu (vu (vu (vu (vu (vu (vu (vu V (5 + j) 1 1) (5 + j) 2 x) (5 + j) 3 y) (5 + j) 4 b) (5 + j) 5 2) (5 + j) 6 c) (5 + j) 7 x) (5 + j) 8 y) 4 0 (V 4 0 + 1)) 4 1 (V 4 1 + 1)) 4 3 (V 4 3 + c)) 1 3 (V 1 3 + 1)) 4 1 := by
    have k1 := cnt_gen (V' := (vu (vu (vu (vu (vu (vu (vu (vu (vu (vu (vu (vu V (5 + j) 1 1) (5 + j) 2 x) (5 + j) 3 y) (5 + j) 4 b) (5 + j) 5 2) (5 + j) 6 c) (5 + j) 7 x) (5 + j) 8 y) 4 0 (V 4 0 + 1)) 4 1 (V 4 1 + 1)) 4 3 (V 4 3 + c)) 1 3 (V 1 3 + 1))) (f := 1) hj (V := V) (fun q _ hq => by
    constructor <;> simp only [vu_s, np_55, np_5 (show 1 < 5 by decide), np_5 (show 3 < 5 by decide), np_5 (show 4 < 5 by decide), np_5' (show 1 < 5 by decide), np_5' (show 3 < 5 by decide), np_5' (show 4 < 5 by decide), hq, true_and, and_true, if_true, if_false, Nat.reduceEqDiff, false_and, and_false, ite_self])
    have k2 := cub_gen (V' := (vu (vu (vu (vu (vu (vu (vu (vu (vu (vu (vu (vu V (5 + j) 1 1) (5 + j) 2 x) (5 + j) 3 y) (5 + j) 4 b) (5 + j) 5 2) (5 + j) 6 c) (5 + j) 7 x) (5 + j) 8 y) 4 0 (V 4 0 + 1)) 4 1 (V 4 1 + 1)) 4 3 (V 4 3 + c)) 1 3 (V 1 3 + 1))) (f := 1) hj (V := V) (fun q _ hq => by
    constructor <;> simp only [vu_s, np_55, np_5 (show 1 < 5 by decide), np_5 (show 3 < 5 by decide), np_5 (show 4 < 5 by decide), np_5' (show 1 < 5 by decide), np_5' (show 3 < 5 by decide), np_5' (show 4 < 5 by decide), hq, true_and, and_true, if_true, if_false, Nat.reduceEqDiff, false_and, and_false, ite_self])
    have := hY
    unfold gmX at *
    unfold gm_ct at k1
    unfold gm_cu at k2
    generalize gm_cnt (vu (vu (vu (vu (vu (vu (vu (vu (vu (vu (vu (vu V (5 + j) 1 1) (5 + j) 2 x) (5 + j) 3 y) (5 + j) 4 b) (5 + j) 5 2) (5 + j) 6 c) (5 + j) 7 x) (5 + j) 8 y) 4 0 (V 4 0 + 1)) 4 1 (V 4 1 + 1)) 4 3 (V 4 3 + c)) 1 3 (V 1 3 + 1)) 1 = z1 at k1 ⊢
    generalize gm_cub (vu (vu (vu (vu (vu (vu (vu (vu (vu (vu (vu (vu V (5 + j) 1 1) (5 + j) 2 x) (5 + j) 3 y) (5 + j) 4 b) (5 + j) 5 2) (5 + j) 6 c) (5 + j) 7 x) (5 + j) 8 y) 4 0 (V 4 0 + 1)) 4 1 (V 4 1 + 1)) 4 3 (V 4 3 + c)) 1 3 (V 1 3 + 1)) 1 = z2 at k2 ⊢
    simp only [vu_s, np_55, np_5 (show 1 < 5 by decide), np_5 (show 3 < 5 by decide), np_5 (show 4 < 5 by decide), np_5' (show 1 < 5 by decide), np_5' (show 3 < 5 by decide), np_5' (show 4 < 5 by decide), true_and, and_true, if_true, if_false, Nat.reduceEqDiff, false_and, and_false, ite_self, h5, h6] at k1 k2 ⊢
    omega
  have hT' : gmT (vu (vu (vu (vu (vu (vu (vu (vu (vu (vu (vu (vu V (5 + j) 1 1) (5 + j) 2 x) (5 + j) 3 y) (5 + j) 4 b) (5 + j) 5 2) (5 + j) 6 c) (5 + j) 7 x) (5 + j) 8 y) 4 0 (V 4 0 + 1)) 4 1 (V 4 1 + 1)) 4 3 (V 4 3 + c)) 1 3 (V 1 3 + 1)) := by
    have := hT
    unfold gmT at *
    simp only [vu_s, np_55, np_5 (show 1 < 5 by decide), np_5 (show 3 < 5 by decide), np_5 (show 4 < 5 by decide), np_5' (show 1 < 5 by decide), np_5' (show 3 < 5 by decide), np_5' (show 4 < 5 by decide), true_and, and_true, if_true, if_false, Nat.reduceEqDiff, false_and, and_false, ite_self]
    omega
  have hH' : gmH (vu (vu (vu (vu (vu (vu (vu (vu (vu (vu (vu (vu V (5 + j) 1 1) (5 + j) 2 x) (5 + j) 3 y) (5 + j) 4 b) (5 + j) 5 2) (5 + j) 6 c) (5 + j) 7 x) (5 + j) 8 y) 4 0 (V 4 0 + 1)) 4 1 (V 4 1 + 1)) 4 3 (V 4 3 + c)) 1 3 (V 1 3 + 1)) := by
    have := hH
    unfold gmH at *
    simp only [vu_s, np_55, np_5 (show 1 < 5 by decide), np_5 (show 3 < 5 by decide), np_5 (show 4 < 5 by decide), np_5' (show 1 < 5 by decide), np_5' (show 3 < 5 by decide), np_5' (show 4 < 5 by decide), true_and, and_true, if_true, if_false, Nat.reduceEqDiff, false_and, and_false, ite_self]
    omega
  exact ⟨hA', hC', hD', by simpa [gmB, vu_s, np_55, np_5 (show 1 < 5 by decide), np_5 (show 3 < 5 by decide), np_5 (show 4 < 5 by decide), np_5' (show 1 < 5 by decide), np_5' (show 3 < 5 by decide), np_5' (show 4 < 5 by decide)] using hB, hM, hN, hH', hT'⟩
end
