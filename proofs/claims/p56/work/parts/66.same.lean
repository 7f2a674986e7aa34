/-! THE PURE PART, 36: the same game has the same digest; shares and means. -/
section
variable {F G : Nat → Nat → Int32}
theorem gng_same (h : np_same F G) : sp_gng F = sp_gng G := by
  unfold sp_gng sp_ovr
  rw [h 1 4 (us_1 (by decide)), h 3 1 (us_3 (by decide)), h 4 1 (us_4 (by decide))]
theorem ovr_same (h : np_same F G) : sp_ovr F = sp_ovr G := by
  unfold sp_ovr
  rw [h 1 4 (us_1 (by decide)), h 3 1 (us_3 (by decide)), h 4 1 (us_4 (by decide))]
theorem aflo_same (h : np_same F G) {i : Nat} (hi : i < 12) : sp_aflo F (5 + i) = sp_aflo G (5 + i) := by
  unfold sp_aflo
  rw [h (5 + i) 5 (us_s hi (by decide))]
theorem lwx_same (h : np_same F G) {i q : Nat} (hi : i < 12) (hq : q < 9) : lw_x F i q = lw_x G i q := by
  unfold lw_x
  rw [aflo_same h hi, h (5 + i) q (us_s hi hq)]
theorem df_same (h : np_same F G) : ∀ (n i : Nat) (a : Int64), i + n ≤ 12 → lw_df F i n a = lw_df G i n a
  | 0, i, a, _ => rfl
  | n + 1, i, a, hi => by
    unfold lw_df
    have e : lw_dy F i (lw_dx F i a) = lw_dy G i (lw_dx G i a) := by
      unfold lw_dy lw_dx
      rw [lwx_same h (q := 2) (by omega) (by decide), lwx_same h (q := 3) (by omega) (by decide), lwx_same h (q := 7) (by omega) (by decide), lwx_same h (q := 8) (by omega) (by decide), h (5 + i) 4 (us_s (by omega) (by decide)), h (5 + i) 6 (us_s (by omega) (by decide)), h (5 + i) 5 (us_s (by omega) (by decide)), h (5 + i) 1 (us_s (by omega) (by decide))]
    rw [e, df_same h n (i + 1) _ (by omega)]
theorem dig_same {L M : Nat → Int64} (h : np_same F G) (hL : L 1 = M 1) {c : Nat} (hc : c ≤ 12) : lw_dig F L c = lw_dig G M c := by
  have e1 : lw_d1 F L = lw_d1 G M := by
    unfold lw_d1 lw_d0 lw_act lw_lft
    rw [gng_same h, ovr_same h, hL, h 1 7 (us_1 (by decide)), h 1 8 (us_1 (by decide)), h 1 9 (us_1 (by decide)), h 1 11 (us_1 (by decide)), h 3 2 (us_3 (by decide)), h 4 2 (us_4 (by decide)), h 1 5 (us_1 (by decide)), h 1 6 (us_1 (by decide)), h 1 4 (us_1 (by decide))]
  unfold lw_dig
  rw [e1, df_same h c 0 _ (by omega)]
end
def fp_s (h s : Nat) : Bool := decide (FP.fdiv (FP.i2f (nI h)) (FP.i2f (nI s)) &&& 0x7fffffff ≤ 0x7f800000) && decide (FP.fcmp (FP.fdiv (FP.i2f (nI h)) (FP.i2f (nI s))) (FP.fdiv (FP.i2f (nI h)) (FP.i2f (nI s))) = some .eq)
def fp_d (h s : Nat) : Bool := decide (FP.ddiv (FP.i2d (nI h)) (FP.i2d (nI s)) &&& 0x7fffffffffffffff ≤ 0x7ff0000000000000) && decide (FP.dcmp (FP.ddiv (FP.i2d (nI h)) (FP.i2d (nI s))) (FP.ddiv (FP.i2d (nI h)) (FP.i2d (nI s))) = some .eq)
theorem fp_dt : ∀ s, s < 13 → s = 0 ∨ ∀ h, h < 75 → fp_d h s = true := by decide +kernel
theorem fp_st : ∀ s, s < 149 → s = 0 ∨ ∀ h, h < s + 1 → fp_s h s = true := by decide +kernel
theorem fp_use {h s : Nat} (hs : ¬ s = 0) (h1 : s < 149) (h2 : h ≤ s) : FP.fdiv (FP.i2f (nI h)) (FP.i2f (nI s)) &&& 0x7fffffff ≤ 0x7f800000 ∧ FP.fcmp (FP.fdiv (FP.i2f (nI h)) (FP.i2f (nI s))) (FP.fdiv (FP.i2f (nI h)) (FP.i2f (nI s))) = some .eq := by
  have := (fp_st s h1).resolve_left hs h (by omega)
  unfold fp_s at this
  simp only [Bool.and_eq_true, decide_eq_true_eq] at this
  exact this
theorem fp_use2 {h s : Nat} (hs : ¬ s = 0) (h1 : s < 13) (h2 : h < 75) : FP.ddiv (FP.i2d (nI h)) (FP.i2d (nI s)) &&& 0x7fffffffffffffff ≤ 0x7ff0000000000000 ∧ FP.dcmp (FP.ddiv (FP.i2d (nI h)) (FP.i2d (nI s))) (FP.ddiv (FP.i2d (nI h)) (FP.i2d (nI s))) = some .eq := by
  have := (fp_dt s h1).resolve_left hs h h2
  unfold fp_d at this
  simp only [Bool.and_eq_true, decide_eq_true_eq] at this
  exact this
theorem fp_m1 : FP.dcmp 13830554455654793216 13830554455654793216 = some .eq := by decide +kernel
theorem fp_m2 : FP.fcmp 3212836864 3212836864 = some .eq := by decide +kernel
theorem fp_e1 : Op.cmpValue (some .eq) .l = 0 := by decide
