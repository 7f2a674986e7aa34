/-! THE PURE PART, 41: ranks; how many spoons float. -/
theorem sp_fnd_of {p : Nat → Bool} : ∀ (n i : Nat), (∀ q, i ≤ q → q < i + n → p q = false) → sp_fnd p i n = none
  | 0, _, _ => rfl
  | n + 1, i, e => by
    rw [sp_fnd_s, e i (Nat.le_refl _) (by omega), if_neg (by decide)]
    exact sp_fnd_of n (i + 1) (fun q h1 h2 => e q (by omega) (by omega))
theorem sp_fnd_ex {p : Nat → Bool} {n i j : Nat} (h1 : i ≤ j) (h2 : j < i + n) (hp : p j = true) : ∃ q, sp_fnd p i n = some q := by
  cases h : sp_fnd p i n with
  | some q => exact ⟨q, rfl⟩
  | none =>
    have := sp_fnd_no n i h j h1 h2
    rw [hp] at this
    cases this
theorem sp_fnd_cg {p q : Nat → Bool} : ∀ (n i : Nat), (∀ x, i ≤ x → x < i + n → p x = q x) → sp_fnd p i n = sp_fnd q i n
  | 0, _, _ => rfl
  | n + 1, i, e => by
    rw [sp_fnd_s, sp_fnd_s, e i (Nat.le_refl _) (by omega), sp_fnd_cg n (i + 1) (fun x h1 h2 => e x (by omega) (by omega))]
theorem in_same {F G : Nat → Nat → Int32} (h : np_same F G) {x y : Int32} : sp_in F x y = sp_in G x y := by
  unfold sp_in
  refine sp_fnd_cg 12 0 (fun q _ hq => ?_)
  unfold sp_at sp_isIn
  rw [aflo_same h (by omega), h (5 + q) 2 (us_s (by omega) (by decide)), h (5 + q) 3 (us_s (by omega) (by decide))]
theorem sn_mono {g h : Nat → Nat} : ∀ (n i : Nat), (∀ q, i ≤ q → q < i + n → g q ≤ h q) → sn g i n ≤ sn h i n
  | 0, _, _ => Nat.le_refl _
  | n + 1, i, e => by
    rw [sn_s, sn_s]
    have := e i (Nat.le_refl _) (by omega)
    have := sn_mono n (i + 1) (fun q h1 h2 => e q (by omega) (by omega))
    omega
theorem sn_lt {g h : Nat → Nat} {j : Nat} {n i : Nat} (h1 : i ≤ j) (h2 : j < i + n) (e : ∀ q, i ≤ q → q < i + n → g q ≤ h q) (hj : g j < h j) : sn g i n < sn h i n := by
  have a := sn_upd (h := fun q => if q = j then h j else g q) (g := g) (j := j) n i h1 h2 (fun q _ _ hq => if_neg hq)
  have b := sn_mono (g := fun q => if q = j then h j else g q) (h := h) n i (fun q h3 h4 => by
    by_cases hq : q = j
    · subst hq; simp
    · simp only [hq, if_false]; exact e q h3 h4)
  simp only [if_true] at a
  omega
section
variable {V : gm_V}
def rk_K (V : gm_V) (i : Nat) : Nat := V (5 + i) 6 * 1000 + V (5 + i) 5 * 100 + (20 - i)
def rk_g (V : gm_V) (t i : Nat) : Nat := if V (5 + i) 5 = 0 then 0 else if t ≤ rk_K V i then 1 else 0
def rk_R (V : gm_V) (i : Nat) : Nat := sn (rk_g V (rk_K V i + 1)) 0 12
def gm_n (V : gm_V) : Nat := sn (fun i => if V (5 + i) 5 = 0 then 0 else 1) 0 12
theorem rk_inj (hA : gmA V) {i j : Nat} (hi : i < 12) (hj : j < 12) (h : rk_K V i = rk_K V j) : i = j := by
  have a := hA i hi
  have b := hA j hj
  unfold rk_K at h
  omega
theorem rk_0 : sn (rk_g V 0) 0 12 = gm_n V := sn_congr 12 0 (fun q _ _ => by
  unfold rk_g
  split
  · rfl
  · rw [if_pos (Nat.zero_le _)])
theorem rk_big (hA : gmA V) : sn (rk_g V 20000) 0 12 = 0 := sn_null 12 0 (fun q _ hq => by
  have a := hA q (by omega)
  unfold rk_g
  split
  · rfl
  · rw [if_neg (by unfold rk_K; omega)])
/-- the threshold at which the count passes r -/
theorem rk_t {r : Nat} (h0 : r < sn (rk_g V 0) 0 12) : ∀ n, sn (rk_g V n) 0 12 ≤ r → ∃ t, r < sn (rk_g V t) 0 12 ∧ sn (rk_g V (t + 1)) 0 12 ≤ r
  | 0, h => by omega
  | n + 1, h => by
    by_cases q : sn (rk_g V n) 0 12 ≤ r
    · exact rk_t h0 n q
    · exact ⟨n, by omega, h⟩
theorem rk_ex (hA : gmA V) {r : Nat} (hr : r < gm_n V) : ∃ i, i < 12 ∧ ¬ V (5 + i) 5 = 0 ∧ rk_R V i = r := by
  obtain ⟨t, h1, h2⟩ := rk_t (V := V) (r := r) (by rw [rk_0]; exact hr) 20000 (by rw [rk_big hA]; omega)
  have key : ∀ q, q < 12 → rk_g V t q = rk_g V (t + 1) q + (if V (5 + q) 5 = 0 then 0 else if rk_K V q = t then 1 else 0) := fun q _ => by
    unfold rk_g
    by_cases z : V (5 + q) 5 = 0
    · simp [z]
    · simp only [z, if_false]
      by_cases a : t ≤ rk_K V q
      · by_cases b : t + 1 ≤ rk_K V q
        · rw [if_pos a, if_pos b, if_neg (by omega)]
        · rw [if_pos a, if_neg b, if_pos (by omega)]
      · rw [if_neg a, if_neg (by omega), if_neg (by omega)]
  have e : sn (rk_g V t) 0 12 = sn (rk_g V (t + 1)) 0 12 + sn (fun q => if V (5 + q) 5 = 0 then 0 else if rk_K V q = t then 1 else 0) 0 12 := by
    rw [← sn_add]
    exact sn_congr 12 0 (fun q _ hq => key q (by omega))
  by_cases ex : ∃ i, i < 12 ∧ ¬ V (5 + i) 5 = 0 ∧ rk_K V i = t
  · obtain ⟨i, hi, h5, hk⟩ := ex
    have one := sn_one (h := fun q => if V (5 + q) 5 = 0 then 0 else if rk_K V q = t then 1 else 0) (x := i) 12 0 (by omega) (by omega) (fun q _ hq hne => by
      split
      · rfl
      · rw [if_neg (fun z => hne (rk_inj hA (by omega) hi (z.trans hk.symm)))])
    simp only [h5, hk, if_true, if_false] at one
    refine ⟨i, hi, h5, ?_⟩
    unfold rk_R
    rw [hk]
    omega
  · have nul := sn_null (h := fun q => if V (5 + q) 5 = 0 then 0 else if rk_K V q = t then 1 else 0) 12 0 (fun q _ hq => by
      split
      · rfl
      · rename_i z
        rw [if_neg (fun y => ex ⟨q, by omega, z, y⟩)])
    omega
theorem rk_lt {i : Nat} (hi : i < 12) (h5 : ¬ V (5 + i) 5 = 0) : rk_R V i < gm_n V := by
  rw [← rk_0]
  unfold rk_R
  refine sn_lt (j := i) (by omega) (by omega) (fun q _ _ => ?_) ?_
  · unfold rk_g
    split
    · exact Nat.le_refl _
    · rw [if_pos (Nat.zero_le _)]
      split <;> omega
  · unfold rk_g
    rw [if_neg h5, if_neg h5, if_neg (by omega), if_pos (Nat.zero_le _)]
    decide
theorem rk_mono {i j : Nat} (hi : i < 12) (h5 : ¬ V (5 + i) 5 = 0) (h : rk_K V j < rk_K V i) : rk_R V i < rk_R V j := by
  unfold rk_R
  refine sn_lt (j := i) (by omega) (by omega) (fun q _ _ => ?_) ?_
  · unfold rk_g
    split
    · exact Nat.le_refl _
    · split
      · rw [if_pos (by omega)]
        exact Nat.le_refl _
      · omega
  · unfold rk_g
    rw [if_neg h5, if_neg h5, if_neg (by omega), if_pos (by omega)]
    decide
theorem cnt_n (hA : gmA V) : gm_cnt V 0 + gm_cnt V 1 = gm_n V := by
  unfold gm_cnt gm_n
  rw [← sn_add]
  refine sn_congr 12 0 (fun q _ hq => ?_)
  have := hA q (by omega)
  unfold gm_ct
  by_cases z : V (5 + q) 5 = 0
  · simp [z]
  · have h2 : V (5 + q) 1 = 0 ∨ V (5 + q) 1 = 1 := by omega
    rcases h2 with e | e <;> simp [z, e]
end
section
variable {F : Nat → Nat → Int32} {V : gm_V}
theorem bef_K (hr : gm_rep F V) (hA : gmA V) {i j : Nat} (hi : i < 12) (hj : j < 12) : sp_bef F (5 + i) (5 + j) = decide (rk_K V j < rk_K V i) := by
  have a := hA i hi
  have b := hA j hj
  unfold sp_bef
  rw [gv_s hr hi (show 6 < 9 by decide), gv_s hr hj (show 6 < 9 by decide), gv_s hr hi (show 5 < 9 by decide), gv_s hr hj (show 5 < 9 by decide), gv_s hr hi (show 0 < 9 by decide), gv_s hr hj (show 0 < 9 by decide), a.1, b.1]
  have lt : ∀ x y, x < 1000 → y < 1000 → (nI x < nI y ↔ x < y) := fun x y hx hy => nI_ltI (by omega) (by omega)
  have eq : ∀ x y, x < 1000 → y < 1000 → (nI x = nI y ↔ x = y) := fun x y hx hy => nI_e hx hy
  have k : ∀ q, rk_K V q = V (5 + q) 6 * 1000 + V (5 + q) 5 * 100 + (20 - q) := fun _ => rfl
  rw [k, k]
  by_cases e6 : V (5 + i) 6 = V (5 + j) 6
  · rw [if_pos ((eq _ _ (by omega) (by omega)).mpr e6)]
    by_cases e5 : V (5 + i) 5 = V (5 + j) 5
    · rw [if_pos ((eq _ _ (by omega) (by omega)).mpr e5)]
      refine decide_eq_decide.mpr ?_
      rw [lt _ _ (by omega) (by omega)]
      omega
    · rw [if_neg (fun q => e5 ((eq _ _ (by omega) (by omega)).mp q))]
      refine decide_eq_decide.mpr ?_
      rw [lt _ _ (by omega) (by omega)]
      omega
  · rw [if_neg (fun q => e6 ((eq _ _ (by omega) (by omega)).mp q))]
    refine decide_eq_decide.mpr ?_
    rw [lt _ _ (by omega) (by omega)]
    omega
theorem rkc_R (hr : gm_rep F V) (hA : gmA V) {i : Nat} (hi : i < 12) : sp_rkc F (5 + i) = nI (rk_R V i) := by
  unfold sp_rkc
  rw [fold_sn 12 0 (h := rk_g V (rk_K V i + 1)) (fun q _ hq a => by
    unfold sp_rkg
    rw [bn_if, ga_aflo hr hA (by omega), bef_K hr hA (by omega) hi]
    congr 2
    unfold rk_g
    by_cases z : V (5 + q) 5 = 0
    · simp [z, bn]
    · by_cases y : rk_K V i < rk_K V q
      · simp [z, y, bn]; omega
      · simp [z, y, bn]; omega)]
  exact Int32.zero_add _
theorem gm_n_le : gm_n V ≤ 12 := by
  have key : ∀ (n i : Nat), sn (fun i => if V (5 + i) 5 = 0 then 0 else 1) i n ≤ n := by
    intro n
    induction n with
    | zero => intro i; exact Nat.le_refl _
    | succ n ih =>
      intro i
      rw [sn_s]
      have := ih (i + 1)
      split <;> omega
  exact key 12 0
theorem rnk_s (hr : gm_rep F V) (hk : gm_ok V) {r : Nat} (h : r < gm_n V) : ∃ i, i < 12 ∧ ¬ V (5 + i) 5 = 0 ∧ rk_R V i = r ∧ sp_rnk F (nI r) = some i := by
  have hA := hk.1
  have ln := @gm_n_le V
  obtain ⟨i, hi, h5, hR⟩ := rk_ex hA h
  have hp : sp_rkd F (nI r) i = true := by
    unfold sp_rkd
    rw [rkc_R hr hA hi, hR, ga_aflo hr hA hi]
    simp [h5]
  obtain ⟨q, hq⟩ := sp_fnd_ex (i := 0) (n := 12) (by omega) (by omega) hp
  obtain ⟨-, q2, q3⟩ := sp_fnd_lt _ _ _ hq
  have hq12 : q < 12 := by omega
  unfold sp_rkd at q3
  rw [rkc_R hr hA hq12, ga_aflo hr hA hq12] at q3
  simp only [Bool.and_eq_true, Bool.not_eq_true', decide_eq_false_iff_not, decide_eq_true_eq] at q3
  have := rk_lt hq12 q3.1
  exact ⟨q, hq12, q3.1, (nI_e (by omega) (by omega)).mp q3.2, hq⟩
theorem rnk_n (hr : gm_rep F V) (hk : gm_ok V) {x : Int32} (h : ∀ r, r < gm_n V → ¬ nI r = x) : sp_rnk F x = none := by
  have hA := hk.1
  unfold sp_rnk
  refine sp_fnd_of 12 0 (fun q _ hq => ?_)
  have hq12 : q < 12 := by omega
  unfold sp_rkd
  rw [rkc_R hr hA hq12, ga_aflo hr hA hq12]
  by_cases z : V (5 + q) 5 = 0
  · simp [z]
  · simp [z]
    exact h _ (rk_lt hq12 z)
end
