/-! THE PURE PART, 35: sums; the game's own checks hold. -/
theorem sn_add {g h : Nat → Nat} : ∀ (n i : Nat), sn (fun q => g q + h q) i n = sn g i n + sn h i n
  | 0, _ => rfl
  | n + 1, i => by
    rw [sn_s, sn_s, sn_s, sn_add n (i + 1)]
    omega
theorem sn_swap {f : Nat → Nat → Nat} : ∀ (n i m j : Nat), sn (fun a => sn (fun b => f a b) j m) i n = sn (fun b => sn (fun a => f a b) i n) j m
  | 0, i, m, j => by
    have key : ∀ (m j : Nat), sn (fun b => sn (fun a => f a b) i 0) j m = 0 := by
      intro m
      induction m with
      | zero => intro j; rfl
      | succ m ih => intro j; rw [sn_s, ih]; rfl
    rw [key]; rfl
  | n + 1, i, m, j => by
    rw [sn_s, sn_swap n (i + 1) m j, ← sn_add]
    rfl
theorem sn_null {h : Nat → Nat} : ∀ (n i : Nat), (∀ q, i ≤ q → q < i + n → h q = 0) → sn h i n = 0
  | 0, _, _ => rfl
  | n + 1, i, e => by
    rw [sn_s, e i (Nat.le_refl _) (by omega), sn_null n (i + 1) (fun q h1 h2 => e q (by omega) (by omega))]
theorem sn_one {h : Nat → Nat} {x : Nat} : ∀ (n i : Nat), i ≤ x → x < i + n → (∀ q, i ≤ q → q < i + n → ¬ q = x → h q = 0) → sn h i n = h x
  | 0, i, h1, h2, _ => by omega
  | n + 1, i, h1, h2, e => by
    rw [sn_s]
    by_cases hx : i = x
    · subst hx
      rw [sn_null n (i + 1) (fun q h3 h4 => e q (by omega) (by omega) (by omega))]
      omega
    · rw [e i (Nat.le_refl _) (by omega) hx, sn_one n (i + 1) (by omega) (by omega) (fun q h3 h4 => e q (by omega) (by omega))]
      omega
theorem sn_cat {h : Nat → Nat} : ∀ (n i m : Nat), sn h i (n + m) = sn h i n + sn h (i + n) m
  | 0, i, m => by rw [Nat.zero_add, Nat.add_zero]; exact (Nat.zero_add _).symm
  | n + 1, i, m => by
    rw [show n + 1 + m = (n + m) + 1 by omega, sn_s, sn_s, sn_cat n (i + 1) m, show i + 1 + n = i + (n + 1) by omega]
    omega
theorem sn_ext {h : Nat → Nat} {c : Nat} (hc : c ≤ 12) (e : ∀ q, c ≤ q → q < 12 → h q = 0) : sn h 0 c = sn h 0 12 := by
  have := sn_cat (h := h) c 0 (12 - c)
  rw [show c + (12 - c) = 12 by omega] at this
  rw [this, sn_null (12 - c) (0 + c) (fun q h1 h2 => e q (by omega) (by omega))]
  omega
def bn (b : Bool) : Nat := if b = true then 1 else 0
theorem fold_sn {g : Nat → Int32 → Int32} {h : Nat → Nat} : ∀ (n i : Nat), (∀ q, i ≤ q → q < i + n → ∀ a, g q a = a + nI (h q)) → ∀ acc, sp_fold g i n acc = acc + nI (sn h i n)
  | 0, i, _, acc => (Int32.add_zero acc).symm
  | n + 1, i, e, acc => by
    rw [sp_fold_s, e i (Nat.le_refl _) (by omega), fold_sn n (i + 1) (fun q h1 h2 => e q (by omega) (by omega)), sn_s, ← nI_add, Int32.add_assoc]
theorem bn_if {b : Bool} {a : Int32} : (if b = true then a + 1 else a) = a + nI (bn b) := by
  cases b
  · exact (Int32.add_zero a).symm
  · rfl
theorem sp_all_of {p : Nat → Bool} : ∀ (n i : Nat), (∀ q, i ≤ q → q < i + n → p q = true) → sp_all p i n = true
  | 0, _, _ => rfl
  | n + 1, i, e => by
    rw [sp_all_s, e i (Nat.le_refl _) (by omega), sp_all_of n (i + 1) (fun q h1 h2 => e q (by omega) (by omega))]
    rfl
section
variable {F : Nat → Nat → Int32} {V : gm_V}
/-- a spoon counts as a target of j's -/
def tg_P (F : Nat → Nat → Int32) (j i : Nat) : Bool := sp_aflo F (5 + i) && decide (F (5 + i) 1 = 1 - F (5 + j) 1) && sp_rch F (5 + j) (F (5 + i) 2) (F (5 + i) 3)
theorem tgs_sn {j : Nat} : sp_tgs F (5 + j) = nI (sn (fun i => bn (tg_P F j i)) 0 12) := by
  unfold sp_tgs
  rw [fold_sn 12 0 (h := fun i => bn (tg_P F j i)) (fun q _ _ a => by
    unfold sp_tgg
    exact bn_if)]
  exact Int32.zero_add _
def tg_Q (F : Nat → Nat → Int32) (j y x : Nat) : Bool := sp_rch F (5 + j) (nI x) (nI y) && sp_hld F (5 + j) (nI x) (nI y)
theorem tcs_sn {j : Nat} : sp_tcs F (5 + j) = nI (sn (fun y => sn (fun x => bn (tg_Q F j y x)) 0 10) 0 10) := by
  unfold sp_tcs
  rw [fold_sn 10 0 (h := fun y => sn (fun x => bn (tg_Q F j y x)) 0 10) (fun q _ _ a => by
    rw [fold_sn 10 0 (h := fun x => bn (tg_Q F j q x)) (fun x _ _ a => by
      unfold sp_tcg
      exact bn_if)])]
  exact Int32.zero_add _
theorem fl_ne {a b : Nat} (ha : a < 2) (hb : b < 2) : (nI a = 1 - nI b) ↔ ¬ nI a = nI b := by
  have h1 : a = 0 ∨ a = 1 := by omega
  have h2 : b = 0 ∨ b = 1 := by omega
  rcases h1 with rfl | rfl <;> rcases h2 with rfl | rfl <;> decide
/-- where a spoon stands -/
def tg_W (F : Nat → Nat → Int32) (V : gm_V) (j i y x : Nat) : Nat := if V (5 + i) 2 = x ∧ V (5 + i) 3 = y then bn (tg_P F j i) else 0
theorem tg_cell (hr : gm_rep F V) (hk : gm_ok V) {j x y : Nat} (hj : j < 12) (hx : x < 10) (hy : y < 10) : bn (tg_Q F j y x) = sn (fun i => tg_W F V j i y x) 0 12 := by
  have hA := hk.1
  cases h : sp_in F (nI x) (nI y) with
  | none =>
    have hn := ga_in_n hr hA h
    rw [sn_null 12 0 (fun q _ hq => by
      unfold tg_W
      split
      · rename_i e
        have : sp_aflo F (5 + q) = false := by
          rw [ga_aflo hr hA (by omega)]
          by_cases z : V (5 + q) 5 = 0
          · simp [z]
          · exact (hn q (by omega) z e.1 e.2).elim
        unfold tg_P
        rw [this]
        rfl
      · rfl)]
    unfold tg_Q sp_hld
    rw [h]
    simp [bn]
  | some t =>
    obtain ⟨ht, h5, h2, h3⟩ := ga_in_s hr hA hx hy h
    have aj := hA j hj
    have a_t := hA t ht
    rw [sn_one 12 0 (x := t) (by omega) (by omega) (fun q _ hq hne => by
      unfold tg_W
      split
      · rename_i e
        have : sp_aflo F (5 + q) = false := by
          rw [ga_aflo hr hA (by omega)]
          by_cases z : V (5 + q) 5 = 0
          · simp [z]
          · exact (hne (hk.2.2.1 q t (by omega) ht z h5 (e.1.trans h2.symm) (e.2.trans h3.symm))).elim
        unfold tg_P
        rw [this]
        rfl
      · rfl)]
    unfold tg_W
    rw [if_pos ⟨h2, h3⟩]
    have ha : sp_aflo F (5 + t) = true := by rw [ga_aflo hr hA ht]; simp [h5]
    have e2 : F (5 + t) 2 = nI x := by rw [gv_s hr ht (by decide), h2]
    have e3 : F (5 + t) 3 = nI y := by rw [gv_s hr ht (by decide), h3]
    have fl := fl_ne (a := V (5 + t) 1) (b := V (5 + j) 1) (by omega) (by omega)
    unfold tg_Q tg_P sp_hld
    have e1t := gv_s hr ht (show 1 < 9 by decide)
    have e1j := gv_s hr hj (show 1 < 9 by decide)
    have hb : (!decide (nI (V (5 + t) 1) = nI (V (5 + j) 1))) = decide (nI (V (5 + t) 1) = 1 - nI (V (5 + j) 1)) := by
      by_cases q : nI (V (5 + t) 1) = nI (V (5 + j) 1)
      · have : ¬ nI (V (5 + t) 1) = 1 - nI (V (5 + j) 1) := fun z => fl.mp z q
        rw [decide_eq_true q, decide_eq_false this]
        rfl
      · rw [decide_eq_false q, decide_eq_true (fl.mpr q)]
        rfl
    rw [h, ha, e2, e3]
    simp only [e1t, e1j, Bool.true_and, hb]
    rw [Bool.and_comm]
theorem tee_ok (hr : gm_rep F V) (hk : gm_ok V) {j : Nat} (hj : j < 12) : sp_tgs F (5 + j) = sp_tcs F (5 + j) := by
  rw [tgs_sn, tcs_sn]
  refine congrArg nI ?_
  have e1 : sn (fun y => sn (fun x => bn (tg_Q F j y x)) 0 10) 0 10 = sn (fun y => sn (fun x => sn (fun i => tg_W F V j i y x) 0 12) 0 10) 0 10 :=
    sn_congr 10 0 (fun y _ hy => sn_congr 10 0 (fun x _ hx => tg_cell hr hk hj (by omega) (by omega)))
  have e2 : sn (fun y => sn (fun x => sn (fun i => tg_W F V j i y x) 0 12) 0 10) 0 10 = sn (fun y => sn (fun i => sn (fun x => tg_W F V j i y x) 0 10) 0 12) 0 10 :=
    sn_congr 10 0 (fun y _ _ => sn_swap (f := fun x i => tg_W F V j i y x) 10 0 12 0)
  have e3 := sn_swap (f := fun y i => sn (fun x => tg_W F V j i y x) 0 10) 10 0 12 0
  rw [e1, e2, e3]
  refine sn_congr 12 0 (fun i _ hi => ?_)
  have a := hk.1 i (by omega)
  have i1 : ∀ y, sn (fun x => tg_W F V j i y x) 0 10 = if V (5 + i) 3 = y then bn (tg_P F j i) else 0 := fun y => by
    rw [sn_one 10 0 (x := V (5 + i) 2) (by omega) (by omega) (fun q _ _ hq => by
      unfold tg_W
      rw [if_neg (by omega)])]
    unfold tg_W
    by_cases z : V (5 + i) 3 = y
    · rw [if_pos ⟨rfl, z⟩, if_pos z]
    · rw [if_neg (by omega), if_neg z]
  rw [sn_congr 10 0 (fun y _ _ => i1 y), sn_one 10 0 (x := V (5 + i) 3) (by omega) (by omega) (fun q _ _ hq => by rw [if_neg (by omega)]), if_pos rfl]
theorem cub_sn (hr : gm_rep F V) (hA : gmA V) {f : Nat} (hf : f < 2) : sp_cub F (nI f) = nI (gm_cub V f) := by
  unfold sp_cub
  rw [fold_sn 12 0 (h := gm_cu V f) (fun q _ hq a => by
    have aq := hA q (by omega)
    unfold sp_cug gm_cu
    rw [ga_aflo hr hA (by omega), gv_s hr (show q < 12 by omega) (show 1 < 9 by decide), gv_s hr (show q < 12 by omega) (show 6 < 9 by decide)]
    by_cases z : V (5 + q) 5 = 0
    · have z6 := aq.2.2.2.2.2.2.2.2.2 z
      simp [z, z6]
      exact nI_0
    · by_cases y : V (5 + q) 1 = f
      · simp [z, y]
      · have : ¬ nI (V (5 + q) 1) = nI f := fun w => y ((nI_e (by omega) (by omega)).mp w)
        simp [z, y, this]
        exact nI_0)]
  exact Int32.zero_add _
theorem bal_sn {a b c d e s : Nat} (h : a + b = c + d + e + s) : nI a + nI b - nI c - nI d - nI e = nI s := by
  rw [nI_add, h, nI_sub (by omega), nI_sub (by omega), nI_sub (by omega)]
  congr 1
  omega
theorem bal3 (hr : gm_rep F V) (hk : gm_ok V) : sp_bal F 3 = nI (gm_cub V 0) := by
  have hX := hk.2.2.2.2.1
  unfold gmX at hX
  unfold sp_bal
  rw [gv_3 hr (by decide), gv_3 hr (by decide), gv_3 hr (by decide), gv_3 hr (by decide), gv_3 hr (by decide)]
  exact bal_sn hX.2.1
theorem bal4 (hr : gm_rep F V) (hk : gm_ok V) : sp_bal F 4 = nI (gm_cub V 1) := by
  have hX := hk.2.2.2.2.2.1
  unfold gmX at hX
  unfold sp_bal
  rw [gv_4 hr (by decide), gv_4 hr (by decide), gv_4 hr (by decide), gv_4 hr (by decide), gv_4 hr (by decide)]
  exact bal_sn hX.2.1
theorem con_ok (hr : gm_rep F V) (hk : gm_ok V) : sp_con F = true := by
  unfold sp_con
  have h1 : sp_all (sp_tee F) 0 12 = true := sp_all_of 12 0 (fun q _ hq => by
    unfold sp_tee
    exact decide_eq_true (tee_ok hr hk (by omega)))
  have h2 : sp_cue F = true := by
    unfold sp_cue
    have e0 : sp_cub F 0 = nI (gm_cub V 0) := cub_sn (f := 0) hr hk.1 (by decide)
    have e1 : sp_cub F 1 = nI (gm_cub V 1) := cub_sn (f := 1) hr hk.1 (by decide)
    rw [e0, e1, bal3 hr hk, bal4 hr hk]
    simp
  have h3 : sp_all (sp_sgl F) 0 12 = true := sp_all_of 12 0 (fun q _ hq => by
    have hq : q < 12 := by omega
    unfold sp_sgl
    have a := hk.1 q hq
    by_cases z : V (5 + q) 5 = 0
    · have : sp_aflo F (5 + q) = false := by rw [ga_aflo hr hk.1 hq]; simp [z]
      rw [this]
      split <;> rfl
    · have e := ga_in hr hk hq z
      rw [← gv_s hr hq (show 2 < 9 by decide), ← gv_s hr hq (show 3 < 9 by decide)] at e
      rw [e]
      simp)
  rw [h1, h2, h3]
  rfl
end
