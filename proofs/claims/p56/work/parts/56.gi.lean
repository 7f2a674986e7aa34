/-! THE PURE PART, 26: the game's fields and its whole numbers; every change keeps a game in order. -/
theorem nI_sub {a c : Nat} (h : c ≤ a) : nI a - nI c = nI (a - c) := by
  have e : nI a = nI (a - c) + nI c := by rw [nI_add, Nat.sub_add_cancel h]
  rw [e]
  exact Int32.add_sub_cancel _ _
theorem nI_sub1 {a : Nat} (h : ¬ a = 0) : nI a - 1 = nI (a - 1) := nI_sub (c := 1) (by omega)
theorem sp_fnd_no {p : Nat → Bool} : ∀ (n i : Nat), sp_fnd p i n = none → ∀ q, i ≤ q → q < i + n → p q = false
  | 0, i, _, q, h1, h2 => by omega
  | n + 1, i, h, q, h1, h2 => by
    rw [sp_fnd_s] at h
    split at h
    · cases h
    · rename_i hp
      by_cases e : q = i
      · subst e
        simpa using hp
      · exact sp_fnd_no n (i + 1) h q (by omega) (by omega)
theorem sp_run_le {p : Nat → Bool} : ∀ (n i : Nat), sp_run p i n ≤ i + n ∧ i ≤ sp_run p i n ∧ ∀ q, i ≤ q → q < sp_run p i n → p q = true
  | 0, i => ⟨Nat.le_refl _, Nat.le_refl _, fun q h1 h2 => by
    have : sp_run p i 0 = i := rfl
    omega⟩
  | n + 1, i => by
    rw [sp_run_s]
    split
    · rename_i hp
      obtain ⟨h1, h2, h3⟩ := sp_run_le (p := p) n (i + 1)
      refine ⟨by omega, by omega, fun q h4 h5 => ?_⟩
      by_cases e : q = i
      · subst e; exact hp
      · exact h3 q (by omega) h5
    · exact ⟨by omega, Nat.le_refl _, fun q h1 h2 => by omega⟩
theorem nI_10 {n : Nat} (h : n < 10) : ¬ nI n < 0 ∧ nI n < 10 := ⟨nI_pos (by omega), nI_lt (b := 10) h (by decide)⟩
theorem nI_of10 {x : Int32} (h1 : ¬ x < 0) (h2 : x < 10) : ∃ n, n < 10 ∧ x = nI n := by
  obtain ⟨j, hj, rfl⟩ := nI_of h1
  exact ⟨j, (nI_ltI hj (by decide)).mp (show nI j < nI 10 from h2), rfl⟩
theorem sp_tray_n {x y : Nat} (hx : x < 10) (hy : y < 10) : sp_tray (nI x) (nI y) = true := by
  unfold sp_tray
  simp [nI_10 hx, nI_10 hy]
theorem sp_tray_of {x y : Int32} (h : sp_tray x y = true) : ∃ a b, a < 10 ∧ b < 10 ∧ x = nI a ∧ y = nI b := by
  unfold sp_tray at h
  simp only [Bool.and_eq_true, Bool.not_eq_true', decide_eq_false_iff_not, decide_eq_true_eq] at h
  obtain ⟨a, ha, ea⟩ := nI_of10 h.1 h.2.1
  obtain ⟨b, hb, eb⟩ := nI_of10 h.2.2.1 h.2.2.2
  exact ⟨a, b, ha, hb, ea, eb⟩
theorem nI_e {a b : Nat} (ha : a < 1000) (hb : b < 1000) : nI a = nI b ↔ a = b := nI_eq (by omega) (by omega)
section
variable {F : Nat → Nat → Int32} {V : gm_V}
theorem gv_s (hr : gm_rep F V) {i j : Nat} (hi : i < 12) (hj : j < 9) : F (5 + i) j = nI (V (5 + i) j) := hr.1 i hi j hj
theorem gv_3 (hr : gm_rep F V) {j : Nat} (hj : j < 8) : F 3 j = nI (V 3 j) := (hr.2.1 j hj).1
theorem gv_4 (hr : gm_rep F V) {j : Nat} (hj : j < 8) : F 4 j = nI (V 4 j) := (hr.2.1 j hj).2
theorem gv_1 (hr : gm_rep F V) {j : Nat} (hj : j = 3 ∨ j = 4 ∨ j = 5 ∨ j = 6 ∨ j = 8 ∨ j = 9) : F 1 j = nI (V 1 j) := hr.2.2 j hj
theorem ga_aflo (hr : gm_rep F V) (hA : gmA V) {i : Nat} (hi : i < 12) : sp_aflo F (5 + i) = !decide (V (5 + i) 5 = 0) := by
  have := hA i hi
  unfold sp_aflo
  rw [gv_s hr hi (by decide)]
  by_cases h : V (5 + i) 5 = 0
  · rw [h]; rfl
  · have : 0 < nI (V (5 + i) 5) := nI_0 ▸ nI_lt (show 0 < V (5 + i) 5 by omega) (by omega)
    simp [h, this]
theorem cnt_le {V : gm_V} {f : Nat} : gm_cnt V f ≤ 12 := by
  have key : ∀ (n i : Nat), sn (gm_ct V f) i n ≤ n := by
    intro n
    induction n with
    | zero => intro i; exact Nat.le_refl _
    | succ n ih =>
      intro i
      rw [sn_s]
      have := ih (i + 1)
      have : gm_ct V f i ≤ 1 := by
        unfold gm_ct
        split
        · omega
        · split <;> omega
      omega
  exact key 12 0
theorem ga_gng (hr : gm_rep F V) (hk : gm_ok V) : sp_gng F = true ↔ V 1 4 = 1 ∧ ¬ V 3 1 = 0 ∧ ¬ V 4 1 = 0 := by
  obtain ⟨hA, hC, hD, hB, hX, hY, hH, hT⟩ := hk
  have b1 := hB.1
  have c3 := hX.1
  have c4 := hY.1
  have d3 := @cnt_le V 0
  have d4 := @cnt_le V 1
  unfold sp_gng sp_ovr
  rw [gv_1 hr (by simp), gv_3 hr (by decide), gv_4 hr (by decide)]
  have z : ∀ n, n < 1000 → (nI n = 0 ↔ n = 0) := fun n hn => nI_e (b := 0) hn (by decide)
  have z1 := z (V 1 4) (by omega)
  have z2 := z (V 3 1) (by omega)
  have z3 := z (V 4 1) (by omega)
  simp only [Bool.and_eq_true, Bool.not_eq_true', decide_eq_false_iff_not, Bool.and_eq_false_iff, Bool.or_eq_false_iff, Bool.not_eq_false', decide_eq_true_eq, z1, z2, z3]
  omega
theorem sp_obj_z {a : Nat} {ok : Bool} (h : sp_obj F a ok = 0) : ok = true ∧ sp_gng F = true ∧ sp_aflo F a = true ∧ F a 1 = F 1 5 ∧ ¬ F 1 6 = 0 := by
  unfold sp_obj at h
  cases ok with
  | false => simp at h
  | true =>
    cases h1 : sp_gng F with
    | false => simp [h1] at h
    | true =>
      cases h2 : sp_aflo F a with
      | false => simp [h1, h2] at h
      | true =>
        by_cases h3 : F a 1 = F 1 5
        · by_cases h4 : F 1 6 = 0
          · simp [h1, h2, h3, h4] at h
          · exact ⟨rfl, rfl, rfl, h3, h4⟩
        · simp [h1, h2, h3] at h
theorem ga_obj (hr : gm_rep F V) (hk : gm_ok V) {j : Nat} (hj : j < 12) {ok : Bool} (h : sp_obj F (5 + j) ok = 0) : ok = true ∧ V 1 4 = 1 ∧ ¬ V 3 1 = 0 ∧ ¬ V 4 1 = 0 ∧ ¬ V (5 + j) 5 = 0 ∧ V (5 + j) 1 = V 1 5 ∧ ¬ V 1 6 = 0 := by
  obtain ⟨h1, h2, h3, h4, h5⟩ := sp_obj_z h
  have g := (ga_gng hr hk).mp h2
  rw [ga_aflo hr hk.1 hj] at h3
  have hA := hk.1 j hj
  have hB := hk.2.2.2.1
  unfold gmB at hB
  rw [gv_s hr hj (by decide), gv_1 hr (by simp), nI_e (by omega) (by omega)] at h4
  rw [gv_1 hr (by simp)] at h5
  refine ⟨h1, g.1, g.2.1, g.2.2, by simpa using h3, h4, fun e => h5 (by rw [e]; rfl)⟩
theorem ga_aco (hr : gm_rep F V) (hA : gmA V) {j : Nat} (hj : j < 12) : (V (5 + j) 1 = 0 ∧ sp_aco (F (5 + j) 1) = 3) ∨ (V (5 + j) 1 = 1 ∧ sp_aco (F (5 + j) 1) = 4) := by
  have := hA j hj
  rw [gv_s hr hj (by decide)]
  have h2 : V (5 + j) 1 = 0 ∨ V (5 + j) 1 = 1 := by omega
  rcases h2 with h | h
  · left; rw [h]; exact ⟨rfl, rfl⟩
  · right; rw [h]; exact ⟨rfl, rfl⟩
theorem ga_in_s (hr : gm_rep F V) (hA : gmA V) {x y i : Nat} (hx : x < 10) (hy : y < 10) (h : sp_in F (nI x) (nI y) = some i) : i < 12 ∧ ¬ V (5 + i) 5 = 0 ∧ V (5 + i) 2 = x ∧ V (5 + i) 3 = y := by
  have hi := sp_in_lt h
  have hp := (sp_fnd_lt _ _ _ h).2.2
  have := hA i hi
  unfold sp_at sp_isIn at hp
  rw [ga_aflo hr hA hi, gv_s hr hi (by decide), gv_s hr hi (by decide)] at hp
  simp only [Bool.and_eq_true, Bool.not_eq_true', decide_eq_false_iff_not, decide_eq_true_eq] at hp
  exact ⟨hi, hp.1, (nI_e (by omega) (by omega)).mp hp.2.1, (nI_e (by omega) (by omega)).mp hp.2.2⟩
theorem ga_in_n (hr : gm_rep F V) (hA : gmA V) {x y : Nat} (h : sp_in F (nI x) (nI y) = none) : ∀ i, i < 12 → ¬ V (5 + i) 5 = 0 → V (5 + i) 2 = x → V (5 + i) 3 = y → False := by
  intro i hi h5 h2 h3
  have hp := sp_fnd_no _ _ h i (by omega) (by omega)
  unfold sp_at sp_isIn at hp
  rw [ga_aflo hr hA hi, gv_s hr hi (by decide), gv_s hr hi (by decide), h2, h3] at hp
  simp [h5] at hp
theorem ga_in (hr : gm_rep F V) (hk : gm_ok V) {i : Nat} (hi : i < 12) (h5 : ¬ V (5 + i) 5 = 0) : sp_in F (nI (V (5 + i) 2)) (nI (V (5 + i) 3)) = some i := by
  have hA := hk.1
  have a := hA i hi
  cases h : sp_in F (nI (V (5 + i) 2)) (nI (V (5 + i) 3)) with
  | none => exact (ga_in_n hr hA h i hi h5 rfl rfl).elim
  | some q =>
    obtain ⟨h1, h2, h3, h4⟩ := ga_in_s hr hA (by omega) (by omega) h
    rw [hk.2.2.1 q i h1 hi h2 h5 h3 h4]
theorem ga_num (hr : gm_rep F V) (hk : gm_ok V) {x : Int32} {j : Nat} (h : sp_num F x = some j) : j < 12 ∧ j < V 1 3 ∧ x = nI j := by
  obtain ⟨h1, h2, h3⟩ := sp_num_lt h
  have := hk.2.1.1
  rw [h2, gv_1 hr (by simp)] at h3
  exact ⟨h1, (nI_ltI (by omega) (by omega)).mp h3, h2⟩
-- the changes
theorem GI_bg (h : GI F) (hb : sp_bgn F = true) : GI (np_bgF F) := by
  obtain ⟨V, hr, hk⟩ := h
  unfold sp_bgn at hb
  simp only [Bool.and_eq_true, decide_eq_true_eq, Bool.not_eq_true', decide_eq_false_iff_not] at hb
  obtain ⟨h1, h2, h3⟩ := hb
  have hB := hk.2.2.2.1
  unfold gmB at hB
  rw [gv_1 hr (by simp)] at h1
  rw [gv_3 hr (by decide)] at h2
  have e1 : V 1 4 = 0 := (nI_e (b := 0) (by omega) (by decide)).mp h1
  exact ⟨_, rep_u (n := 3) (rep_u (n := 0) (rep_u (n := 1) hr)), ok_bgn hk e1 (fun e => h2 (by rw [e]; rfl))⟩
theorem GI_pt (h : GI F) : GI (np_ptF F) := by
  obtain ⟨V, hr, hk⟩ := h
  have hB := hk.2.2.2.1
  unfold gmB at hB
  have e : 1 - F 1 5 = nI (1 - V 1 5) := by
    rw [gv_1 hr (by simp)]
    exact nI_sub (a := 1) (by omega)
  unfold np_ptF
  rw [e]
  exact ⟨_, rep_x (rep_u (n := 3) (rep_u hr)) (Or.inl rfl), ok_pass hk⟩
theorem ga_act (hr : gm_rep F V) (h6 : ¬ V 1 6 = 0) : F 1 6 - 1 = nI (V 1 6 - 1) := by rw [gv_1 hr (by simp), nI_sub1 h6]
theorem okb_of {b : Int32} (h : sp_okb b = true) : ∃ n, n < 8 ∧ b = nI n := by
  unfold sp_okb at h
  simp only [Bool.and_eq_true, Bool.not_eq_true', decide_eq_false_iff_not, decide_eq_true_eq] at h
  obtain ⟨j, hj, rfl⟩ := nI_of h.1
  exact ⟨j, (nI_ltI hj (by decide)).mp (show nI j < nI 8 from h.2), rfl⟩
theorem okc_of {c : Int32} (h : sp_okc c = true) : ∃ n, 1 ≤ n ∧ n < 10 ∧ c = nI n := by
  unfold sp_okc at h
  simp only [Bool.and_eq_true, Bool.not_eq_true', decide_eq_false_iff_not] at h
  have h0 : ¬ c < 0 := fun q => h.1 (Int32.lt_trans q (by decide))
  obtain ⟨j, hj, rfl⟩ := nI_of h0
  have h1 : ¬ j < 1 := fun q => h.1 (nI_lt (b := 1) q (by decide))
  have h2 : ¬ 9 < j := fun q => h.2 (nI_lt (a := 9) q (by omega))
  exact ⟨j, by omega, by omega, rfl⟩
theorem okn_of {c : Int32} (h : sp_okn c = true) : ∃ n, 1 ≤ n ∧ n < 4 ∧ c = nI n := by
  unfold sp_okn at h
  simp only [Bool.and_eq_true, Bool.not_eq_true', decide_eq_false_iff_not] at h
  have h0 : ¬ c < 0 := fun q => h.1 (Int32.lt_trans q (by decide))
  obtain ⟨j, hj, rfl⟩ := nI_of h0
  have h1 : ¬ j < 1 := fun q => h.1 (nI_lt (b := 1) q (by decide))
  have h2 : ¬ 3 < j := fun q => h.2 (nI_lt (a := 3) q (by omega))
  exact ⟨j, by omega, by omega, rfl⟩
theorem GI_ro {j : Nat} {b : Int32} (hj : j < 12) (h : GI F) (ho : sp_obj F (5 + j) (sp_okb b) = 0) : GI (np_roF F (5 + j) b) := by
  obtain ⟨V, hr, hk⟩ := h
  obtain ⟨h1, h2, h3, h4, h5, h6, h7⟩ := ga_obj hr hk hj ho
  obtain ⟨n, hn, rfl⟩ := okb_of h1
  have hB := hk.2.2.2.1
  unfold gmB at hB
  unfold np_roF
  rw [ga_act hr h7]
  exact ⟨_, rep_u (rep_u hr), ok_act (ok_bear hj hn hk) (by omega)⟩
theorem GI_kn {j : Nat} (hj : j < 12) (h : GI F) : GI (np_kn F (5 + j)) := by
  obtain ⟨V, hr, hk⟩ := h
  unfold np_kn
  rw [gv_s hr hj (show 2 < 9 by decide), gv_s hr hj (show 3 < 9 by decide)]
  exact ⟨_, rep_u (rep_u hr), ok_kn hj hk⟩
end
theorem GI_dis : ∀ (n i : Nat) (F : Nat → Nat → Int32), i + n ≤ 12 → GI F → GI (sp_dis F i n)
  | 0, i, F, _, h => h
  | n + 1, i, F, hi, h => by
    rw [sp_dis_s]
    refine GI_dis n (i + 1) _ (by omega) ?_
    unfold sp_ds1
    split
    · exact GI_kn (by omega) h
    · exact h
