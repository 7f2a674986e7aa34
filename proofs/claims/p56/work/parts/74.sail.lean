/-! THE PURE PART, 44: isSailed answers 1. -/
theorem lg_self {x : Int64} : lg_cmp x x = 0 := by unfold lg_cmp; simp
section
variable {F G : Nat → Nat → Int32}
theorem num_same (h : np_same F G) {x : Int32} : sp_num F x = sp_num G x := by unfold sp_num; rw [h 1 3 (us_1 (by decide))]
theorem obj_same (h : np_same F G) {j : Nat} (hj : j < 12) {ok : Bool} : sp_obj F (5 + j) ok = sp_obj G (5 + j) ok := by
  unfold sp_obj
  rw [gng_same h, aflo_same h hj, h (5 + j) 1 (us_s hj (by decide)), h 1 5 (us_1 (by decide)), h 1 6 (us_1 (by decide))]
theorem ahd_same (h : np_same F G) {j : Nat} (hj : j < 12) : sp_ahd F (5 + j) = sp_ahd G (5 + j) := by
  unfold sp_ahd
  have : sp_ahg F (5 + j) = sp_ahg G (5 + j) := by
    funext i
    unfold sp_ahg sp_fre
    rw [h (5 + j) 2 (us_s hj (by decide)), h (5 + j) 3 (us_s hj (by decide)), h (5 + j) 4 (us_s hj (by decide)), in_same h]
  rw [this]
theorem KN_same (h : np_same F G) (hk : KN F) : KN G := by
  intro i o hi ho ai ao fl hd
  have e := hk i o hi ho
  rw [aflo_same h hi, aflo_same h ho, h (5 + i) 1 (us_s hi (by decide)), h (5 + o) 1 (us_s ho (by decide))] at e
  unfold sp_dist at e hd
  unfold sp_hid at e ⊢
  rw [aflo_same h hi, h (5 + i) 2 (us_s hi (by decide)), h (5 + i) 3 (us_s hi (by decide)), h (5 + o) 2 (us_s ho (by decide)), h (5 + o) 3 (us_s ho (by decide)), h (5 + i) 7 (us_s hi (by decide)), h (5 + i) 8 (us_s hi (by decide))] at e
  exact e ai ao fl hd
theorem hid_same (h : np_same F G) {j : Nat} (hj : j < 12) : sp_hid F (5 + j) = sp_hid G (5 + j) := by
  unfold sp_hid
  rw [aflo_same h hj, h (5 + j) 2 (us_s hj (by decide)), h (5 + j) 3 (us_s hj (by decide)), h (5 + j) 7 (us_s hj (by decide)), h (5 + j) 8 (us_s hj (by decide))]
theorem ps_same {D : Nat → Nat → Int32} {j s : Nat} (hj : j < 8) : np_same D (np_psF D j s) := fun a i u => by
  have := np_us_lt u
  unfold np_psF
  rw [np_u_a (by omega), np_u_a (by omega), np_cp_o (by omega)]
end
def ax (b : Nat) : Nat := if b = 0 ∨ b = 4 then 0 else 1
def ay (b : Nat) : Nat := if b = 2 ∨ b = 6 then 0 else 1
theorem st_x : ∀ x, x < 10 → ∀ b, b < 8 → ∀ s, s < 4 → sp_far (nI x + nI s * sp_stepX (nI b)) (nI x) = nI (s * ax b) := by decide +kernel
theorem st_y : ∀ x, x < 10 → ∀ b, b < 8 → ∀ s, s < 4 → sp_far (nI x + nI s * sp_stepY (nI b)) (nI x) = nI (s * ay b) := by decide +kernel
theorem st_m : ∀ b, b < 8 → ∀ s, s < 4 → sp_max (nI (s * ax b)) (nI (s * ay b)) = nI s := by decide +kernel
section
variable {F : Nat → Nat → Int32} {a : Nat} {j : Nat} {s : Int32} {z : Bool}
theorem mv1_o {q : Nat} (hb : ¬ q = 2 ∧ ¬ q = 3 ∧ ¬ q = 6 ∧ ¬ q = 7 ∧ ¬ q = 8) : np_mv1 F (5 + j) s z (5 + j) q = F (5 + j) q := by
  have a4 : ∀ f, (5 + j = sp_aco f) = False := fun f => eq_false np_a4
  have e1 : (5 + j = 1) = False := eq_false (by omega)
  unfold np_mv1
  cases z
  · rw [if_neg (by decide)]
    unfold np_kn np_mv0
    simp [np_u, e1, hb]
  · rw [if_pos rfl]
    unfold np_pyF np_mv0
    simp [np_u, e1, hb, a4]
theorem mv1_1 {q : Nat} (hb : ¬ q = 6 ∧ ¬ q = 11) : np_mv1 F (5 + j) s z 1 q = F 1 q := by
  have e1 : (1 = 5 + j) = False := eq_false (by omega)
  have a6 : ∀ f, (1 = sp_aco f) = False := fun f => eq_false np_a6
  unfold np_mv1
  cases z
  · rw [if_neg (by decide)]
    unfold np_kn np_mv0
    simp [np_u, e1, hb]
  · rw [if_pos rfl]
    unfold np_pyF np_mv0
    simp [np_u, e1, hb, a6]
theorem mv1_16 : np_mv1 F (5 + j) s z 1 6 = F 1 6 - 1 := by
  have e1 : (1 = 5 + j) = False := eq_false (by omega)
  have a6 : ∀ f, (1 = sp_aco f) = False := fun f => eq_false np_a6
  unfold np_mv1
  cases z
  · rw [if_neg (by decide)]
    unfold np_kn np_mv0
    simp [np_u, e1]
  · rw [if_pos rfl]
    unfold np_pyF np_mv0
    simp [np_u, e1, a6]
theorem mv1_a {b q : Nat} (hb : b = 3 ∨ b = 4) (hq : ¬ q = 6) : np_mv1 F (5 + j) s z b q = F b q := by
  have e1 : (b = 5 + j) = False := eq_false (by omega)
  have e2 : (b = 1) = False := eq_false (by omega)
  unfold np_mv1
  cases z
  · rw [if_neg (by decide)]
    unfold np_kn np_mv0
    simp [np_u, e1, e2]
  · rw [if_pos rfl]
    unfold np_pyF np_mv0
    simp [np_u, e1, e2, hq]
theorem mv1_2 : np_mv1 F (5 + j) s z (5 + j) 2 = F (5 + j) 2 + s * sp_stepX (F (5 + j) 4) := by
  have a4 : ∀ f, (5 + j = sp_aco f) = False := fun f => eq_false np_a4
  have e1 : (5 + j = 1) = False := eq_false (by omega)
  unfold np_mv1
  cases z
  · rw [if_neg (by decide)]
    unfold np_kn np_mv0
    simp [np_u, e1]
  · rw [if_pos rfl]
    unfold np_pyF np_mv0
    simp [np_u, e1, a4]
theorem mv1_3 : np_mv1 F (5 + j) s z (5 + j) 3 = F (5 + j) 3 + s * sp_stepY (F (5 + j) 4) := by
  have a4 : ∀ f, (5 + j = sp_aco f) = False := fun f => eq_false np_a4
  have e1 : (5 + j = 1) = False := eq_false (by omega)
  unfold np_mv1
  cases z
  · rw [if_neg (by decide)]
    unfold np_kn np_mv0
    simp [np_u, e1]
  · rw [if_pos rfl]
    unfold np_pyF np_mv0
    simp [np_u, e1, a4]
theorem mv1_6 : np_mv1 F (5 + j) s z (5 + j) 6 = F (5 + j) 6 - np_i z := by
  have a4 : ∀ f, (5 + j = sp_aco f) = False := fun f => eq_false np_a4
  have e1 : (5 + j = 1) = False := eq_false (by omega)
  unfold np_mv1
  cases z
  · rw [if_neg (by decide)]
    unfold np_kn np_mv0
    simp [np_u, e1, np_i]
  · rw [if_pos rfl]
    unfold np_pyF np_mv0
    simp [np_u, e1, a4, np_i]
theorem mv1_kn : knw (np_mv1 F (5 + j) s false) j := by
  unfold np_mv1
  rw [if_neg (by decide)]
  exact knw_kn
end
section
variable {F : Nat → Nat → Int32} {L : Nat → Int64} {C : Nat → Nat → Int32} {fm k : Nat} {scr : nv_Scr}
/-- sailing two cells is possible -/
def can (F : Nat → Nat → Int32) (j : Nat) (z : Bool) : Prop := sp_obj F (5 + j) true = 0 ∧ (z = true → ¬ F (5 + j) 6 = 0) ∧ ¬ sp_ahd F (5 + j) = 0
theorem sail_f (w : WI F) {j : Nat} {z : Bool} (hn : sp_num F (nI j) = some j) (hc : ¬ can F j z) : ∃ F' L', np_X 148 0 [some (.ref 0), some (.int (nI j)), some (.int 2), some (.int (np_i z)), none, none] [] (np_S F L C fm k scr) = np_o (-100000000) (np_S F' L' C fm (k + 1) scr) ∧ WI F' ∧ np_same F F' ∧ L' 1 = L 1 ∧ SN F L F' L' := by
  have hj := (sp_num_lt hn).1
  have s0 := @same_F0 F
  have hn0 : sp_num (np_F0 F) (nI j) = some j := by rw [← num_same s0]; exact hn
  have hB := w.b4 np_B1
  have key : ∀ r, np_bad r → np_X 48 0 [some (.ref 1), some (.int (nI j)), some (.int 2), some (.int (np_i z)), none, none, none] [] (np_S (np_F0 F) (np_L0 L) C fm k scr) = np_o r (np_S (np_F0 F) (np_L0 L) C fm k scr) → ∃ F' L', np_X 148 0 [some (.ref 0), some (.int (nI j)), some (.int 2), some (.int (np_i z)), none, none] [] (np_S F L C fm k scr) = np_o (-100000000) (np_S F' L' C fm (k + 1) scr) ∧ WI F' ∧ np_same F F' ∧ L' 1 = L 1 ∧ SN F L F' L' := by
    intro r hr e
    have d := DR_bad (L := L) (k := k) (r := r) w
    obtain ⟨-, ⟨w1, sn⟩, d1⟩ := d
    refine ⟨_, _, x148 isoN (exc4 hr) (m82x hB e hr), w1, ?_⟩
    rcases d1 with ⟨-, a, b⟩ | ⟨a, -⟩
    · exact ⟨a, b, sn⟩
    · exact absurd (by decide) a
  by_cases ho : sp_obj (np_F0 F) (5 + j) (sp_okn 2) = 0
  · by_cases h6 : z = true ∧ F (5 + j) 6 = 0
    · obtain ⟨rfl, h6⟩ := h6
      exact key _ (by simp [np_bad]) (m48c hn0 ho (by rw [np_F0_1 (by omega)]; exact h6))
    · have h6' : z = true → ¬ np_F0 F (5 + j) 6 = 0 := fun a b => h6 ⟨a, by rw [np_F0_1 (by omega)] at b; exact b⟩
      have ha : sp_ahd (np_F0 F) (5 + j) = 0 := by
        by_cases q : sp_ahd F (5 + j) = 0
        · rw [← ahd_same s0 hj]; exact q
        · exfalso
          refine hc ⟨?_, fun a b => h6 ⟨a, b⟩, q⟩
          rw [obj_same s0 hj]
          exact ho
      exact key _ (by simp [np_bad]) (m48z hn0 ho h6' (by unfold sp_sld; rw [ha]; rfl))
  · exact key _ (bad_obj ho) (m48o hn0 ho)
theorem sail_s (w : WI F) {j : Nat} {z : Bool} (hn : sp_num F (nI j) = some j) (hc : can F j z) : ∃ s G LG, 1 ≤ s ∧ s < 4 ∧ sp_sld F (5 + j) 2 = nI s ∧ np_X 148 0 [some (.ref 0), some (.int (nI j)), some (.int 2), some (.int (np_i z)), none, none] [] (np_S F L C fm k scr) = np_o (nI s) (np_S G LG C fm k scr) ∧ (WI G ∧ SN F L G LG) ∧ UD F L G LG ∧ np_same (sp_dis (np_mv1 (np_F0 F) (5 + j) (nI s) z) 0 12) G ∧ KN G ∧ LG 1 = L 1 + (nI s).toInt64 := by
  have hj := (sp_num_lt hn).1
  have s0 := @same_F0 F
  have hn0 : sp_num (np_F0 F) (nI j) = some j := by rw [← num_same s0]; exact hn
  have hB := w.b4 np_B1
  obtain ⟨c1, c2, c3⟩ := hc
  have ho : sp_obj (np_F0 F) (5 + j) (sp_okn 2) = 0 := by rw [← obj_same s0 hj]; exact c1
  have h6 : z = true → ¬ np_F0 F (5 + j) 6 = 0 := fun a b => c2 a (by rw [np_F0_1 (by omega)] at b; exact b)
  have g0 : GI (np_F0 F) := GI_same s0 w.g
  have hsl : sp_sld (np_F0 F) (5 + j) 2 = sp_sld F (5 + j) 2 := by unfold sp_sld; rw [ahd_same s0 hj]
  have hs : ¬ sp_sld (np_F0 F) (5 + j) 2 = 0 := by
    rw [hsl]
    obtain ⟨g1, -, -⟩ := sp_run_le (p := sp_ahg F (5 + j)) 10 0
    have hd : sp_run (sp_ahg F (5 + j)) 0 10 = sp_ahd F (5 + j) := rfl
    rw [hd] at g1
    unfold sp_sld sp_min
    split
    · intro q
      exact c3 ((nI_e (b := 0) (by omega) (by decide)).mp q)
    · decide
  have g0' := g0
  obtain ⟨V, hr, hk⟩ := g0
  obtain ⟨s, x, y, h1, -, h3, -, -, es, -⟩ := ga_go hr hk hj (n := 2) (by decide) hs
  have gD := GI_mv (z := z) hj g0' ho h6 hs
  have e48 := m48s (L := np_L0 L) (C := C) (fm := fm) (k := k) (scr := scr) hn0 ho h6 hs
  rw [es] at e48 gD
  have hloc : np_loc (np_F0 F) (sp_dis (np_mv1 (np_F0 F) (5 + j) (nI s) z) 0 12) := (np_mv1_loc hj).trans (np_dis_loc 12 0 _ (by omega))
  obtain ⟨i, t, hH, w1, d1, ⟨w2, sn⟩, d2⟩ := DR_ok (L := L) (k := k) (L1 := np_uL (np_L0 L) 1 (np_L0 L 1 + (nI s).toInt64)) (r := nI s) w (nI_nn (by omega)) hloc gD (fun b hb => if_neg hb)
  have e := w148 isoN (m82 hB e48 (nI_nn (by omega)) hH (w1.b4 np_B17))
  have sm := ps_same (D := sp_dis (np_mv1 (np_F0 F) (5 + j) (nI s) z) 0 12) (s := t) hH.1
  refine ⟨s, _, _, h1, by omega, by rw [← hsl]; exact es, e, ⟨w2, sn⟩, ?_, sm, KN_same sm (KN_dis gD), ?_⟩
  · rcases d2 with ⟨a, -⟩ | ⟨-, b⟩
    · exact absurd (a ▸ nI_nn (n := s) (by omega)) (by decide)
    · exact b
  · have hi := hH.1
    have q1 : ¬ (1 : Nat) = 51 + 16 * i := by omega
    show np_uL (np_uL (np_L0 L) 1 (np_L0 L 1 + (nI s).toInt64)) (51 + 16 * i) _ 1 = _
    have e0 : np_L0 L 1 = L 1 := if_neg (by decide)
    rw [e0]
    unfold np_uL
    rw [if_neg q1, if_pos rfl]
end
