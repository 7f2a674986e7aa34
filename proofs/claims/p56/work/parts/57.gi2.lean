/-! THE PURE PART, 27: loading, sailing, shooting, adding keep a game in order. -/
section
variable {F : Nat → Nat → Int32} {V : gm_V}
theorem np_kn_u {a b k : Nat} {v : Int32} (h : ¬ (b = a ∧ (k = 2 ∨ k = 3 ∨ k = 7 ∨ k = 8))) : np_u (np_kn F a) b k v = np_kn (np_u F b k v) a := by
  have e2 : np_u F b k v a 2 = F a 2 := if_neg (by omega)
  have e3 : np_u F b k v a 3 = F a 3 := if_neg (by omega)
  unfold np_kn
  rw [e2, e3]
  funext x y
  unfold np_u
  by_cases h1 : x = b ∧ y = k
  · rw [if_pos h1, if_neg (by omega), if_neg (by omega), if_pos h1]
  · rw [if_neg h1]
    by_cases h8 : x = a ∧ y = 8
    · rw [if_pos h8, if_pos h8]
    · rw [if_neg h8, if_neg h8]
      by_cases h7 : x = a ∧ y = 7
      · rw [if_pos h7, if_pos h7]
      · rw [if_neg h7, if_neg h7, if_neg h1]
theorem GI_fi {j : Nat} {c : Int32} (hj : j < 12) (h : GI F) (ho : sp_obj F (5 + j) (sp_okc c) = 0) (hl : sp_lod F (5 + j) c = true) : GI (np_fiF F (5 + j) c) := by
  obtain ⟨V, hr, hk⟩ := h
  obtain ⟨h1, h2, h3, h4, h5, h6, h7⟩ := ga_obj hr hk hj ho
  obtain ⟨n, hn, hn2, rfl⟩ := okc_of h1
  have hB := hk.2.2.2.1
  have hX := hk.2.2.2.2.1
  have hY := hk.2.2.2.2.2.1
  have hA := hk.1 j hj
  unfold gmB at hB
  unfold gmX at hX hY
  unfold sp_lod at hl
  simp only [Bool.and_eq_true, Bool.not_eq_true', decide_eq_false_iff_not] at hl
  have e6 := gv_s hr hj (show 6 < 9 by decide)
  have l2 : V (5 + j) 6 + n < 10 := by
    have := hl.2
    rw [e6, nI_add] at this
    have : ¬ 9 < V (5 + j) 6 + n := fun q => this (nI_lt (a := 9) q (by omega))
    omega
  unfold np_fiF
  rcases ga_aco hr hk.1 hj with ⟨f, e⟩ | ⟨f, e⟩
  · rw [e] at hl ⊢
    have l1 : n ≤ V 3 2 := by
      have := hl.1
      rw [gv_3 hr (by decide)] at this
      have : ¬ V 3 2 < n := fun q => this (nI_lt q (by omega))
      omega
    rw [ga_act hr h7, e6, gv_3 hr (show 2 < 8 by decide), gv_3 hr (show 4 < 8 by decide), nI_add, nI_add, nI_sub l1]
    exact ⟨_, rep_u (rep_u (rep_u (rep_u hr))), ok_act (ok_load0 hj f h5 l1 l2 hk) (by omega)⟩
  · rw [e] at hl ⊢
    have l1 : n ≤ V 4 2 := by
      have := hl.1
      rw [gv_4 hr (by decide)] at this
      have : ¬ V 4 2 < n := fun q => this (nI_lt q (by omega))
      omega
    rw [ga_act hr h7, e6, gv_4 hr (show 2 < 8 by decide), gv_4 hr (show 4 < 8 by decide), nI_add, nI_add, nI_sub l1]
    exact ⟨_, rep_u (rep_u (rep_u (rep_u hr))), ok_act (ok_load1 hj f h5 l1 l2 hk) (by omega)⟩
theorem GI_py {j : Nat} (hj : j < 12) (h : GI F) (h6 : ¬ F (5 + j) 6 = 0) : GI (np_pyF F (5 + j)) := by
  obtain ⟨V, hr, hk⟩ := h
  have e6 := gv_s hr hj (show 6 < 9 by decide)
  have n6 : ¬ V (5 + j) 6 = 0 := fun q => h6 (by rw [e6, q]; rfl)
  unfold np_pyF
  rcases ga_aco hr hk.1 hj with ⟨f, e⟩ | ⟨f, e⟩
  · rw [e, e6, gv_3 hr (show 6 < 8 by decide), nI_1, nI_sub1 n6]
    exact ⟨_, rep_x (rep_u (rep_u hr)) (Or.inr rfl), ok_sneak0 hj f n6 hk⟩
  · rw [e, e6, gv_4 hr (show 6 < 8 by decide), nI_1, nI_sub1 n6]
    exact ⟨_, rep_x (rep_u (rep_u hr)) (Or.inr rfl), ok_sneak1 hj f n6 hk⟩
/-- where a spoon goes: free, on the tray -/
theorem ga_go (hr : gm_rep F V) (hk : gm_ok V) {j : Nat} (hj : j < 12) {n : Int32} (hn : sp_okn n = true) (hs : ¬ sp_sld F (5 + j) n = 0) : ∃ s x y, 1 ≤ s ∧ s ≤ sp_ahd F (5 + j) ∧ s ≤ 3 ∧ (s = sp_ahd F (5 + j) ∨ n = nI s) ∧ sp_ahd F (5 + j) ≤ 10 ∧ sp_sld F (5 + j) n = nI s ∧ x < 10 ∧ y < 10 ∧ F (5 + j) 2 + nI s * sp_stepX (F (5 + j) 4) = nI x ∧ F (5 + j) 3 + nI s * sp_stepY (F (5 + j) 4) = nI y ∧ sp_in F (nI x) (nI y) = none := by
  obtain ⟨m, hm1, hm2, rfl⟩ := okn_of hn
  obtain ⟨g1, g2, g3⟩ := sp_run_le (p := sp_ahg F (5 + j)) 10 0
  have hd : sp_run (sp_ahg F (5 + j)) 0 10 = sp_ahd F (5 + j) := rfl
  rw [hd] at g1 g2 g3
  have es : sp_sld F (5 + j) (nI m) = nI (min m (sp_ahd F (5 + j))) := by
    unfold sp_sld sp_min
    by_cases q : sp_ahd F (5 + j) < m
    · rw [if_pos (nI_lt q (by omega)), Nat.min_eq_right (by omega)]
    · rw [if_neg (nI_nlt (by omega) (by omega)), Nat.min_eq_left (by omega)]
  have h0 : 1 ≤ min m (sp_ahd F (5 + j)) := by
    by_cases q : min m (sp_ahd F (5 + j)) = 0
    · exact absurd (by rw [es, q]; rfl) hs
    · omega
  generalize hsd : min m (sp_ahd F (5 + j)) = s at es h0
  have hle : s ≤ sp_ahd F (5 + j) ∧ s ≤ m := by omega
  have hp := g3 (s - 1) (by omega) (by omega)
  unfold sp_ahg sp_fre at hp
  rw [show s - 1 + 1 = s by omega] at hp
  simp only [Bool.and_eq_true] at hp
  obtain ⟨x, y, hx, hy, ex, ey⟩ := sp_tray_of hp.1
  rw [ex, ey] at hp
  exact ⟨s, x, y, h0, hle.1, by omega, (Nat.le_total m (sp_ahd F (5 + j))).elim (fun q => Or.inr (by rw [← hsd, Nat.min_eq_left q])) (fun q => Or.inl (by rw [← hsd, Nat.min_eq_right q])), by omega, es, hx, hy, ex, ey, by simpa using hp.2⟩
theorem GI_mv {j : Nat} {n : Int32} {z : Bool} (hj : j < 12) (h : GI F) (ho : sp_obj F (5 + j) (sp_okn n) = 0) (hc : z = true → ¬ F (5 + j) 6 = 0) (hs : ¬ sp_sld F (5 + j) n = 0) : GI (sp_dis (np_mv1 F (5 + j) (sp_sld F (5 + j) n) z) 0 12) := by
  refine GI_dis 12 0 _ (by omega) ?_
  obtain ⟨V, hr, hk⟩ := h
  obtain ⟨h1, h2, h3, h4, h5, h6, h7⟩ := ga_obj hr hk hj ho
  obtain ⟨s, x, y, -, -, -, -, -, es, hx, hy, ex, ey, hin⟩ := ga_go hr hk hj h1 hs
  have hB := hk.2.2.2.1
  unfold gmB at hB
  have hf := ga_in_n hr hk.1 hin
  have key : GI (np_mv0 F (5 + j) (sp_sld F (5 + j) n)) := by
    unfold np_mv0
    rw [es, ex, ey, ga_act hr h7]
    exact ⟨_, rep_u (rep_u (rep_u hr)), ok_act (ok_pos hj hx hy (fun i hi a b c => (hf i hi a b c).elim) hk) (by omega)⟩
  unfold np_mv1
  cases z with
  | true =>
    rw [if_pos rfl]
    refine GI_py hj key ?_
    have e : np_mv0 F (5 + j) (sp_sld F (5 + j) n) (5 + j) 6 = F (5 + j) 6 := by
      unfold np_mv0
      rw [np_u_a (by omega), np_u_k (by decide), np_u_k (by decide)]
    rw [e]
    exact hc rfl
  | false =>
    rw [if_neg (by decide)]
    exact GI_kn hj key
/-- in order, with a shot more than hits, and going on -/
def GIh (F : Nat → Nat → Int32) : Prop := ∃ V, gm_rep F V ∧ gm_ok V ∧ V 1 9 < V 1 8 ∧ V 1 4 = 1 ∧ ¬ V 3 1 = 0 ∧ ¬ V 4 1 = 0
theorem GIh.gi (h : GIh F) : GI F := by
  obtain ⟨V, a, b, -⟩ := h
  exact ⟨V, a, b⟩
theorem sp_sho_z {a : Nat} {y z : Int32} (ho : sp_sho F a y z = 0) : sp_obj F a (sp_tray y z) = 0 ∧ ¬ F a 6 = 0 ∧ sp_rng F a y z = true ∧ sp_rch F a y z = true := by
  unfold sp_sho at ho
  by_cases g : sp_obj F a (sp_tray y z) = 0
  · rw [if_pos g] at ho
    by_cases h2 : F a 6 = 0
    · simp [h2] at ho
    · cases h3 : sp_rng F a y z with
      | false => simp [h2, h3] at ho
      | true => cases h4 : sp_rch F a y z with
        | false => simp [h2, h3, h4] at ho
        | true => exact ⟨g, h2, rfl, rfl⟩
  · rw [if_neg g] at ho; exact absurd ho g
theorem GI_sh {j : Nat} {y z : Int32} (hj : j < 12) (h : GI F) (ho : sp_sho F (5 + j) y z = 0) : GIh (np_shF F (5 + j)) := by
  obtain ⟨V, hr, hk⟩ := h
  obtain ⟨ho1, h6, -, -⟩ := sp_sho_z ho
  obtain ⟨h1, h2, h3, h4, h5, h8, h7⟩ := ga_obj hr hk hj ho1
  have e6 := gv_s hr hj (show 6 < 9 by decide)
  have n6 : ¬ V (5 + j) 6 = 0 := fun q => h6 (by rw [e6, q]; rfl)
  have hB := hk.2.2.2.1
  have hT := hk.2.2.2.2.2.2.2
  unfold gmB at hB
  unfold gmT at hT
  unfold np_shF
  rw [np_kn_u (by omega), np_kn_u (by omega)]
  rcases ga_aco hr hk.1 hj with ⟨f, e⟩ | ⟨f, e⟩
  · rw [e, e6, ga_act hr h7, gv_3 hr (show 5 < 8 by decide), gv_1 hr (show 8 = 3 ∨ 8 = 4 ∨ 8 = 5 ∨ 8 = 6 ∨ 8 = 8 ∨ 8 = 9 by decide), nI_1, nI_1, nI_sub1 n6]
    have hr' := rep_u (a := 1) (k := 6) (n := V 1 6 - 1) (rep_u (a := 1) (k := 8) (n := V 1 8 + 1) (rep_u (a := 3) (k := 5) (n := V 3 5 + 1) (rep_u (a := 5 + j) (k := 6) (n := V (5 + j) 6 - 1) hr)))
    have hk' := ok_act (n := V 1 6 - 1) (ok_fire0 hj f n6 hk) (by omega)
    unfold np_kn
    rw [gv_s hr' hj (show 2 < 9 by decide), gv_s hr' hj (show 3 < 9 by decide)]
    refine ⟨_, rep_u (rep_u hr'), ok_kn hj hk', ?_⟩
    simp [vu_s, np_5', np_5]
    omega
  · rw [e, e6, ga_act hr h7, gv_4 hr (show 5 < 8 by decide), gv_1 hr (show 8 = 3 ∨ 8 = 4 ∨ 8 = 5 ∨ 8 = 6 ∨ 8 = 8 ∨ 8 = 9 by decide), nI_1, nI_1, nI_sub1 n6]
    have hr' := rep_u (a := 1) (k := 6) (n := V 1 6 - 1) (rep_u (a := 1) (k := 8) (n := V 1 8 + 1) (rep_u (a := 4) (k := 5) (n := V 4 5 + 1) (rep_u (a := 5 + j) (k := 6) (n := V (5 + j) 6 - 1) hr)))
    have hk' := ok_act (n := V 1 6 - 1) (ok_fire1 hj f n6 hk) (by omega)
    unfold np_kn
    rw [gv_s hr' hj (show 2 < 9 by decide), gv_s hr' hj (show 3 < 9 by decide)]
    refine ⟨_, rep_u (rep_u hr'), ok_kn hj hk', ?_⟩
    simp [vu_s, np_5', np_5]
    omega
theorem GI_ht {t : Nat} (ht : t < 12) (h : GIh F) (h0 : sp_aflo F (5 + t) = true) : GI (np_htF F (5 + t)) := by
  obtain ⟨V, hr, hk, h9, h4, h31, h41⟩ := h
  rw [ga_aflo hr hk.1 ht] at h0
  have n5 : ¬ V (5 + t) 5 = 0 := by simpa using h0
  have hA := hk.1 t ht
  have e5 := gv_s hr ht (show 5 < 9 by decide)
  have e9 : F 1 9 + 1 = nI (V 1 9 + 1) := by rw [gv_1 hr (show 9 = 3 ∨ 9 = 4 ∨ 9 = 5 ∨ 9 = 6 ∨ 9 = 8 ∨ 9 = 9 by decide), nI_1]
  unfold np_htF
  rw [e5, nI_sub1 n5]
  have h12 : V (5 + t) 5 = 1 ∨ V (5 + t) 5 = 2 := by omega
  rcases h12 with h1 | h1
  · rw [h1, if_neg (by decide)]
    unfold np_h2F np_h1F
    rw [np_kn_u (by have := @sp_aco_lt (F (5 + t) 1); omega), np_kn_u (by have := @sp_aco_lt (F (5 + t) 1); omega), np_kn_u (by omega)]
    refine GI_kn ht ?_
    rw [e9, e5, h1]
    have e1 : nI 1 - 1 = nI 0 := nI_sub1 (by decide)
    rw [e1]
    rcases ga_aco hr hk.1 ht with ⟨f, e⟩ | ⟨f, e⟩
    · have a1 : np_kn (np_u (np_u F 1 9 (nI (V 1 9 + 1))) (5 + t) 5 (nI 0)) (5 + t) 3 1 = nI (V 3 1) := by
        rw [np_kn_a (by omega), np_u_a (by omega), np_u_a (by omega), gv_3 hr (by decide)]
      have a7 : np_kn (np_u (np_u F 1 9 (nI (V 1 9 + 1))) (5 + t) 5 (nI 0)) (5 + t) 3 7 = nI (V 3 7) := by
        rw [np_kn_a (by omega), np_u_a (by omega), np_u_a (by omega), gv_3 hr (by decide)]
      have g1 : np_h1F F (5 + t) 3 1 = nI (V 3 1) := by
        unfold np_h1F
        rw [np_kn_a (by omega), np_u_a (by omega), np_u_a (by omega), gv_3 hr (by decide)]
      have g7 : np_h1F F (5 + t) 3 7 = nI (V 3 7) := by
        unfold np_h1F
        rw [np_kn_a (by omega), np_u_a (by omega), np_u_a (by omega), gv_3 hr (by decide)]
      rw [e]
      (try rw [a1]); (try rw [a7]); (try rw [g1]); (try rw [g7])
      rw [gv_s hr ht (show 6 < 9 by decide)]
      (try rw [gv_3 hr (show 1 < 8 by decide)]); (try rw [gv_3 hr (show 7 < 8 by decide)])
      rw [nI_add, nI_sub1 h31]
      exact ⟨_, rep_u (n := 0) (rep_u (rep_u (rep_u (rep_u hr)))), ok_sink0 ht f h1 h9 h4 h41 hk⟩
    · have a1 : np_kn (np_u (np_u F 1 9 (nI (V 1 9 + 1))) (5 + t) 5 (nI 0)) (5 + t) 4 1 = nI (V 4 1) := by
        rw [np_kn_a (by omega), np_u_a (by omega), np_u_a (by omega), gv_4 hr (by decide)]
      have a7 : np_kn (np_u (np_u F 1 9 (nI (V 1 9 + 1))) (5 + t) 5 (nI 0)) (5 + t) 4 7 = nI (V 4 7) := by
        rw [np_kn_a (by omega), np_u_a (by omega), np_u_a (by omega), gv_4 hr (by decide)]
      rw [e]
      (try rw [a1]); (try rw [a7])
      rw [gv_s hr ht (show 6 < 9 by decide)]
      (try rw [gv_4 hr (show 1 < 8 by decide)]); (try rw [gv_4 hr (show 7 < 8 by decide)])
      rw [nI_add, nI_sub1 h41]
      exact ⟨_, rep_u (n := 0) (rep_u (rep_u (rep_u (rep_u hr)))), ok_sink1 ht f h1 h9 h4 h31 hk⟩
  · rw [h1, if_pos (by decide)]
    unfold np_h1F
    rw [e9, e5, h1]
    exact GI_kn ht ⟨_, rep_u (n := 1) (rep_u hr), ok_hit ht h1 h9 hk⟩
theorem GI_sG {j : Nat} {y z : Int32} (hj : j < 12) (h : GI F) (ho : sp_sho F (5 + j) y z = 0) : GI (np_shG F (5 + j) y z) := by
  have g := GI_sh hj h ho
  unfold np_shG
  cases hx : sp_in (np_shF F (5 + j)) y z with
  | none => exact g.gi
  | some t =>
    have hp := (sp_fnd_lt _ _ _ hx).2.2
    unfold sp_at at hp
    simp only [Bool.and_eq_true] at hp
    exact GI_ht (sp_in_lt hx) g hp.1
theorem sp_plc_z {f x y b c : Int32} (ho : sp_plc F f x y b c = 0) : (f = 0 ∨ f = 1) ∧ sp_tray x y = true ∧ sp_okb b = true ∧ sp_okc c = true ∧ F 1 4 = 0 ∧ F (sp_aco f) 0 < 6 ∧ F 1 3 < 12 ∧ sp_in F x y = none := by
  unfold sp_plc at ho
  cases h1 : sp_isf f with
  | false => simp [h1] at ho
  | true =>
  cases h2 : sp_okp x y b c with
  | false => simp [h1, h2] at ho
  | true =>
  cases h3 : sp_stp F f with
  | false => simp [h1, h2, h3] at ho
  | true =>
  cases hx : sp_in F x y with
  | some i => simp [h1, h2, h3, hx] at ho
  | none =>
  unfold sp_isf at h1
  unfold sp_okp at h2
  unfold sp_stp at h3
  simp only [Bool.and_eq_true, Bool.or_eq_true, decide_eq_true_eq] at h1 h2 h3
  exact ⟨h1, h2.1, h2.2.1, h2.2.2, h3.1, h3.2.1, h3.2.2, rfl⟩
theorem GI_pl {f x y b c : Int32} (h : GI F) (ho : sp_plc F f x y b c = 0) : ∃ j, j < 12 ∧ F 1 3 = nI j ∧ GI (np_plF F j f x y b c) := by
  obtain ⟨V, hr, hk⟩ := h
  obtain ⟨hf, ht, hb, hc, h4, h0, h3, hin⟩ := sp_plc_z ho
  obtain ⟨x', y', hx, hy, rfl, rfl⟩ := sp_tray_of ht
  obtain ⟨b', hb', rfl⟩ := okb_of hb
  obtain ⟨c', -, hc', rfl⟩ := okc_of hc
  have hB := hk.2.2.2.1
  unfold gmB at hB
  rw [gv_1 hr (by simp)] at h4 h3
  have n4 : V 1 4 = 0 := (nI_e (b := 0) (by omega) (by decide)).mp h4
  have hC := hk.2.1.1
  have hj : V 1 3 < 12 := (nI_ltI (by omega) (by decide)).mp (show nI (V 1 3) < nI 12 from h3)
  have hX := hk.2.2.2.2.1
  have hY := hk.2.2.2.2.2.1
  unfold gmX at hX hY
  have hfr := ga_in_n hr hk.1 hin
  refine ⟨V 1 3, hj, gv_1 hr (by simp), ?_⟩
  unfold np_plF np_kn
  rw [np_u_k (show ¬ 2 = 6 by decide), np_u_k (show ¬ 2 = 5 by decide), np_u_k (show ¬ 2 = 4 by decide), np_u_k (show ¬ 2 = 3 by decide), np_u_eq, np_u_k (show ¬ 3 = 6 by decide), np_u_k (show ¬ 3 = 5 by decide), np_u_k (show ¬ 3 = 4 by decide), np_u_eq]
  rw [gv_1 hr (show 3 = 3 ∨ 3 = 4 ∨ 3 = 5 ∨ 3 = 6 ∨ 3 = 8 ∨ 3 = 9 by decide), nI_1]
  rcases hf with rfl | rfl
  · have e : sp_aco 0 = 3 := rfl
    rw [e] at h0 ⊢
    rw [gv_3 hr (show 0 < 8 by decide)] at h0 ⊢
    have n0 : V 3 0 < 6 := (nI_ltI (by omega) (by decide)).mp (show nI (V 3 0) < nI 6 from h0)
    rw [gv_3 hr (show 1 < 8 by decide), gv_3 hr (show 3 < 8 by decide), nI_1, nI_1, nI_add]
    exact ⟨_, rep_u (rep_u (rep_u (rep_u (rep_u (rep_u (rep_u (rep_u (n := 2) (rep_u (rep_u (rep_u (rep_u (n := 0) hr))))))))))), ok_place0 hj rfl n4 n0 hx hy hb' hc' hfr hk⟩
  · have e : sp_aco 1 = 4 := rfl
    rw [e] at h0 ⊢
    rw [gv_4 hr (show 0 < 8 by decide)] at h0 ⊢
    have n0 : V 4 0 < 6 := (nI_ltI (by omega) (by decide)).mp (show nI (V 4 0) < nI 6 from h0)
    rw [gv_4 hr (show 1 < 8 by decide), gv_4 hr (show 3 < 8 by decide), nI_1, nI_1, nI_add]
    exact ⟨_, rep_u (rep_u (rep_u (rep_u (rep_u (rep_u (rep_u (rep_u (n := 2) (rep_u (rep_u (rep_u (rep_u (n := 1) hr))))))))))), ok_place1 hj rfl n4 n0 hx hy hb' hc' hfr hk⟩
end
