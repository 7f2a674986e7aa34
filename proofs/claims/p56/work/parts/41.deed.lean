/-! THE PURE PART, 11: the face's changes: the game is copied to the object 17, changed, and what came of it is concluded (written by wip/p56/gen41.py). -/
/-- what a change of the game may write: the addresses 1 to 16 -/
def np_loc (F F' : Nat → Nat → Int32) : Prop := ∀ a i, a = 0 ∨ 17 ≤ a → F' a i = F a i
theorem np_loc.rf {F : Nat → Nat → Int32} : np_loc F F := fun _ _ _ => rfl
theorem np_loc.u {F F' : Nat → Nat → Int32} {b k : Nat} {v : Int32} (h : np_loc F F') (hb : 1 ≤ b ∧ b ≤ 16) : np_loc F (np_u F' b k v) := fun a i ha => by
  rw [np_u_a (by omega)]
  exact h a i ha
theorem np_loc.kn {F F' : Nat → Nat → Int32} {b : Nat} (h : np_loc F F') (hb : 1 ≤ b ∧ b ≤ 16) : np_loc F (np_kn F' b) := (h.u hb).u hb
theorem np_loc.trans {F G H : Nat → Nat → Int32} (h : np_loc F G) (g : np_loc G H) : np_loc F H := fun a i ha => (g a i ha).trans (h a i ha)
theorem np_lb {j : Nat} (h : j < 12) : 1 ≤ 5 + j ∧ 5 + j ≤ 16 := by omega
theorem np_la {f : Int32} : 1 ≤ sp_aco f ∧ sp_aco f ≤ 16 := by have := @sp_aco_lt f; omega
theorem np_l1 : 1 ≤ 1 ∧ 1 ≤ 16 := by omega
section
variable {F : Nat → Nat → Int32} {j : Nat}
theorem np_plF_loc {f x y b c : Int32} (h : j < 12) : np_loc F (np_plF F j f x y b c) := (((((((((((np_loc.rf.u (np_lb h)).u (np_lb h)).u (np_lb h)).u (np_lb h)).u (np_lb h)).u (np_lb h)).kn (np_lb h)).u np_la).u np_la).u np_la).u np_l1)
theorem np_bgF_loc : np_loc F (np_bgF F) := ((np_loc.rf.u np_l1).u np_l1).u np_l1
theorem np_ptF_loc : np_loc F (np_ptF F) := ((np_loc.rf.u np_l1).u np_l1).u np_l1
theorem np_roF_loc {b : Int32} (h : j < 12) : np_loc F (np_roF F (5 + j) b) := (np_loc.rf.u (np_lb h)).u np_l1
theorem np_pyF_loc (h : j < 12) : np_loc F (np_pyF F (5 + j)) := ((np_loc.rf.u (np_lb h)).u np_la).u np_l1
theorem np_fiF_loc {c : Int32} (h : j < 12) : np_loc F (np_fiF F (5 + j) c) := (((np_loc.rf.u np_la).u np_la).u (np_lb h)).u np_l1
theorem np_ds1_loc (h : j < 12) : np_loc F (sp_ds1 F j) := by
  unfold sp_ds1
  split
  · exact np_loc.rf.kn (np_lb h)
  · exact np_loc.rf
theorem np_mv0_loc {s : Int32} (h : j < 12) : np_loc F (np_mv0 F (5 + j) s) := ((np_loc.rf.u (np_lb h)).u (np_lb h)).u np_l1
theorem np_mv1_loc {s : Int32} {z : Bool} (h : j < 12) : np_loc F (np_mv1 F (5 + j) s z) := by
  unfold np_mv1
  split
  · exact (np_mv0_loc h).trans (np_pyF_loc h)
  · exact (np_mv0_loc h).kn (np_lb h)
theorem np_h1F_loc (h : j < 12) : np_loc F (np_h1F F (5 + j)) := ((np_loc.rf.u np_l1).u (np_lb h)).kn (np_lb h)
theorem np_htF_loc (h : j < 12) : np_loc F (np_htF F (5 + j)) := by
  unfold np_htF
  split
  · exact np_h1F_loc h
  · exact (((np_h1F_loc h).u np_la).u np_la).u (np_lb h)
theorem np_shF_loc (h : j < 12) : np_loc F (np_shF F (5 + j)) := ((((np_loc.rf.u (np_lb h)).u np_la).kn (np_lb h)).u np_l1).u np_l1
theorem np_shG_loc {y z : Int32} (h : j < 12) : np_loc F (np_shG F (5 + j) y z) := by
  unfold np_shG
  cases hx : sp_in (np_shF F (5 + j)) y z with
  | none => exact np_shF_loc h
  | some t => exact (np_shF_loc h).trans (np_htF_loc (sp_in_lt hx))
end
theorem np_dis_loc : ∀ (n i : Nat) (F : Nat → Nat → Int32), i + n ≤ 12 → np_loc F (sp_dis F i n)
  | 0, i, F, _ => np_loc.rf
  | n + 1, i, F, h => (np_ds1_loc (by omega)).trans (np_dis_loc n (i + 1) _ (by omega))
/-- the history's counters -/
def np_Hs (F : Nat → Nat → Int32) (j s : Nat) : Prop := j < 8 ∧ s ≤ 8 ∧ F 49 1 = nI j ∧ F 49 2 = nI s
theorem np_Hs.loc {F F' : Nat → Nat → Int32} {j s : Nat} (h : np_Hs F j s) (g : np_loc F F') : np_Hs F' j s := ⟨h.1, h.2.1, by rw [g 49 1 (by omega)]; exact h.2.2.1, by rw [g 49 2 (by omega)]; exact h.2.2.2⟩
theorem np_Hs.cp {F : Nat → Nat → Int32} {b c j s : Nat} (h : np_Hs F j s) (hb : np_B b) : np_Hs (np_cp F b c) j s := by
  have := np_B_lt hb
  have e : ¬ (b ≤ 49 ∧ 49 < b + 16) := by
    rcases hb with rfl | rfl | rfl | ⟨i, hi, rfl⟩ <;> omega
  exact ⟨h.1, h.2.1, by rw [np_cp_o e]; exact h.2.2.1, by rw [np_cp_o e]; exact h.2.2.2⟩
/-- the game copied before a change -/
abbrev np_F0 (F : Nat → Nat → Int32) : Nat → Nat → Int32 := np_cp F 17 1
abbrev np_L0 (L : Nat → Int64) : Nat → Int64 := np_uL L 17 (L 1)
theorem np_F0_1 {F : Nat → Nat → Int32} {a i : Nat} (h : a < 17) : np_F0 F a i = F a i := np_cp_o (by omega)
theorem np_F0_17 {F : Nat → Nat → Int32} : np_F0 F 17 4 = F 1 4 := if_pos ⟨by omega, by omega, Or.inl ⟨rfl, by omega, by omega, by omega⟩⟩
/-- an outcome that stands for an exception -/
def np_bad (x : Int32) : Prop := x = -1 ∨ x = -2 ∨ x = -3 ∨ x = -4 ∨ x = -11 ∨ x = -12 ∨ x = -13 ∨ x = -14 ∨ x = -15 ∨ x = -16
section
variable {F : Nat → Nat → Int32} {L : Nat → Int64} {C : Nat → Nat → Int32} {fm k : Nat} {scr : nv_Scr}
variable {F1 : Nat → Nat → Int32} {L1 : Nat → Int64} {r : Int32} {j s : Nat}

theorem m72 {f : Int32} {x : Int32} {y : Int32} {d : Int32} {c : Int32} (hB : F 1 4 = 0 ∨ F 1 4 = 1) (h : np_X 44 0 [some (.ref 1), some (.int f), some (.int x), some (.int y), some (.int d), some (.int c), none, none] [] (np_S (np_F0 F) (np_L0 L) C fm k scr) = np_o r (np_S F1 L1 C fm k scr)) (hr : ¬ r < 0) (hH : np_Hs F1 j s) (hB1 : F1 17 4 = 0 ∨ F1 17 4 = 1) : np_X 72 0 [some (.ref 0), some (.int f), some (.int x), some (.int y), some (.int d), some (.int c)] [] (np_S F L C fm k scr) = np_o r (np_S (np_psF F1 j s) (np_uL L1 (51 + 16 * j) (L1 17)) C fm k scr) := by
  simp only [e72_0, e72_0u, e72_1, e72_4, e72_4u, e72_5, e72_8, e72_11, e72_11u, e72_12, e72_12u, e72_13, e72_16, e72_17, e72_18, e72_19, e72_21, e72_23, e72_26, e72_29, fldN0, fldN1, np_b_s, isoG np_B17, isoG np_B1, isoN, np_len0, List.length_cons, List.length_nil, Nat.reduceLeDiff, Nat.reduceAdd, m27 np_B17 np_B1 (show ¬ 17 = 1 by decide) hB, np_aft_u, h, np_aft_v, m123s hr hH.1 hH.2.1 hH.2.2.1 hH.2.2.2 hB1, np_ni]
theorem m72x {f : Int32} {x : Int32} {y : Int32} {d : Int32} {c : Int32} (hB : F 1 4 = 0 ∨ F 1 4 = 1) (h : np_X 44 0 [some (.ref 1), some (.int f), some (.int x), some (.int y), some (.int d), some (.int c), none, none] [] (np_S (np_F0 F) (np_L0 L) C fm k scr) = np_o r (np_S (np_F0 F) (np_L0 L) C fm k scr)) (hr : np_bad r) : np_X 72 0 [some (.ref 0), some (.int f), some (.int x), some (.int y), some (.int d), some (.int c)] [] (np_S F L C fm k scr) = np_xo (sp_exc r) (np_S (np_krF (np_F0 F) r) (np_L0 L) C fm (k + 1) scr) := by
  simp only [e72_0, e72_0u, e72_1, e72_4, e72_4u, e72_5, e72_8, e72_11, e72_11u, e72_12, e72_12u, e72_13, e72_16, e72_17, e72_18, e72_19, e72_21, e72_23, e72_26, e72_29, fldN0, fldN1, np_b_s, isoG np_B17, isoG np_B1, isoN, np_len0, List.length_cons, List.length_nil, Nat.reduceLeDiff, Nat.reduceAdd, m27 np_B17 np_B1 (show ¬ 17 = 1 by decide) hB, np_aft_u, h, np_aft_v, m123n hr, np_aft_x, np_hn, Nat.reduceLT]
theorem m73  (hB : F 1 4 = 0 ∨ F 1 4 = 1) (h : np_X 45 0 [some (.ref 1)] [] (np_S (np_F0 F) (np_L0 L) C fm k scr) = np_o r (np_S F1 L1 C fm k scr)) (hr : ¬ r < 0) (hH : np_Hs F1 j s) (hB1 : F1 17 4 = 0 ∨ F1 17 4 = 1) : np_X 73 0 [some (.ref 0)] [] (np_S F L C fm k scr) = np_o r (np_S (np_psF F1 j s) (np_uL L1 (51 + 16 * j) (L1 17)) C fm k scr) := by
  simp only [e73_0, e73_0u, e73_1, e73_4, e73_4u, e73_5, e73_8, e73_11, e73_11u, e73_12, e73_12u, e73_13, e73_16, e73_19, e73_22, fldN0, fldN1, np_b_s, isoG np_B17, isoG np_B1, isoN, np_len0, List.length_cons, List.length_nil, Nat.reduceLeDiff, Nat.reduceAdd, m27 np_B17 np_B1 (show ¬ 17 = 1 by decide) hB, np_aft_u, h, np_aft_v, m123s hr hH.1 hH.2.1 hH.2.2.1 hH.2.2.2 hB1, np_ni]
theorem m73x  (hB : F 1 4 = 0 ∨ F 1 4 = 1) (h : np_X 45 0 [some (.ref 1)] [] (np_S (np_F0 F) (np_L0 L) C fm k scr) = np_o r (np_S (np_F0 F) (np_L0 L) C fm k scr)) (hr : np_bad r) : np_X 73 0 [some (.ref 0)] [] (np_S F L C fm k scr) = np_xo (sp_exc r) (np_S (np_krF (np_F0 F) r) (np_L0 L) C fm (k + 1) scr) := by
  simp only [e73_0, e73_0u, e73_1, e73_4, e73_4u, e73_5, e73_8, e73_11, e73_11u, e73_12, e73_12u, e73_13, e73_16, e73_19, e73_22, fldN0, fldN1, np_b_s, isoG np_B17, isoG np_B1, isoN, np_len0, List.length_cons, List.length_nil, Nat.reduceLeDiff, Nat.reduceAdd, m27 np_B17 np_B1 (show ¬ 17 = 1 by decide) hB, np_aft_u, h, np_aft_v, m123n hr, np_aft_x, np_hn, Nat.reduceLT]
theorem m74  (hB : F 1 4 = 0 ∨ F 1 4 = 1) (h : np_X 46 0 [some (.ref 1)] [] (np_S (np_F0 F) (np_L0 L) C fm k scr) = np_o r (np_S F1 L1 C fm k scr)) (hr : ¬ r < 0) (hH : np_Hs F1 j s) (hB1 : F1 17 4 = 0 ∨ F1 17 4 = 1) : np_X 74 0 [some (.ref 0)] [] (np_S F L C fm k scr) = np_o r (np_S (np_psF F1 j s) (np_uL L1 (51 + 16 * j) (L1 17)) C fm k scr) := by
  simp only [e74_0, e74_0u, e74_1, e74_4, e74_4u, e74_5, e74_8, e74_11, e74_11u, e74_12, e74_12u, e74_13, e74_16, e74_19, e74_22, fldN0, fldN1, np_b_s, isoG np_B17, isoG np_B1, isoN, np_len0, List.length_cons, List.length_nil, Nat.reduceLeDiff, Nat.reduceAdd, m27 np_B17 np_B1 (show ¬ 17 = 1 by decide) hB, np_aft_u, h, np_aft_v, m123s hr hH.1 hH.2.1 hH.2.2.1 hH.2.2.2 hB1, np_ni]
theorem m74x  (hB : F 1 4 = 0 ∨ F 1 4 = 1) (h : np_X 46 0 [some (.ref 1)] [] (np_S (np_F0 F) (np_L0 L) C fm k scr) = np_o r (np_S (np_F0 F) (np_L0 L) C fm k scr)) (hr : np_bad r) : np_X 74 0 [some (.ref 0)] [] (np_S F L C fm k scr) = np_xo (sp_exc r) (np_S (np_krF (np_F0 F) r) (np_L0 L) C fm (k + 1) scr) := by
  simp only [e74_0, e74_0u, e74_1, e74_4, e74_4u, e74_5, e74_8, e74_11, e74_11u, e74_12, e74_12u, e74_13, e74_16, e74_19, e74_22, fldN0, fldN1, np_b_s, isoG np_B17, isoG np_B1, isoN, np_len0, List.length_cons, List.length_nil, Nat.reduceLeDiff, Nat.reduceAdd, m27 np_B17 np_B1 (show ¬ 17 = 1 by decide) hB, np_aft_u, h, np_aft_v, m123n hr, np_aft_x, np_hn, Nat.reduceLT]
theorem m81 {x : Int32} {d : Int32} (hB : F 1 4 = 0 ∨ F 1 4 = 1) (h : np_X 47 0 [some (.ref 1), some (.int x), some (.int d), none, none, none] [] (np_S (np_F0 F) (np_L0 L) C fm k scr) = np_o r (np_S F1 L1 C fm k scr)) (hr : ¬ r < 0) (hH : np_Hs F1 j s) (hB1 : F1 17 4 = 0 ∨ F1 17 4 = 1) : np_X 81 0 [some (.ref 0), some (.int x), some (.int d)] [] (np_S F L C fm k scr) = np_o r (np_S (np_psF F1 j s) (np_uL L1 (51 + 16 * j) (L1 17)) C fm k scr) := by
  simp only [e81_0, e81_0u, e81_1, e81_4, e81_4u, e81_5, e81_8, e81_11, e81_11u, e81_12, e81_12u, e81_13, e81_16, e81_17, e81_18, e81_21, e81_24, fldN0, fldN1, np_b_s, isoG np_B17, isoG np_B1, isoN, np_len0, List.length_cons, List.length_nil, Nat.reduceLeDiff, Nat.reduceAdd, m27 np_B17 np_B1 (show ¬ 17 = 1 by decide) hB, np_aft_u, h, np_aft_v, m123s hr hH.1 hH.2.1 hH.2.2.1 hH.2.2.2 hB1, np_ni]
theorem m81x {x : Int32} {d : Int32} (hB : F 1 4 = 0 ∨ F 1 4 = 1) (h : np_X 47 0 [some (.ref 1), some (.int x), some (.int d), none, none, none] [] (np_S (np_F0 F) (np_L0 L) C fm k scr) = np_o r (np_S (np_F0 F) (np_L0 L) C fm k scr)) (hr : np_bad r) : np_X 81 0 [some (.ref 0), some (.int x), some (.int d)] [] (np_S F L C fm k scr) = np_xo (sp_exc r) (np_S (np_krF (np_F0 F) r) (np_L0 L) C fm (k + 1) scr) := by
  simp only [e81_0, e81_0u, e81_1, e81_4, e81_4u, e81_5, e81_8, e81_11, e81_11u, e81_12, e81_12u, e81_13, e81_16, e81_17, e81_18, e81_21, e81_24, fldN0, fldN1, np_b_s, isoG np_B17, isoG np_B1, isoN, np_len0, List.length_cons, List.length_nil, Nat.reduceLeDiff, Nat.reduceAdd, m27 np_B17 np_B1 (show ¬ 17 = 1 by decide) hB, np_aft_u, h, np_aft_v, m123n hr, np_aft_x, np_hn, Nat.reduceLT]
theorem m82 {x : Int32} {n : Int32} {z : Bool} (hB : F 1 4 = 0 ∨ F 1 4 = 1) (h : np_X 48 0 [some (.ref 1), some (.int x), some (.int n), some (.int (np_i z)), none, none, none] [] (np_S (np_F0 F) (np_L0 L) C fm k scr) = np_o r (np_S F1 L1 C fm k scr)) (hr : ¬ r < 0) (hH : np_Hs F1 j s) (hB1 : F1 17 4 = 0 ∨ F1 17 4 = 1) : np_X 82 0 [some (.ref 0), some (.int x), some (.int n), some (.int (np_i z))] [] (np_S F L C fm k scr) = np_o r (np_S (np_psF F1 j s) (np_uL L1 (51 + 16 * j) (L1 17)) C fm k scr) := by
  simp only [e82_0, e82_0u, e82_1, e82_4, e82_4u, e82_5, e82_8, e82_11, e82_11u, e82_12, e82_12u, e82_13, e82_16, e82_17, e82_18, e82_19, e82_22, e82_25, fldN0, fldN1, np_b_s, isoG np_B17, isoG np_B1, isoN, np_len0, List.length_cons, List.length_nil, Nat.reduceLeDiff, Nat.reduceAdd, m27 np_B17 np_B1 (show ¬ 17 = 1 by decide) hB, np_aft_u, h, np_aft_v, m123s hr hH.1 hH.2.1 hH.2.2.1 hH.2.2.2 hB1, np_ni]
theorem m82x {x : Int32} {n : Int32} {z : Bool} (hB : F 1 4 = 0 ∨ F 1 4 = 1) (h : np_X 48 0 [some (.ref 1), some (.int x), some (.int n), some (.int (np_i z)), none, none, none] [] (np_S (np_F0 F) (np_L0 L) C fm k scr) = np_o r (np_S (np_F0 F) (np_L0 L) C fm k scr)) (hr : np_bad r) : np_X 82 0 [some (.ref 0), some (.int x), some (.int n), some (.int (np_i z))] [] (np_S F L C fm k scr) = np_xo (sp_exc r) (np_S (np_krF (np_F0 F) r) (np_L0 L) C fm (k + 1) scr) := by
  simp only [e82_0, e82_0u, e82_1, e82_4, e82_4u, e82_5, e82_8, e82_11, e82_11u, e82_12, e82_12u, e82_13, e82_16, e82_17, e82_18, e82_19, e82_22, e82_25, fldN0, fldN1, np_b_s, isoG np_B17, isoG np_B1, isoN, np_len0, List.length_cons, List.length_nil, Nat.reduceLeDiff, Nat.reduceAdd, m27 np_B17 np_B1 (show ¬ 17 = 1 by decide) hB, np_aft_u, h, np_aft_v, m123n hr, np_aft_x, np_hn, Nat.reduceLT]
theorem m83 {x : Int32} {y : Int32} {w : Int32} (hB : F 1 4 = 0 ∨ F 1 4 = 1) (h : np_X 52 0 [some (.ref 1), some (.int x), some (.int y), some (.int w), none, none, none] [] (np_S (np_F0 F) (np_L0 L) C fm k scr) = np_o r (np_S F1 L1 C fm k scr)) (hr : ¬ r < 0) (hH : np_Hs F1 j s) (hB1 : F1 17 4 = 0 ∨ F1 17 4 = 1) : np_X 83 0 [some (.ref 0), some (.int x), some (.int y), some (.int w)] [] (np_S F L C fm k scr) = np_o r (np_S (np_psF F1 j s) (np_uL L1 (51 + 16 * j) (L1 17)) C fm k scr) := by
  simp only [e83_0, e83_0u, e83_1, e83_4, e83_4u, e83_5, e83_8, e83_11, e83_11u, e83_12, e83_12u, e83_13, e83_16, e83_17, e83_18, e83_19, e83_22, e83_25, fldN0, fldN1, np_b_s, isoG np_B17, isoG np_B1, isoN, np_len0, List.length_cons, List.length_nil, Nat.reduceLeDiff, Nat.reduceAdd, m27 np_B17 np_B1 (show ¬ 17 = 1 by decide) hB, np_aft_u, h, np_aft_v, m123s hr hH.1 hH.2.1 hH.2.2.1 hH.2.2.2 hB1, np_ni]
theorem m83x {x : Int32} {y : Int32} {w : Int32} (hB : F 1 4 = 0 ∨ F 1 4 = 1) (h : np_X 52 0 [some (.ref 1), some (.int x), some (.int y), some (.int w), none, none, none] [] (np_S (np_F0 F) (np_L0 L) C fm k scr) = np_o r (np_S (np_F0 F) (np_L0 L) C fm k scr)) (hr : np_bad r) : np_X 83 0 [some (.ref 0), some (.int x), some (.int y), some (.int w)] [] (np_S F L C fm k scr) = np_xo (sp_exc r) (np_S (np_krF (np_F0 F) r) (np_L0 L) C fm (k + 1) scr) := by
  simp only [e83_0, e83_0u, e83_1, e83_4, e83_4u, e83_5, e83_8, e83_11, e83_11u, e83_12, e83_12u, e83_13, e83_16, e83_17, e83_18, e83_19, e83_22, e83_25, fldN0, fldN1, np_b_s, isoG np_B17, isoG np_B1, isoN, np_len0, List.length_cons, List.length_nil, Nat.reduceLeDiff, Nat.reduceAdd, m27 np_B17 np_B1 (show ¬ 17 = 1 by decide) hB, np_aft_u, h, np_aft_v, m123n hr, np_aft_x, np_hn, Nat.reduceLT]
theorem m84 {x : Int32} {n : Int32} (hB : F 1 4 = 0 ∨ F 1 4 = 1) (h : np_X 54 0 [some (.ref 1), some (.int x), some (.int n), none, none, none] [] (np_S (np_F0 F) (np_L0 L) C fm k scr) = np_o r (np_S F1 L1 C fm k scr)) (hr : ¬ r < 0) (hH : np_Hs F1 j s) (hB1 : F1 17 4 = 0 ∨ F1 17 4 = 1) : np_X 84 0 [some (.ref 0), some (.int x), some (.int n)] [] (np_S F L C fm k scr) = np_o r (np_S (np_psF F1 j s) (np_uL L1 (51 + 16 * j) (L1 17)) C fm k scr) := by
  simp only [e84_0, e84_0u, e84_1, e84_4, e84_4u, e84_5, e84_8, e84_11, e84_11u, e84_12, e84_12u, e84_13, e84_16, e84_17, e84_18, e84_21, e84_24, fldN0, fldN1, np_b_s, isoG np_B17, isoG np_B1, isoN, np_len0, List.length_cons, List.length_nil, Nat.reduceLeDiff, Nat.reduceAdd, m27 np_B17 np_B1 (show ¬ 17 = 1 by decide) hB, np_aft_u, h, np_aft_v, m123s hr hH.1 hH.2.1 hH.2.2.1 hH.2.2.2 hB1, np_ni]
theorem m84x {x : Int32} {n : Int32} (hB : F 1 4 = 0 ∨ F 1 4 = 1) (h : np_X 54 0 [some (.ref 1), some (.int x), some (.int n), none, none, none] [] (np_S (np_F0 F) (np_L0 L) C fm k scr) = np_o r (np_S (np_F0 F) (np_L0 L) C fm k scr)) (hr : np_bad r) : np_X 84 0 [some (.ref 0), some (.int x), some (.int n)] [] (np_S F L C fm k scr) = np_xo (sp_exc r) (np_S (np_krF (np_F0 F) r) (np_L0 L) C fm (k + 1) scr) := by
  simp only [e84_0, e84_0u, e84_1, e84_4, e84_4u, e84_5, e84_8, e84_11, e84_11u, e84_12, e84_12u, e84_13, e84_16, e84_17, e84_18, e84_21, e84_24, fldN0, fldN1, np_b_s, isoG np_B17, isoG np_B1, isoN, np_len0, List.length_cons, List.length_nil, Nat.reduceLeDiff, Nat.reduceAdd, m27 np_B17 np_B1 (show ¬ 17 = 1 by decide) hB, np_aft_u, h, np_aft_v, m123n hr, np_aft_x, np_hn, Nat.reduceLT]
end
