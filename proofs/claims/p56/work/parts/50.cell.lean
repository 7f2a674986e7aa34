/-! THE PURE PART, 20: a cell of the script; how far. -/
theorem tx_rem : ∀ i, i < 37 → ∀ n, n < 261 → n = 0 ∨ ((nI i &&& 65535) - (nI i &&& 65535) / Int32.ofNat n * Int32.ofNat n = nI (i % n) ∧ ¬ Int32.ofNat n = 0) := by decide +kernel
/-- what the law reads of the script -/
def sp_cel (scr : nv_Scr) (i : Nat) : Int32 := if scr.1 = 0 then 577 * nI i else scr.2 (i % scr.1)
section
variable {F : Nat → Nat → Int32} {L : Nat → Int64} {C : Nat → Nat → Int32} {fm k : Nat} {scr : nv_Scr}
theorem m176 {x u v : Int32} {j : Nat} (h : sp_num F x = some j) (ha : sp_aflo F (5 + j) = true) : np_X 176 0 [some (.ref 0), some (.int x), some (.int u), some (.int v)] [] (np_S F L C fm k scr) = np_o (sp_max (sp_far (F (5 + j) 2) u) (sp_far (F (5 + j) 3) v)) (np_S F L C fm k scr) := by
  simp only [e176_0, e176_0u, e176_1, e176_2, e176_5, e176_6, e176_9, e176_9u, e176_10, e176_11, e176_14, e176_15, e176_18, e176_21, isoN, np_len0, List.length_cons, List.length_nil, Nat.reduceLeDiff, Nat.reduceAdd, m87s h, m88s h, ha, if_true, np_aft_v, m170, np_ni, sp_max]
theorem m140 {i : Nat} (hi : i < 37) (hn : scr.1 ≤ 260) : np_X 140 0 [some (.ref nv_scrA), some (.int (nI i))] [] (np_S F L C fm k scr) = np_o (sp_cel scr i) (np_S F L C fm k scr) := by
  obtain ⟨n, xs⟩ := scr
  dsimp only at hn
  have es : (np_S F L C fm k (n, xs)).2.2.2.2 = (n, xs) := rfl
  unfold sp_cel
  rcases tx_rem i hi n (by omega) with rfl | ⟨h1, h2⟩
  · have e : Int32.ofNat 0 = 0 := by decide
    simp only [e140_0, e140_0u, e140_1, e140_2, e140_5, e140_8, e140_9, e140_10, e140_13, e140_13u, e140_14, e140_15, e140_17, e140_18, e140_18u, e140_19, e140_20, e140_21, e140_22, es, e, if_true]
  · have h0 : ¬ n = 0 := by
      rintro rfl
      exact h2 (by decide)
    have hlt : i % n < n := Nat.mod_lt _ (by omega)
    have hc : (nI (i % n)).toNatClampNeg = i % n := nI_clamp (by omega)
    have e21 := @e140_21 [some (.ref nv_scrA), some (.int (nI i))] [] (np_S F L C fm k (n, xs)) (nI (i % n)) (nI_pos (by omega)) (by rw [hc]; exact hlt)
    simp only [e140_0, e140_0u, e140_1, e140_2, e140_5, e140_8, e140_9, e140_10, e140_13, e140_13u, e140_14, e140_15, e140_17, e140_18, e140_18u, e140_19, e140_20, e140_22, es, h2, if_false, not_false_eq_true, h1, e21, hc, h0]
end
